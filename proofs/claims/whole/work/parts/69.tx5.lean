/-! Text: passBegin, of simple steps -/
section
variable {L d a c : Nat} {f t g : Mem} {Q : Option TV → Wd → Prop} {i j k : Int}
def en0 (t : Mem) (a : Nat) (op s b : Int) : Mem := mset (en4 t a op 0 s b) (a + 6) (t a 9).toNat (topH t a)
theorem en0_1 {op s b : Int} : en0 t a op s b a 1 = t a 1 := by unfold en0; rw [rd, if_neg (by omega)]; exact en4_a (by omega)
theorem s_Tx_passBegin0 {o : Bool} (hT : isT a) (hl : t a 1 ≤ 1000) (h0 : 0 ≤ t a 9) (h1 : t a 9 < 40) (ho : 0 ≤ t a 11) (ho5 : t a 11 ≤ 5) (hou : 0 ≤ t a 12 ∧ t a 12 ≤ 1000) (s : SS c) (hw : wS o s) (hi : 0 ≤ i) (hs : seg (tok t a) i j (kS s)) (hj : j ≤ t a 1) : VV L (d + 3) m_Tx_passBegin 0 [some (tA a), some (tI i), none, none] [] (WW f t g) Q = Q (some (tI j)) (WW f (en0 (ou1 t a) a (opS1 s) i (i + boS1 s)) g) := by
  obtain ⟨hn, hij, h59⟩ := kS_nxt s hw hs hj
  have hl' : ou1 t a a 1 ≤ 1000 := by rw [ou1_o (by omega)]; exact hl
  have h0' : 0 ≤ ou1 t a a 9 := by rw [ou1_o (by omega)]; exact h0
  have h1' : ou1 t a a 9 < 40 := by rw [ou1_o (by omega)]; exact h1
  have ho' : 0 ≤ ou1 t a a 11 := by rw [ou1_o (by omega)]; exact ho
  have ho5' : ou1 t a a 11 ≤ 5 := by rw [ou1_o (by omega)]; exact ho5
  have w12 : w32 (t a 12 + 1) = t a 12 + 1 := w32_id (by omega) (by omega)
  have w1 : w32 (j - 1 + 1) = j := by rw [w32_id (by omega) (by omega)]; omega
  have w3 : w32 (i + 3) = i + 3 := w32_id (by omega) (by omega)
  have hnx : ∀ (op b : Int) (Q : Option TV → Wd → Prop), VV L (d + 2) m_Tx_next 0 [some (tA a), some (tI 59), some (tI i), none] [] (WW f (en0 (ou1 t a) a op i b) g) Q = Q (some (tI (j - 1))) (WW f (en0 (ou1 t a) a op i b) g) := by
    intro op b Q
    rw [s_Tx_next hT (by rw [en0_1]; exact hl') hi]
    have e1 : tok (en0 (ou1 t a) a op i b) a = tok t a := by unfold en0; rw [tok_en, tok_ou]
    rw [e1, en0_1, ou1_o (by omega), hn]
  have hen : ∀ (op b : Int) (Q : Option TV → Wd → Prop), VV L (d + 2) m_Tx_enter 0 [some (tA a), some (tI op), some (tI 0), some (tI i), some (tI b), none, none] [] (WW f (ou1 t a) g) Q = Q none (WW f (en0 (ou1 t a) a op i b) g) := fun op b Q => s_Tx_enter0 hT h0' h1' ho' ho5'
  have h23 : ∀ x : Int, VV L (d + 3) m_Tx_passBegin 0 [some (tA a), some (tI i), none, none] [] (WW f t g) Q = VV L (d + 3) m_Tx_passBegin 23 [some (tA a), some (tI i), some (tI (tok t a i)), none] [] (WW f (ou1 t a) g) Q := by
    intro _
    unfold ou1
    by_cases hz : t a 11 = 0
    · simp only [u_Tx_passBegin_0, u_Tx_passBegin_1, u_Tx_passBegin_2, u_Tx_passBegin_5, u_Tx_passBegin_6, u_Tx_passBegin_7, u_Tx_passBegin_10, u_Tx_passBegin_13, u_Tx_passBegin_14, u_Tx_passBegin_15, u_Tx_passBegin_18, u_Tx_passBegin_19, u_Tx_passBegin_20, xT_0, xT_h1, xT_g11, xT_g12, xT_p12, ne_eq, not_false_eq_true, not_true_eq_false, true_and, and_true, true_or, or_true, eq_self, Option.toList_some, Option.toList_none, List.cons_append, List.nil_append, tc_0, tc_I, tc_L, tc_A, Nat.reduceAdd, Nat.reduceLeDiff, Nat.reduceEqDiff, Int.reduceEq, Int.reduceLT, Int.reduceLE, Int.reduceNeg, Int.reduceToNat, Int.cast_ofNat_Int, if_true, if_false, and_self, or_self, ite_self, bI_0, bI_1, bI_01, Bool.false_eq_true, reduceCtorEq, hT, s_Tx_token hT hl, hz, w12]
    · simp only [u_Tx_passBegin_0, u_Tx_passBegin_1, u_Tx_passBegin_2, u_Tx_passBegin_5, u_Tx_passBegin_6, u_Tx_passBegin_7, u_Tx_passBegin_10, u_Tx_passBegin_13, u_Tx_passBegin_14, u_Tx_passBegin_15, u_Tx_passBegin_18, u_Tx_passBegin_19, u_Tx_passBegin_20, xT_0, xT_h1, xT_g11, xT_g12, xT_p12, ne_eq, not_false_eq_true, not_true_eq_false, true_and, and_true, true_or, or_true, eq_self, Option.toList_some, Option.toList_none, List.cons_append, List.nil_append, tc_0, tc_I, tc_L, tc_A, Nat.reduceAdd, Nat.reduceLeDiff, Nat.reduceEqDiff, Int.reduceEq, Int.reduceLT, Int.reduceLE, Int.reduceNeg, Int.reduceToNat, Int.cast_ofNat_Int, if_true, if_false, and_self, or_self, ite_self, bI_0, bI_1, bI_01, Bool.false_eq_true, reduceCtorEq, hT, s_Tx_token hT hl, hz]
  rw [h23 0]
  have hkey : ∀ (k : Int), tok t a i = k → (200 ≤ k ∧ k ≤ 207) ∨ k = 214 → opS1 s = k → boS1 s = 3 → VV L (d + 3) m_Tx_passBegin 23 [some (tA a), some (tI i), some (tI (tok t a i)), none] [] (WW f (ou1 t a) g) Q = Q (some (tI j)) (WW f (en0 (ou1 t a) a (opS1 s) i (i + boS1 s)) g) := by
    intro k hk hr e1 e2
    rw [hk, e1, e2]
    have p1 : kPart k = false := by unfold kPart; simp; omega
    have p2 : kName k = false := by unfold kName; simp; omega
    have p3 : kRow k = false := by unfold kRow; simp; omega
    simp only [u_Tx_passBegin_23, u_Tx_passBegin_24, u_Tx_passBegin_27, u_Tx_passBegin_30, u_Tx_passBegin_31, u_Tx_passBegin_32, u_Tx_passBegin_33, u_Tx_passBegin_34, u_Tx_passBegin_35, u_Tx_passBegin_36, u_Tx_passBegin_37, u_Tx_passBegin_40, u_Tx_passBegin_41, u_Tx_passBegin_43, u_Tx_passBegin_44, u_Tx_passBegin_47, u_Tx_passBegin_48, u_Tx_passBegin_49, u_Tx_passBegin_50, u_Tx_passBegin_51, u_Tx_passBegin_54, u_Tx_passBegin_57, u_Tx_passBegin_58, u_Tx_passBegin_61, u_Tx_passBegin_64, u_Tx_passBegin_65, u_Tx_passBegin_66, u_Tx_passBegin_69, u_Tx_passBegin_70, u_Tx_passBegin_71, u_Tx_passBegin_72, u_Tx_passBegin_73, u_Tx_passBegin_76, u_Tx_passBegin_77, u_Tx_passBegin_78, u_Tx_passBegin_79, u_Tx_passBegin_80, u_Tx_passBegin_81, u_Tx_passBegin_84, u_Tx_passBegin_87, u_Tx_passBegin_88, u_Tx_passBegin_89, u_Tx_passBegin_90, u_Tx_passBegin_91, u_Tx_passBegin_92, u_Tx_passBegin_93, u_Tx_passBegin_94, u_Tx_passBegin_97, u_Tx_passBegin_98, u_Tx_passBegin_100, u_Tx_passBegin_101, u_Tx_passBegin_104, u_Tx_passBegin_105, u_Tx_passBegin_106, xT_0, xT_h1, ne_eq, not_false_eq_true, not_true_eq_false, true_and, and_true, true_or, or_true, eq_self, Option.toList_some, Option.toList_none, List.cons_append, List.nil_append, tc_0, tc_I, tc_L, tc_A, Nat.reduceAdd, Nat.reduceLeDiff, Nat.reduceEqDiff, Int.reduceEq, Int.reduceLT, Int.reduceLE, Int.reduceNeg, Int.reduceToNat, Int.cast_ofNat_Int, if_true, if_false, and_self, or_self, ite_self, bI_0, bI_1, bI_01, Bool.false_eq_true, reduceCtorEq, hT, s_Tk_hasParts, s_Tk_isName, s_Tk_isRow, bB_0, ite_not, p1, p2, p3, w3, hen, hnx, w1]
  have hplc : ∀ (p : PP c) (op : Int) (rest : List Int), wP p → 128 ≤ op ∧ op ≤ 133 → kS s = kP p ++ op :: rest → opS1 s = op → boS1 s = (kP p).length + 1 → VV L (d + 3) m_Tx_passBegin 23 [some (tA a), some (tI i), some (tI (tok t a i)), none] [] (WW f (ou1 t a) g) Q = Q (some (tI j)) (WW f (en0 (ou1 t a) a (opS1 s) i (i + boS1 s)) g) := by
    intro p op rest hp hop hk e1 e2
    rw [hk] at hs
    have q := seg_split hs
    have q2 := seg_hd q.2
    have hlen := seg_len hs
    rw [List.length_append, List.length_cons] at hlen
    have hi0 : (kName (tok t a i) = true ∨ kRow (tok t a i) = true) := by
      match p, hp, q with
      | .inl n, hp, q => have := (seg_hd q.1).1; rw [this]; exact Or.inl hp
      | .inr (r, e), hp, q => have := (seg_hd q.1).1; rw [this]; exact Or.inr hp.1
    have p1 : kPart (tok t a i) = false := by
      rcases hi0 with h | h
      · unfold kName at h; unfold kPart; simp at h ⊢; omega
      · unfold kRow at h; unfold kPart; simp at h ⊢; omega
    have hpb := fun Q => s_Tx_pairBehind (L := L) (d := d + 1) (f := f) (t := ou1 t a) (g := g) (Q := Q) (i := i) (j := i + ((kP p).length : Int)) hT hl' hi (by omega) (by rw [ou1_o (by omega)]; omega) (by rw [tok_ou, q2.1]; unfold kPair; simp; omega) (fun x x1 x2 => by
      rw [tok_ou]
      have := eTk_no (kP_e p hp _ (seg_at q.1 x1 x2))
      unfold kPair; simp; omega)
    have wj : w32 (i + ((kP p).length : Int) + 1) = i + ((kP p).length : Int) + 1 := w32_id (by omega) (by omega)
    have hb : i + ((boS1 s : Nat) : Int) = i + ((kP p).length : Int) + 1 := by rw [e2]; omega
    rw [e1, hb]
    rcases hi0 with h | h
    · simp only [u_Tx_passBegin_23, u_Tx_passBegin_24, u_Tx_passBegin_27, u_Tx_passBegin_30, u_Tx_passBegin_31, u_Tx_passBegin_32, u_Tx_passBegin_33, u_Tx_passBegin_34, u_Tx_passBegin_35, u_Tx_passBegin_36, u_Tx_passBegin_37, u_Tx_passBegin_40, u_Tx_passBegin_41, u_Tx_passBegin_43, u_Tx_passBegin_44, u_Tx_passBegin_47, u_Tx_passBegin_48, u_Tx_passBegin_49, u_Tx_passBegin_50, u_Tx_passBegin_51, u_Tx_passBegin_54, u_Tx_passBegin_57, u_Tx_passBegin_58, u_Tx_passBegin_61, u_Tx_passBegin_64, u_Tx_passBegin_65, u_Tx_passBegin_66, u_Tx_passBegin_69, u_Tx_passBegin_70, u_Tx_passBegin_71, u_Tx_passBegin_72, u_Tx_passBegin_73, u_Tx_passBegin_76, u_Tx_passBegin_77, u_Tx_passBegin_78, u_Tx_passBegin_79, u_Tx_passBegin_80, u_Tx_passBegin_81, u_Tx_passBegin_84, u_Tx_passBegin_87, u_Tx_passBegin_88, u_Tx_passBegin_89, u_Tx_passBegin_90, u_Tx_passBegin_91, u_Tx_passBegin_92, u_Tx_passBegin_93, u_Tx_passBegin_94, u_Tx_passBegin_97, u_Tx_passBegin_98, u_Tx_passBegin_100, u_Tx_passBegin_101, u_Tx_passBegin_104, u_Tx_passBegin_105, u_Tx_passBegin_106, xT_0, xT_h1, ne_eq, not_false_eq_true, not_true_eq_false, true_and, and_true, true_or, or_true, eq_self, Option.toList_some, Option.toList_none, List.cons_append, List.nil_append, tc_0, tc_I, tc_L, tc_A, Nat.reduceAdd, Nat.reduceLeDiff, Nat.reduceEqDiff, Int.reduceEq, Int.reduceLT, Int.reduceLE, Int.reduceNeg, Int.reduceToNat, Int.cast_ofNat_Int, if_true, if_false, and_self, or_self, ite_self, bI_0, bI_1, bI_01, Bool.false_eq_true, reduceCtorEq, hT, s_Tk_hasParts, s_Tk_isName, s_Tk_isRow, bB_0, ite_not, p1, h, hpb, s_Tx_token hT hl', tok_ou, q2.1, wj, hen, hnx, w1]
    · have h2 : kName (tok t a i) = false := by unfold kRow at h; unfold kName; simp at h ⊢; omega
      simp only [u_Tx_passBegin_23, u_Tx_passBegin_24, u_Tx_passBegin_27, u_Tx_passBegin_30, u_Tx_passBegin_31, u_Tx_passBegin_32, u_Tx_passBegin_33, u_Tx_passBegin_34, u_Tx_passBegin_35, u_Tx_passBegin_36, u_Tx_passBegin_37, u_Tx_passBegin_40, u_Tx_passBegin_41, u_Tx_passBegin_43, u_Tx_passBegin_44, u_Tx_passBegin_47, u_Tx_passBegin_48, u_Tx_passBegin_49, u_Tx_passBegin_50, u_Tx_passBegin_51, u_Tx_passBegin_54, u_Tx_passBegin_57, u_Tx_passBegin_58, u_Tx_passBegin_61, u_Tx_passBegin_64, u_Tx_passBegin_65, u_Tx_passBegin_66, u_Tx_passBegin_69, u_Tx_passBegin_70, u_Tx_passBegin_71, u_Tx_passBegin_72, u_Tx_passBegin_73, u_Tx_passBegin_76, u_Tx_passBegin_77, u_Tx_passBegin_78, u_Tx_passBegin_79, u_Tx_passBegin_80, u_Tx_passBegin_81, u_Tx_passBegin_84, u_Tx_passBegin_87, u_Tx_passBegin_88, u_Tx_passBegin_89, u_Tx_passBegin_90, u_Tx_passBegin_91, u_Tx_passBegin_92, u_Tx_passBegin_93, u_Tx_passBegin_94, u_Tx_passBegin_97, u_Tx_passBegin_98, u_Tx_passBegin_100, u_Tx_passBegin_101, u_Tx_passBegin_104, u_Tx_passBegin_105, u_Tx_passBegin_106, xT_0, xT_h1, ne_eq, not_false_eq_true, not_true_eq_false, true_and, and_true, true_or, or_true, eq_self, Option.toList_some, Option.toList_none, List.cons_append, List.nil_append, tc_0, tc_I, tc_L, tc_A, Nat.reduceAdd, Nat.reduceLeDiff, Nat.reduceEqDiff, Int.reduceEq, Int.reduceLT, Int.reduceLE, Int.reduceNeg, Int.reduceToNat, Int.cast_ofNat_Int, if_true, if_false, and_self, or_self, ite_self, bI_0, bI_1, bI_01, Bool.false_eq_true, reduceCtorEq, hT, s_Tk_hasParts, s_Tk_isName, s_Tk_isRow, bB_0, ite_not, p1, h, h2, hpb, s_Tx_token hT hl', tok_ou, q2.1, wj, hen, hnx, w1]
  match s, hw, hs, hkey, hplc with
  | .inl (k, n, e), hw, hs, hkey, hplc =>
    refine hkey k (seg_hd hs).1 ?_ rfl rfl
    have := hw.1; cases o <;> simp at this <;> omega
  | .inr (.inl (p, op, e)), hw, hs, hkey, hplc => exact hplc p op _ hw.2.1 (by have := hw.2.2.1; omega) rfl rfl rfl
  | .inr (.inr (.inl (p, q))), hw, hs, hkey, hplc => exact hplc p 133 _ hw.2.1 (by omega) rfl rfl rfl
  | .inr (.inr (.inr (.inl (k, n, x)))), hw, hs, hkey, hplc => exact hkey k (seg_hd hs).1 (by have := hw.2.1; omega) rfl rfl
  | .inr (.inr (.inr (.inr (.inl (k, r, x, e))))), hw, hs, hkey, hplc => exact hkey k (seg_hd hs).1 (by have := hw.2.1; omega) rfl rfl
  | .inr (.inr (.inr (.inr (.inr (k, n))))), hw, hs, hkey, hplc => exact hkey k (seg_hd hs).1 (by have := hw.2.1; omega) rfl rfl
end
