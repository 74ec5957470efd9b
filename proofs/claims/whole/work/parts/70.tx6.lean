/-! Text: passBegin of heads, passEnd -/
section
variable {L d a c : Nat} {f t g : Mem} {Q : Option TV → Wd → Prop} {i j k : Int}
def en1 (t : Mem) (a : Nat) (op s b : Int) : Mem := mset (mset (mset (mset (en4 t a op 1 s b) a 11 (t a 11 + 1)) (a + 9) (t a 11).toNat (t a 9)) a 13 (mx (t a 13) (t a 11 + 1))) (a + 6) (t a 9).toNat (t a 9)
def en2 (t : Mem) (a : Nat) (op s b : Int) : Mem := mset (mset (en4 t a op 2 s b) (a + 6) (t a 9).toNat (topH t a)) (a + 7) (topH t a).toNat (t a 9)
def en3 (t : Mem) (a : Nat) (op s b : Int) : Mem := mset (mset (mset (en4 t a op 3 s b) (a + 6) (t a 9).toNat (topH t a)) (a + 8) (topH t a).toNat (t a 9)) a 11 (t a 11 - 1)
theorem en4_1 {op ro s b : Int} {j : Nat} : en4 t a op ro s b (a + 1) j = t (a + 1) j := by
  simp only [en4, rd]
  rw [if_neg (by omega), if_neg (by omega), if_neg (by omega), if_neg (by omega), if_neg (by omega)]
theorem tok_of {t t' : Mem} (h1 : t' a 1 = t a 1) (h2 : ∀ j, t' (a + 1) j = t (a + 1) j) : tok t' a = tok t a := by
  funext x; unfold tok; rw [h1, h2]
theorem en1_1 {op s b : Int} : en1 t a op s b a 1 = t a 1 := by
  unfold en1; simp only [rd]; rw [if_neg (by omega), if_neg (by omega), if_neg (by omega), if_neg (by omega)]; exact en4_a (by omega)
theorem en1_t {op s b : Int} : tok (en1 t a op s b) a = tok t a := tok_of en1_1 (fun j => by
  unfold en1; simp only [rd]; rw [if_neg (by omega), if_neg (by omega), if_neg (by omega), if_neg (by omega)]; exact en4_1)
theorem en3_1 {op s b : Int} : en3 t a op s b a 1 = t a 1 := by
  unfold en3; simp only [rd]; rw [if_neg (by omega), if_neg (by omega), if_neg (by omega)]; exact en4_a (by omega)
theorem en3_t {op s b : Int} : tok (en3 t a op s b) a = tok t a := tok_of en3_1 (fun j => by
  unfold en3; simp only [rd]; rw [if_neg (by omega), if_neg (by omega), if_neg (by omega)]; exact en4_1)
theorem s_Tx_passBegin1 (hT : isT a) (hl : t a 1 ≤ 1000) (h0 : 0 ≤ t a 9) (h1 : t a 9 < 40) (ho : 0 ≤ t a 11) (ho5 : t a 11 < 5) (hou : 0 ≤ t a 12 ∧ t a 12 ≤ 1000) (e : EE c) (he : wX e) (hp : kPart (tok t a i) = true) (hi : 0 ≤ i) (hs : seg (tok t a) (i + 1) j (kX e)) (hj : tok t a j = 123) : VV L (d + 3) m_Tx_passBegin 0 [some (tA a), some (tI i), none, none] [] (WW f t g) Q = Q (some (tI (j + 1))) (WW f (en1 (ou1 t a) a (tok t a i) i (i + 1)) g) := by
  have hjb := tok_ne (show ¬ tok t a j = 0 by omega)
  have hl' : ou1 t a a 1 ≤ 1000 := by rw [ou1_o (by omega)]; exact hl
  have h0' : 0 ≤ ou1 t a a 9 := by rw [ou1_o (by omega)]; exact h0
  have h1' : ou1 t a a 9 < 40 := by rw [ou1_o (by omega)]; exact h1
  have ho' : 0 ≤ ou1 t a a 11 := by rw [ou1_o (by omega)]; exact ho
  have ho5' : ou1 t a a 11 < 5 := by rw [ou1_o (by omega)]; exact ho5
  have w12 : w32 (t a 12 + 1) = t a 12 + 1 := w32_id (by omega) (by omega)
  have hij := hs.1
  have w1 : w32 (j + 1) = j + 1 := w32_id (by omega) (by omega)
  have wi : w32 (i + 1) = i + 1 := w32_id (by omega) (by omega)
  have hn : nxt (tok t a) (t a 1) 123 i = j := by
    refine nxt_seg (l := tok t a i :: kX e) (seg_cons rfl hs) (fun v hv => ?_) hj hjb.2
    rcases List.mem_cons.mp hv with rfl | hv
    · unfold kPart at hp; simp at hp; omega
    · exact (eTk_no (kX_e e he v hv)).2.1
  have hnx : ∀ (op b : Int) (Q : Option TV → Wd → Prop), VV L (d + 2) m_Tx_next 0 [some (tA a), some (tI 123), some (tI i), none] [] (WW f (en1 (ou1 t a) a op i b) g) Q = Q (some (tI j)) (WW f (en1 (ou1 t a) a op i b) g) := by
    intro op b Q
    rw [s_Tx_next hT (by rw [en1_1]; exact hl') hi, en1_t, tok_ou, en1_1, ou1_o (by omega), hn]
  have hen : ∀ (op b : Int) (Q : Option TV → Wd → Prop), VV L (d + 2) m_Tx_enter 0 [some (tA a), some (tI op), some (tI 1), some (tI i), some (tI b), none, none] [] (WW f (ou1 t a) g) Q = Q none (WW f (en1 (ou1 t a) a op i b) g) := fun op b Q => s_Tx_enter1 hT h0' h1' ho' ho5'
  have h23 : VV L (d + 3) m_Tx_passBegin 0 [some (tA a), some (tI i), none, none] [] (WW f t g) Q = VV L (d + 3) m_Tx_passBegin 23 [some (tA a), some (tI i), some (tI (tok t a i)), none] [] (WW f (ou1 t a) g) Q := by
    unfold ou1
    by_cases hz : t a 11 = 0
    · simp only [u_Tx_passBegin_0, u_Tx_passBegin_1, u_Tx_passBegin_2, u_Tx_passBegin_5, u_Tx_passBegin_6, u_Tx_passBegin_7, u_Tx_passBegin_10, u_Tx_passBegin_13, u_Tx_passBegin_14, u_Tx_passBegin_15, u_Tx_passBegin_18, u_Tx_passBegin_19, u_Tx_passBegin_20, xT_0, xT_h1, xT_g11, xT_g12, xT_p12, ne_eq, not_false_eq_true, not_true_eq_false, true_and, and_true, true_or, or_true, eq_self, Option.toList_some, Option.toList_none, List.cons_append, List.nil_append, tc_0, tc_I, tc_L, tc_A, Nat.reduceAdd, Nat.reduceLeDiff, Nat.reduceEqDiff, Int.reduceEq, Int.reduceLT, Int.reduceLE, Int.reduceNeg, Int.reduceToNat, Int.cast_ofNat_Int, if_true, if_false, and_self, or_self, ite_self, bI_0, bI_1, bI_01, Bool.false_eq_true, reduceCtorEq, hT, s_Tx_token hT hl, hz, w12]
    · simp only [u_Tx_passBegin_0, u_Tx_passBegin_1, u_Tx_passBegin_2, u_Tx_passBegin_5, u_Tx_passBegin_6, u_Tx_passBegin_7, u_Tx_passBegin_10, u_Tx_passBegin_13, u_Tx_passBegin_14, u_Tx_passBegin_15, u_Tx_passBegin_18, u_Tx_passBegin_19, u_Tx_passBegin_20, xT_0, xT_h1, xT_g11, xT_g12, xT_p12, ne_eq, not_false_eq_true, not_true_eq_false, true_and, and_true, true_or, or_true, eq_self, Option.toList_some, Option.toList_none, List.cons_append, List.nil_append, tc_0, tc_I, tc_L, tc_A, Nat.reduceAdd, Nat.reduceLeDiff, Nat.reduceEqDiff, Int.reduceEq, Int.reduceLT, Int.reduceLE, Int.reduceNeg, Int.reduceToNat, Int.cast_ofNat_Int, if_true, if_false, and_self, or_self, ite_self, bI_0, bI_1, bI_01, Bool.false_eq_true, reduceCtorEq, hT, s_Tx_token hT hl, hz]
  rw [h23]
  simp only [u_Tx_passBegin_23, u_Tx_passBegin_24, u_Tx_passBegin_27, u_Tx_passBegin_30, u_Tx_passBegin_31, u_Tx_passBegin_32, u_Tx_passBegin_33, u_Tx_passBegin_34, u_Tx_passBegin_35, u_Tx_passBegin_36, u_Tx_passBegin_37, u_Tx_passBegin_40, u_Tx_passBegin_41, u_Tx_passBegin_43, u_Tx_passBegin_44, u_Tx_passBegin_47, u_Tx_passBegin_48, u_Tx_passBegin_49, u_Tx_passBegin_50, u_Tx_passBegin_51, u_Tx_passBegin_54, u_Tx_passBegin_57, u_Tx_passBegin_58, u_Tx_passBegin_61, u_Tx_passBegin_64, u_Tx_passBegin_65, u_Tx_passBegin_66, u_Tx_passBegin_69, u_Tx_passBegin_70, u_Tx_passBegin_71, u_Tx_passBegin_72, u_Tx_passBegin_73, u_Tx_passBegin_76, u_Tx_passBegin_77, u_Tx_passBegin_78, u_Tx_passBegin_79, u_Tx_passBegin_80, u_Tx_passBegin_81, u_Tx_passBegin_84, u_Tx_passBegin_87, u_Tx_passBegin_88, u_Tx_passBegin_89, u_Tx_passBegin_90, u_Tx_passBegin_91, u_Tx_passBegin_92, u_Tx_passBegin_93, u_Tx_passBegin_94, u_Tx_passBegin_97, u_Tx_passBegin_98, u_Tx_passBegin_100, u_Tx_passBegin_101, u_Tx_passBegin_104, u_Tx_passBegin_105, u_Tx_passBegin_106, xT_0, xT_h1, ne_eq, not_false_eq_true, not_true_eq_false, true_and, and_true, true_or, or_true, eq_self, Option.toList_some, Option.toList_none, List.cons_append, List.nil_append, tc_0, tc_I, tc_L, tc_A, Nat.reduceAdd, Nat.reduceLeDiff, Nat.reduceEqDiff, Int.reduceEq, Int.reduceLT, Int.reduceLE, Int.reduceNeg, Int.reduceToNat, Int.cast_ofNat_Int, if_true, if_false, and_self, or_self, ite_self, bI_0, bI_1, bI_01, Bool.false_eq_true, reduceCtorEq, hT, s_Tk_hasParts, bB_0, ite_not, hp, wi, hen, hnx, w1]
end
