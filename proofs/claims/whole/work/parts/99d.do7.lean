/-! Doing a step, the class: does -/
def St1 {c : Nat} (f : Mem) (op : Int) (s : SS c) (code : Int) (f' : Mem) : Prop := match s with
  | .inl (_, n, e) => if op = 200 then (if f 20 (n - 97).toNat = 1 then code = 14 ∧ FX f f' else match vE (vF (envC f brN) c) e with
      | .error w => code = w ∧ ¬ w = 0 ∧ FX f f'
      | .ok (v, _) => code = 0 ∧ FX (bgN f (n - 97).toNat (w32 v)) f')
    else (if f 20 (n - 97).toNat = 1 then (match vE (vF (envC f brN) c) e with
      | .error w => code = w ∧ ¬ w = 0 ∧ FX f f'
      | .ok (v, _) => if f 21 (n - 97).toNat = w32 v then code = 0 ∧ FX (mset f 20 (n - 97).toNat 0) f' else code = 8 ∧ FX f f') else code = 1 ∧ FX f f')
  | .inr (.inl (p, _, e)) => ChC f op p e code f'
  | .inr (.inr (.inl (p, q))) => SwC f p q code f'
  | .inr (.inr (.inr (.inl (_, n, s)))) => if op = 202 then (if f 20 (n - 97).toNat = 1 then (if f 27 (s - 83).toNat = 30 then code = 9 ∧ FX f f' else code = 0 ∧ FX (puC f (n - 97).toNat (s - 83).toNat) f') else code = 1 ∧ FX f f')
    else (if f 20 (n - 97).toNat = 1 then (if f 21 (n - 97).toNat = 0 then (if f 27 (s - 83).toNat = 0 then code = 5 ∧ FX f f' else code = 0 ∧ FX (poC f (n - 97).toNat (s - 83).toNat) f') else code = 8 ∧ FX f f') else code = 1 ∧ FX f f')
  | .inr (.inr (.inr (.inr (.inl (_, r, d, e))))) => if op = 204 then (if f 29 (r - 65).toNat = -1 then (match vE (vF (envC f brN) c) e with
      | .error w => code = w ∧ ¬ w = 0 ∧ FX f f'
      | .ok (v, _) => if v < 0 ∨ 12 < v then code = 7 ∧ FX f f' else code = 0 ∧ ∃ n : Nat, n < 15 ∧ (∀ h : Nat, h < 14 → ¬ hC f h = n) ∧ FX (mset (mkC f n (d - 217) v) 29 (r - 65).toNat n) f') else code = 14 ∧ FX f f')
    else (if f 29 (r - 65).toNat = -1 then code = 2 ∧ FX f f' else if f 31 (f 29 (r - 65).toNat).toNat = d - 217 then (match vE (vF (envC f brN) c) e with
      | .error w => code = w ∧ ¬ w = 0 ∧ FX f f'
      | .ok (v, _) => (code = 0 ∧ v = f 32 (f 29 (r - 65).toNat).toNat ∧ (∀ i : Nat, (i : Int) < f 32 (f 29 (r - 65).toNat).toNat → f (34 + (f 29 (r - 65).toNat).toNat) i = 0) ∧ FX (mset f 29 (r - 65).toNat (-1)) f') ∨ (code = 8 ∧ (v = f 32 (f 29 (r - 65).toNat).toNat → ∃ i : Nat, (i : Int) < f 32 (f 29 (r - 65).toNat).toNat ∧ ¬ f (34 + (f 29 (r - 65).toNat).toNat) i = 0) ∧ FX f f')) else code = 10 ∧ FX f f')
  | .inr (.inr (.inr (.inr (.inr _)))) => True
section
variable {L d a c : Nat} {f t g : Mem} {Q : Option TV → Wd → Prop} {TH : Nat} {i j : Int}
theorem undo_i {k : Int} : undo k = if (128 ≤ k ∧ k ≤ 131) ∨ (200 ≤ k ∧ k ≤ 207) then k + 1 - 2 * (k % 2) else k := rfl
theorem p_Do_does {gg : Mem} {q : Nat} {fw : Int} {x : Int} (hT : isT a) (hl : t a 1 ≤ 1000) (h9 : t a 9 ≤ 40) (hc : c ≤ 11) (hS : RSt f gg TH) (hfw : fw = 0 ∨ fw = 1) (s : SS c) (hw : wS false s) (hq : (q : Int) < t a 9) (hent : EOk t a 0 q (opS1 s, 0, i, i + boS1 s, x, 0, 0)) (hno : ¬ (opS1 s = 206 ∨ opS1 s = 207)) (hi : 0 ≤ i) (hs : seg (tok t a) i j (kS s)) (hQ : ∀ code f', St1 f (if fw = 1 then opS1 s else undo (opS1 s)) s code f' → Q (some (tI code)) (WW f' t g)) : VV L (d + 5 * c + 11) m_Do_does 0 [some (tA 152), some (tA a), some (tI q), some (tI fw), none, none, none] [] (WW f t g) Q := by
  have a0 := xT_0 hT
  obtain ⟨e2, e3, e4, e5, _⟩ := hent
  have e2 : t (a + 2) q = opS1 s := e2
  have e4 : t (a + 4) q = i := e4
  have e5 : t (a + 5) q = i + boS1 s := e5
  have iop : insA t a 2 0 q = opS1 s := by unfold insA; rw [if_pos ⟨by omega, hq⟩, Int.toNat_natCast, e2]
  have ist : insA t a 4 (t a 1) q = i := by unfold insA; rw [if_pos ⟨by omega, hq⟩, Int.toNat_natCast, e4]
  have ibo : insA t a 5 (t a 1) q = i + boS1 s := by unfold insA; rw [if_pos ⟨by omega, hq⟩, Int.toNat_natCast, e5]
  have hij := hs.1
  have hkS := seg_len hs
  have hks1 := kS_pos s
  have hlt : i < t a 1 := by
    by_cases h : i < t a 1
    · exact h
    · exfalso
      have hz : tok t a i = 0 := by unfold tok; rw [if_neg (by omega)]
      have := seg_at hs (Int.le_refl _) (by omega)
      rw [hz] at this
      match s, hw, this with
      | .inl (k, n, e), hw, this =>
        have hk := hw.1
        simp at hk
        have h2 := hw.2.1
        unfold kName at h2; simp at h2
        simp only [kS, List.mem_cons, List.mem_append, List.mem_singleton] at this
        rcases this with h | h | h | h | h
        · omega
        · omega
        · omega
        · exact (eTk_no (kX_e e hw.2.2 0 h)).2.2.2.2 rfl
        · simp at h
      | .inr (.inl (p, o, e)), hw, this =>
        simp only [kS, List.mem_cons, List.mem_append, List.mem_singleton] at this
        rcases this with h | h | h | h
        · exact (eTk_no (kP_e p hw.2.1 0 h)).2.2.2.2 rfl
        · have := hw.2.2.1; omega
        · exact (eTk_no (kX_e e hw.2.2.2 0 h)).2.2.2.2 rfl
        · simp at h
      | .inr (.inr (.inl (p, p2))), hw, this =>
        simp only [kS, List.mem_cons, List.mem_append, List.mem_singleton] at this
        rcases this with h | h | h | h
        · exact (eTk_no (kP_e p hw.2.1 0 h)).2.2.2.2 rfl
        · omega
        · exact (eTk_no (kP_e p2 hw.2.2 0 h)).2.2.2.2 rfl
        · simp at h
      | .inr (.inr (.inr (.inl (k, n, z)))), hw, this =>
        have h1 := hw.2.1; have h2 := hw.2.2.1; have h3 := hw.2.2.2
        unfold kName at h2; unfold kStk at h3; simp at h2 h3
        simp only [kS, List.mem_cons, List.not_mem_nil, or_false] at this
        omega
      | .inr (.inr (.inr (.inr (.inl (k, r, z, e))))), hw, this =>
        have h1 := hw.2.1; have h2 := hw.2.2.1; have h3 := hw.2.2.2.1
        unfold kRow at h2; unfold kKind at h3; simp at h2 h3
        simp only [kS, List.mem_cons, List.mem_append, List.mem_singleton] at this
        rcases this with h | h | h | h | h
        · omega
        · omega
        · omega
        · exact (eTk_no (kX_e e hw.2.2.2.2 0 h)).2.2.2.2 rfl
        · simp at h
      | .inr (.inr (.inr (.inr (.inr (k, n))))), hw, this =>
        have h1 := hw.2.1; have h2 := hw.2.2
        simp only [kS, List.mem_cons, List.not_mem_nil, or_false] at this
        omega
  have w1 : w32 (i + 1) = i + 1 := w32_id (by omega) (by omega)
  generalize hop : (if fw = 1 then opS1 s else undo (opS1 s)) = op at hQ
  have h49 : VV L (d + 5 * c + 11) m_Do_does 0 [some (tA 152), some (tA a), some (tI q), some (tI fw), none, none, none] [] (WW f t g) Q = VV L (d + 5 * c + 11) m_Do_does 51 [some (tA 152), some (tA a), some (tI q), some (tI fw), some (tI op), some (tI (tok t a (i + 1))), some (tI (i + boS1 s))] [tI op] (WW (wo0 f) t g) Q := by
    rcases hfw with hf | hf
    · rw [if_neg (by omega)] at hop
      simp only [u_Do_does_0, u_Do_does_1, u_Do_does_4, u_Do_does_5, u_Do_does_6, u_Do_does_9, u_Do_does_12, u_Do_does_13, u_Do_does_14, u_Do_does_17, u_Do_does_20, u_Do_does_22, u_Do_does_23, u_Do_does_24, u_Do_does_25, u_Do_does_28, u_Do_does_29, u_Do_does_30, u_Do_does_33, u_Do_does_35, u_Do_does_36, u_Do_does_37, u_Do_does_40, u_Do_does_42, u_Do_does_43, u_Do_does_46, u_Do_does_49, h1_152, h1_149, gt_152_2, xT_h1, ne_eq, not_false_eq_true, not_true_eq_false, true_and, and_true, true_or, or_true, eq_self, Option.toList_some, Option.toList_none, List.cons_append, List.nil_append, tc_0, tc_I, tc_L, tc_A, Nat.reduceAdd, Nat.reduceLeDiff, Nat.reduceEqDiff, Int.reduceEq, Int.reduceLT, Int.reduceLE, Int.reduceNeg, Int.reduceToNat, Int.cast_ofNat_Int, if_true, if_false, and_self, or_self, ite_self, bI_0, bI_1, bI_01, Bool.false_eq_true, reduceCtorEq, hf, a0, hT, s_Tx_op hT h9, s_Tx_start hT h9, s_Tx_body hT h9, iop, ist, ibo, s_Tk_undoing, hop, w1, s_Tx_token hT hl, s_Wo_start]
    · rw [if_pos hf] at hop
      simp only [u_Do_does_0, u_Do_does_1, u_Do_does_4, u_Do_does_5, u_Do_does_6, u_Do_does_9, u_Do_does_12, u_Do_does_13, u_Do_does_14, u_Do_does_17, u_Do_does_20, u_Do_does_22, u_Do_does_23, u_Do_does_24, u_Do_does_25, u_Do_does_28, u_Do_does_29, u_Do_does_30, u_Do_does_33, u_Do_does_35, u_Do_does_36, u_Do_does_37, u_Do_does_40, u_Do_does_42, u_Do_does_43, u_Do_does_46, u_Do_does_49, h1_152, h1_149, gt_152_2, xT_h1, ne_eq, not_false_eq_true, not_true_eq_false, true_and, and_true, true_or, or_true, eq_self, Option.toList_some, Option.toList_none, List.cons_append, List.nil_append, tc_0, tc_I, tc_L, tc_A, Nat.reduceAdd, Nat.reduceLeDiff, Nat.reduceEqDiff, Int.reduceEq, Int.reduceLT, Int.reduceLE, Int.reduceNeg, Int.reduceToNat, Int.cast_ofNat_Int, if_true, if_false, and_self, or_self, ite_self, bI_0, bI_1, bI_01, Bool.false_eq_true, reduceCtorEq, hf, a0, hT, s_Tx_op hT h9, s_Tx_start hT h9, s_Tx_body hT h9, iop, ist, ibo, hop, w1, s_Tx_token hT hl, s_Wo_start]
  rw [h49]
  match s, hw, hs, hno, hop, hQ, ist with
  | .inl (k, n, e), hw, hs, hno, hop, hQ, ist =>
    have hk : k = 200 ∨ k = 201 := by have := hw.1; simpa using this
    obtain ⟨r1, hs⟩ := seg_hd hs
    obtain ⟨r2, hs⟩ := seg_hd hs
    obtain ⟨r3, hs⟩ := seg_hd hs
    obtain ⟨r4, hs⟩ := seg_split hs
    obtain ⟨r5, _⟩ := seg_hd hs
    have hb : 97 ≤ n ∧ n ≤ 122 := by have : kName n = true := hw.2.1; unfold kName at this; simpa using this
    have wn : w32 (n - 97) = ((n - 97).toNat : Int) := by rw [w32_id (by omega) (by omega)]; omega
    have eb : i + ((boS1 (.inl (k, n, e) : SS c) : Nat) : Int) = i + 1 + 1 + 1 := by show i + 3 = _; omega
    have hop2 : op = 200 ∨ op = 201 := by
      rw [← hop]; simp only [opS1]
      rcases hk with rfl | rfl <;> split <;> simp [undo]
    rw [eb, r2]
    rcases hop2 with ho | ho
    · subst ho
      simp only [u_Do_does_51, u_Do_does_116, u_Do_does_117, u_Do_does_119, u_Do_does_121, u_Do_does_122, u_Do_does_123, u_Do_does_125, h1_152, ne_eq, not_false_eq_true, not_true_eq_false, true_and, and_true, true_or, or_true, eq_self, Option.toList_some, Option.toList_none, List.cons_append, List.nil_append, tc_0, tc_I, tc_L, tc_A, Nat.reduceAdd, Nat.reduceLeDiff, Nat.reduceEqDiff, Int.reduceEq, Int.reduceLT, Int.reduceLE, Int.reduceNeg, Int.reduceToNat, Int.cast_ofNat_Int, if_true, if_false, and_self, or_self, ite_self, bI_0, bI_1, bI_01, Bool.false_eq_true, reduceCtorEq, wn, a0]
      rw [show d + 5 * c + 10 = d + 2 + 5 * c + 8 by omega]
      refine p_Do_let (d := d + 2) (k := (n - 97).toNat) hT hl (by omega) hS (by omega) e hw.2.2 (by omega) r4 r5 (fun code f' h => ?_)
      simp only [u_Do_does_128, ne_eq, not_false_eq_true, not_true_eq_false, true_and, and_true, true_or, or_true, eq_self, Option.toList_some, Option.toList_none, List.cons_append, List.nil_append, tc_0, tc_I, tc_L, tc_A, Nat.reduceAdd, Nat.reduceLeDiff, Nat.reduceEqDiff, Int.reduceEq, Int.reduceLT, Int.reduceLE, Int.reduceNeg, Int.reduceToNat, Int.cast_ofNat_Int, if_true, if_false, and_self, or_self, ite_self, bI_0, bI_1, bI_01, Bool.false_eq_true, reduceCtorEq]
      refine hQ code f' ?_
      simp only [St1, if_true]; exact h
    · subst ho
      simp only [u_Do_does_51, u_Do_does_129, u_Do_does_130, u_Do_does_132, u_Do_does_134, u_Do_does_135, u_Do_does_136, u_Do_does_138, h1_152, ne_eq, not_false_eq_true, not_true_eq_false, true_and, and_true, true_or, or_true, eq_self, Option.toList_some, Option.toList_none, List.cons_append, List.nil_append, tc_0, tc_I, tc_L, tc_A, Nat.reduceAdd, Nat.reduceLeDiff, Nat.reduceEqDiff, Int.reduceEq, Int.reduceLT, Int.reduceLE, Int.reduceNeg, Int.reduceToNat, Int.cast_ofNat_Int, if_true, if_false, and_self, or_self, ite_self, bI_0, bI_1, bI_01, Bool.false_eq_true, reduceCtorEq, wn, a0]
      rw [show d + 5 * c + 10 = d + 2 + 5 * c + 8 by omega]
      refine p_Do_unlet (d := d + 2) (k := (n - 97).toNat) hT hl (by omega) hS (by omega) e hw.2.2 (by omega) r4 r5 (fun code f' h => ?_)
      simp only [u_Do_does_141, ne_eq, not_false_eq_true, not_true_eq_false, true_and, and_true, true_or, or_true, eq_self, Option.toList_some, Option.toList_none, List.cons_append, List.nil_append, tc_0, tc_I, tc_L, tc_A, Nat.reduceAdd, Nat.reduceLeDiff, Nat.reduceEqDiff, Int.reduceEq, Int.reduceLT, Int.reduceLE, Int.reduceNeg, Int.reduceToNat, Int.cast_ofNat_Int, if_true, if_false, and_self, or_self, ite_self, bI_0, bI_1, bI_01, Bool.false_eq_true, reduceCtorEq]
      refine hQ code f' ?_
      simp only [St1, Int.reduceEq, if_false]; exact h
  | .inr (.inl (p, o, e)), hw, hs, hno, hop, hQ, ist =>
    obtain ⟨r1, hs⟩ := seg_split hs
    obtain ⟨r2, hs⟩ := seg_hd hs
    obtain ⟨r3, hs⟩ := seg_split hs
    obtain ⟨r4, _⟩ := seg_hd hs
    have ho := hw.2.2.1
    have hop2 : 128 ≤ op ∧ op ≤ 132 := by
      rw [← hop]; simp only [opS1, undo_i]
      split <;> (try split) <;> omega
    have eb : i + ((boS1 (.inr (.inl (p, o, e)) : SS c) : Nat) : Int) = i + (kP p).length + 1 := by show i + (((kP p).length + 1 : Nat) : Int) = _; omega
    have r1' := r1.1
    simp only [u_Do_does_51, u_Do_does_223, u_Do_does_224, u_Do_does_226, u_Do_does_227, u_Do_does_228, u_Do_does_229, u_Do_does_232, u_Do_does_234, h1_152, xT_h1, ne_eq, not_false_eq_true, not_true_eq_false, true_and, and_true, true_or, or_true, eq_self, Option.toList_some, Option.toList_none, List.cons_append, List.nil_append, tc_0, tc_I, tc_L, tc_A, Nat.reduceAdd, Nat.reduceLeDiff, Nat.reduceEqDiff, Int.reduceEq, Int.reduceLT, Int.reduceLE, Int.reduceNeg, Int.reduceToNat, Int.cast_ofNat_Int, if_true, if_false, and_self, or_self, ite_self, bI_0, bI_1, bI_01, Bool.false_eq_true, reduceCtorEq, show ¬ op = 133 by omega, show ¬ op = 200 by omega, show ¬ op = 201 by omega, show ¬ op = 202 by omega, show ¬ op = 203 by omega, show ¬ op = 204 by omega, show ¬ op = 205 by omega, a0, hT, s_Tx_start hT h9, ist]
    rw [eb]
    refine p_Do_change (d := d) hT hl hc hS hop2 p hw.2.1 hi r1 e hw.2.2.2 (by omega) r3 r4 (fun code f' h => ?_)
    simp only [u_Do_does_237, ne_eq, not_false_eq_true, not_true_eq_false, true_and, and_true, true_or, or_true, eq_self, Option.toList_some, Option.toList_none, List.cons_append, List.nil_append, tc_0, tc_I, tc_L, tc_A, Nat.reduceAdd, Nat.reduceLeDiff, Nat.reduceEqDiff, Int.reduceEq, Int.reduceLT, Int.reduceLE, Int.reduceNeg, Int.reduceToNat, Int.cast_ofNat_Int, if_true, if_false, and_self, or_self, ite_self, bI_0, bI_1, bI_01, Bool.false_eq_true, reduceCtorEq]
    exact hQ code f' h
  | .inr (.inr (.inl (p, p2))), hw, hs, hno, hop, hQ, ist =>
    obtain ⟨r1, hs⟩ := seg_split hs
    obtain ⟨r2, hs⟩ := seg_hd hs
    obtain ⟨r3, hs⟩ := seg_split hs
    have hop2 : op = 133 := by rw [← hop]; simp only [opS1]; split <;> simp [undo]
    have eb : i + ((boS1 (.inr (.inr (.inl (p, p2))) : SS c) : Nat) : Int) = i + (kP p).length + 1 := by show i + (((kP p).length + 1 : Nat) : Int) = _; omega
    have r1' := r1.1
    subst hop2
    simp only [u_Do_does_51, u_Do_does_210, u_Do_does_211, u_Do_does_212, u_Do_does_213, u_Do_does_214, u_Do_does_217, u_Do_does_219, h1_152, xT_h1, ne_eq, not_false_eq_true, not_true_eq_false, true_and, and_true, true_or, or_true, eq_self, Option.toList_some, Option.toList_none, List.cons_append, List.nil_append, tc_0, tc_I, tc_L, tc_A, Nat.reduceAdd, Nat.reduceLeDiff, Nat.reduceEqDiff, Int.reduceEq, Int.reduceLT, Int.reduceLE, Int.reduceNeg, Int.reduceToNat, Int.cast_ofNat_Int, if_true, if_false, and_self, or_self, ite_self, bI_0, bI_1, bI_01, Bool.false_eq_true, reduceCtorEq, a0, hT, s_Tx_start hT h9, ist]
    rw [eb]
    refine p_Do_swap (d := d) hT hl hc hS p p2 hw.2.1 hw.2.2 hi r1 (by omega) r3 (fun code f' h => ?_)
    simp only [u_Do_does_222, ne_eq, not_false_eq_true, not_true_eq_false, true_and, and_true, true_or, or_true, eq_self, Option.toList_some, Option.toList_none, List.cons_append, List.nil_append, tc_0, tc_I, tc_L, tc_A, Nat.reduceAdd, Nat.reduceLeDiff, Nat.reduceEqDiff, Int.reduceEq, Int.reduceLT, Int.reduceLE, Int.reduceNeg, Int.reduceToNat, Int.cast_ofNat_Int, if_true, if_false, and_self, or_self, ite_self, bI_0, bI_1, bI_01, Bool.false_eq_true, reduceCtorEq]
    exact hQ code f' h
  | .inr (.inr (.inr (.inl (k, n, z)))), hw, hs, hno, hop, hQ, ist =>
    have hk := hw.2.1
    obtain ⟨r1, hs⟩ := seg_hd hs
    obtain ⟨r2, hs⟩ := seg_hd hs
    obtain ⟨r3, hs⟩ := seg_hd hs
    have hb : 97 ≤ n ∧ n ≤ 122 := by have : kName n = true := hw.2.2.1; unfold kName at this; simpa using this
    have hz : 83 ≤ z ∧ z ≤ 86 := by have : kStk z = true := hw.2.2.2; unfold kStk at this; simpa using this
    have wn : w32 (n - 97) = ((n - 97).toNat : Int) := by rw [w32_id (by omega) (by omega)]; omega
    have wz : w32 (z - 83) = ((z - 83).toNat : Int) := by rw [w32_id (by omega) (by omega)]; omega
    have eb : i + ((boS1 (.inr (.inr (.inr (.inl (k, n, z)))) : SS c) : Nat) : Int) = i + 3 := rfl
    have w2 : w32 (i + 3 - 1) = i + 1 + 1 := by rw [w32_id (by omega) (by omega)]; omega
    have hop2 : op = 202 ∨ op = 203 := by
      rw [← hop]; simp only [opS1]
      rcases hk with rfl | rfl <;> split <;> simp [undo]
    rw [eb, r2]
    rcases hop2 with ho | ho
    · subst ho
      simp only [u_Do_does_51, u_Do_does_142, u_Do_does_143, u_Do_does_145, u_Do_does_147, u_Do_does_148, u_Do_does_149, u_Do_does_151, u_Do_does_152, u_Do_does_153, u_Do_does_156, u_Do_does_158, u_Do_does_159, h1_152, xT_h1, ne_eq, not_false_eq_true, not_true_eq_false, true_and, and_true, true_or, or_true, eq_self, Option.toList_some, Option.toList_none, List.cons_append, List.nil_append, tc_0, tc_I, tc_L, tc_A, Nat.reduceAdd, Nat.reduceLeDiff, Nat.reduceEqDiff, Int.reduceEq, Int.reduceLT, Int.reduceLE, Int.reduceNeg, Int.reduceToNat, Int.cast_ofNat_Int, if_true, if_false, and_self, or_self, ite_self, bI_0, bI_1, bI_01, Bool.false_eq_true, reduceCtorEq, wn, a0, hT, w2, s_Tx_token hT hl, r3, wz]
      refine p_Do_push (d := d + 5 * c + 7) hS (by omega) (by omega) (fun code f' h => ?_)
      simp only [u_Do_does_162, ne_eq, not_false_eq_true, not_true_eq_false, true_and, and_true, true_or, or_true, eq_self, Option.toList_some, Option.toList_none, List.cons_append, List.nil_append, tc_0, tc_I, tc_L, tc_A, Nat.reduceAdd, Nat.reduceLeDiff, Nat.reduceEqDiff, Int.reduceEq, Int.reduceLT, Int.reduceLE, Int.reduceNeg, Int.reduceToNat, Int.cast_ofNat_Int, if_true, if_false, and_self, or_self, ite_self, bI_0, bI_1, bI_01, Bool.false_eq_true, reduceCtorEq]
      refine hQ code f' ?_
      simp only [St1, if_true]; exact h
    · subst ho
      simp only [u_Do_does_51, u_Do_does_163, u_Do_does_164, u_Do_does_166, u_Do_does_168, u_Do_does_169, u_Do_does_170, u_Do_does_172, u_Do_does_173, u_Do_does_174, u_Do_does_177, u_Do_does_179, u_Do_does_180, h1_152, xT_h1, ne_eq, not_false_eq_true, not_true_eq_false, true_and, and_true, true_or, or_true, eq_self, Option.toList_some, Option.toList_none, List.cons_append, List.nil_append, tc_0, tc_I, tc_L, tc_A, Nat.reduceAdd, Nat.reduceLeDiff, Nat.reduceEqDiff, Int.reduceEq, Int.reduceLT, Int.reduceLE, Int.reduceNeg, Int.reduceToNat, Int.cast_ofNat_Int, if_true, if_false, and_self, or_self, ite_self, bI_0, bI_1, bI_01, Bool.false_eq_true, reduceCtorEq, wn, a0, hT, w2, s_Tx_token hT hl, r3, wz]
      refine p_Do_pop (d := d + 5 * c + 7) hS (by omega) (by omega) (fun code f' h => ?_)
      simp only [u_Do_does_183, ne_eq, not_false_eq_true, not_true_eq_false, true_and, and_true, true_or, or_true, eq_self, Option.toList_some, Option.toList_none, List.cons_append, List.nil_append, tc_0, tc_I, tc_L, tc_A, Nat.reduceAdd, Nat.reduceLeDiff, Nat.reduceEqDiff, Int.reduceEq, Int.reduceLT, Int.reduceLE, Int.reduceNeg, Int.reduceToNat, Int.cast_ofNat_Int, if_true, if_false, and_self, or_self, ite_self, bI_0, bI_1, bI_01, Bool.false_eq_true, reduceCtorEq]
      refine hQ code f' ?_
      simp only [St1, Int.reduceEq, if_false]; exact h
  | .inr (.inr (.inr (.inr (.inl (k, r, z, e))))), hw, hs, hno, hop, hQ, ist =>
    have hk := hw.2.1
    obtain ⟨r1, hs⟩ := seg_hd hs
    obtain ⟨r2, hs⟩ := seg_hd hs
    obtain ⟨r3, hs⟩ := seg_hd hs
    obtain ⟨r4, hs⟩ := seg_split hs
    obtain ⟨r5, _⟩ := seg_hd hs
    have hb : 65 ≤ r ∧ r ≤ 70 := by have : kRow r = true := hw.2.2.1; unfold kRow at this; simpa using this
    have wr : w32 (r - 65) = ((r - 65).toNat : Int) := by rw [w32_id (by omega) (by omega)]; omega
    have eb : i + ((boS1 (.inr (.inr (.inr (.inr (.inl (k, r, z, e))))) : SS c) : Nat) : Int) = i + 1 + 1 + 1 := by show i + 3 = _; omega
    have e1 : i + 1 + 1 + 1 - 1 = i + 1 + 1 := by omega
    have hop2 : op = 204 ∨ op = 205 := by
      rw [← hop]; simp only [opS1]
      rcases hk with rfl | rfl <;> split <;> simp [undo]
    rw [eb, r2]
    rcases hop2 with ho | ho
    · subst ho
      simp only [u_Do_does_51, u_Do_does_184, u_Do_does_185, u_Do_does_187, u_Do_does_189, u_Do_does_190, u_Do_does_191, u_Do_does_193, h1_152, ne_eq, not_false_eq_true, not_true_eq_false, true_and, and_true, true_or, or_true, eq_self, Option.toList_some, Option.toList_none, List.cons_append, List.nil_append, tc_0, tc_I, tc_L, tc_A, Nat.reduceAdd, Nat.reduceLeDiff, Nat.reduceEqDiff, Int.reduceEq, Int.reduceLT, Int.reduceLE, Int.reduceNeg, Int.reduceToNat, Int.cast_ofNat_Int, if_true, if_false, and_self, or_self, ite_self, bI_0, bI_1, bI_01, Bool.false_eq_true, reduceCtorEq, wr, a0]
      rw [show d + 5 * c + 10 = d + 2 + 5 * c + 8 by omega]
      refine p_Do_makeRow (d := d + 2) (r := (r - 65).toNat) hT hl (by omega) hS (by omega) e hw.2.2.2.2 (by omega) (by rw [e1, r3]; exact hw.2.2.2.1) r4 r5 (fun code f' h => ?_)
      simp only [u_Do_does_196, ne_eq, not_false_eq_true, not_true_eq_false, true_and, and_true, true_or, or_true, eq_self, Option.toList_some, Option.toList_none, List.cons_append, List.nil_append, tc_0, tc_I, tc_L, tc_A, Nat.reduceAdd, Nat.reduceLeDiff, Nat.reduceEqDiff, Int.reduceEq, Int.reduceLT, Int.reduceLE, Int.reduceNeg, Int.reduceToNat, Int.cast_ofNat_Int, if_true, if_false, and_self, or_self, ite_self, bI_0, bI_1, bI_01, Bool.false_eq_true, reduceCtorEq]
      rw [e1, r3] at h
      refine hQ code f' ?_
      simp only [St1, if_true]; exact h
    · subst ho
      simp only [u_Do_does_51, u_Do_does_197, u_Do_does_198, u_Do_does_200, u_Do_does_202, u_Do_does_203, u_Do_does_204, u_Do_does_206, h1_152, ne_eq, not_false_eq_true, not_true_eq_false, true_and, and_true, true_or, or_true, eq_self, Option.toList_some, Option.toList_none, List.cons_append, List.nil_append, tc_0, tc_I, tc_L, tc_A, Nat.reduceAdd, Nat.reduceLeDiff, Nat.reduceEqDiff, Int.reduceEq, Int.reduceLT, Int.reduceLE, Int.reduceNeg, Int.reduceToNat, Int.cast_ofNat_Int, if_true, if_false, and_self, or_self, ite_self, bI_0, bI_1, bI_01, Bool.false_eq_true, reduceCtorEq, wr, a0]
      rw [show d + 5 * c + 10 = d + 2 + 5 * c + 8 by omega]
      refine p_Do_endRow (d := d + 2) (r := (r - 65).toNat) hT hl (by omega) hS (by omega) e hw.2.2.2.2 (by omega) (by rw [e1, r3]; exact hw.2.2.2.1) r4 r5 (fun code f' h => ?_)
      simp only [u_Do_does_209, ne_eq, not_false_eq_true, not_true_eq_false, true_and, and_true, true_or, or_true, eq_self, Option.toList_some, Option.toList_none, List.cons_append, List.nil_append, tc_0, tc_I, tc_L, tc_A, Nat.reduceAdd, Nat.reduceLeDiff, Nat.reduceEqDiff, Int.reduceEq, Int.reduceLT, Int.reduceLE, Int.reduceNeg, Int.reduceToNat, Int.cast_ofNat_Int, if_true, if_false, and_self, or_self, ite_self, bI_0, bI_1, bI_01, Bool.false_eq_true, reduceCtorEq]
      rw [e1, r3] at h
      refine hQ code f' ?_
      simp only [St1, Int.reduceEq, if_false]; exact h
  | .inr (.inr (.inr (.inr (.inr (k, n))))), hw, hs, hno, hop, hQ, ist =>
    exact absurd (show opS1 (.inr (.inr (.inr (.inr (.inr (k, n))))) : SS c) = 206 ∨ opS1 (.inr (.inr (.inr (.inr (.inr (k, n))))) : SS c) = 207 from hw.2.1) hno
end
