/-! turn, the class: how large it would be -/
section
variable {L d b c : Nat} {f t g : Mem} {Q : Option TV → Wd → Prop} {ab : Nat} {p st n j m : Int} {k : List Int}
theorem tuS_len {n : Int} (e : EE c) (hw : wX e) (hn : kName n = true) : (tuS n e).length = if plQ n (kX e) = true then 1 else if n ∈ kX e then 4 else 2 := by
  by_cases h : plQ n (kX e) = true
  · obtain ⟨s, y, rs, e1, _⟩ := pl_e e hw hn h
    unfold tuS; rw [if_pos h, if_pos h, e1]; rfl
  · by_cases h2 : n ∈ kX e
    · unfold tuS; rw [if_neg h, if_neg h, if_pos h2, if_pos h2]; rfl
    · unfold tuS; rw [if_neg h, if_neg h, if_neg h2, if_neg h2]; rfl
abbrev SZ (b : Nat) (f t : Mem) : Prop := (isT b) ∧ ((f 18 0).toNat = b) ∧ (t b 1 ≤ 1000) ∧ (t b 9 ≤ 40)
theorem SZ.hTb {b : Nat} {f t : Mem} (hSelf : SZ b f t) : isT b := hSelf.1
theorem SZ.hf {b : Nat} {f t : Mem} (hSelf : SZ b f t) : (f 18 0).toNat = b := hSelf.2.1
theorem SZ.hl {b : Nat} {f t : Mem} (hSelf : SZ b f t) : t b 1 ≤ 1000 := hSelf.2.2.1
theorem SZ.h9 {b : Nat} {f t : Mem} (hSelf : SZ b f t) : t b 9 ≤ 40 := hSelf.2.2.2
theorem ar_ts {p m n9 q : Int} (hp : 0 ≤ p ∧ p < n9) (h9 : n9 ≤ 40) (hm : 0 ≤ m ∧ m ≤ 100000) (hq : 0 ≤ q ∧ q ≤ 10) : ¬ n9 ≤ p ∧ w32 (p + 1) = p + 1 ∧ w32 (m + q) = m + q := by
  refine ⟨by omega, w32_id (by omega) (by omega), w32_id (by omega) (by omega)⟩
theorem ts_set (w : SZ b f t) (hA : SA b f t p st n j k) (hr : insA t b 3 0 p = 0) (hp : 0 ≤ p ∧ p < t b 9) (hm : 0 ≤ m ∧ m ≤ 100000) : VV L (d + 5) m_Sh_turnedSize 9 [some (tA 18), some (tA ab), some (tI m), some (tI p)] [] (WW f t g) Q = VV L (d + 5) m_Sh_turnedSize 9 [some (tA 18), some (tA ab), some (tI (m + (if plQ n k = true then 1 else if n ∈ k then 4 else 2))), some (tI (p + 1))] [] (WW f t g) Q := by
  have hTb := w.hTb
  have b0 := xT_0 hTb
  have O1 := fun Q => s_Sh_isOwnChange (L := L) (d := d) (g := g) (Q := Q) hA
  have I1 := fun Q => s_Sh_isInOwn (L := L) (d := d + 1) (g := g) (Q := Q) (q := 0) hA (Nat.zero_le _)
  have z0 : ((0 : Nat) : Int) = 0 := rfl
  rw [z0, List.drop_zero] at I1
  by_cases h : plQ n k = true
  · obtain ⟨q1, q2, q3⟩ := ar_ts (q := 1) hp w.h9 hm (by omega)
    rw [h] at O1
    rw [if_pos h, u_Sh_turnedSize_9]
    simp only [u_Sh_turnedSize_10, u_Sh_turnedSize_11, u_Sh_turnedSize_14, u_Sh_turnedSize_17, u_Sh_turnedSize_20, u_Sh_turnedSize_21, u_Sh_turnedSize_24, u_Sh_turnedSize_25, u_Sh_turnedSize_28, u_Sh_turnedSize_31, u_Sh_turnedSize_32, u_Sh_turnedSize_33, u_Sh_turnedSize_34, u_Sh_turnedSize_37, u_Sh_turnedSize_40, u_Sh_turnedSize_41, u_Sh_turnedSize_44, u_Sh_turnedSize_45, u_Sh_turnedSize_46, u_Sh_turnedSize_47, u_Sh_turnedSize_50, u_Sh_turnedSize_53, u_Sh_turnedSize_54, u_Sh_turnedSize_57, u_Sh_turnedSize_58, u_Sh_turnedSize_59, u_Sh_turnedSize_60, u_Sh_turnedSize_63, u_Sh_turnedSize_64, u_Sh_turnedSize_67, u_Sh_turnedSize_68, u_Sh_turnedSize_71, u_Sh_turnedSize_72, u_Sh_turnedSize_75, u_Sh_turnedSize_76, u_Sh_turnedSize_77, u_Sh_turnedSize_80, u_Sh_turnedSize_81, u_Sh_turnedSize_84, u_Sh_turnedSize_87, u_Sh_turnedSize_90, u_Sh_turnedSize_92, u_Sh_turnedSize_95, u_Sh_turnedSize_97, u_Sh_turnedSize_98, u_Sh_turnedSize_99, u_Sh_turnedSize_102, h1_18, gt_18_0, xT_h1, ne_eq, not_false_eq_true, not_true_eq_false, true_and, and_true, true_or, or_true, eq_self, Option.toList_some, Option.toList_none, List.cons_append, List.nil_append, tc_0, tc_I, tc_L, tc_A, Nat.reduceAdd, Nat.reduceLeDiff, Nat.reduceEqDiff, Int.reduceEq, Int.reduceLT, Int.reduceLE, Int.reduceNeg, Int.reduceToNat, Int.cast_ofNat_Int, if_true, if_false, and_self, or_self, ite_self, bI_0, bI_1, bI_01, Bool.false_eq_true, reduceCtorEq, w.hf, b0, hTb, s_Tx_size hTb, q1, s_Tx_role hTb w.h9, hr, O1, bB_t, q3, q2]
  · have h' : plQ n k = false := by simpa using h
    rw [h'] at O1
    by_cases h2 : n ∈ k
    · obtain ⟨q1, q2, q3⟩ := ar_ts (q := 4) hp w.h9 hm (by omega)
      rw [if_neg h, if_pos h2, u_Sh_turnedSize_9]
      simp only [u_Sh_turnedSize_10, u_Sh_turnedSize_11, u_Sh_turnedSize_14, u_Sh_turnedSize_17, u_Sh_turnedSize_20, u_Sh_turnedSize_21, u_Sh_turnedSize_24, u_Sh_turnedSize_25, u_Sh_turnedSize_28, u_Sh_turnedSize_31, u_Sh_turnedSize_32, u_Sh_turnedSize_33, u_Sh_turnedSize_34, u_Sh_turnedSize_37, u_Sh_turnedSize_40, u_Sh_turnedSize_41, u_Sh_turnedSize_44, u_Sh_turnedSize_45, u_Sh_turnedSize_46, u_Sh_turnedSize_47, u_Sh_turnedSize_50, u_Sh_turnedSize_53, u_Sh_turnedSize_54, u_Sh_turnedSize_57, u_Sh_turnedSize_58, u_Sh_turnedSize_59, u_Sh_turnedSize_60, u_Sh_turnedSize_63, u_Sh_turnedSize_64, u_Sh_turnedSize_67, u_Sh_turnedSize_68, u_Sh_turnedSize_71, u_Sh_turnedSize_72, u_Sh_turnedSize_75, u_Sh_turnedSize_76, u_Sh_turnedSize_77, u_Sh_turnedSize_80, u_Sh_turnedSize_81, u_Sh_turnedSize_84, u_Sh_turnedSize_87, u_Sh_turnedSize_90, u_Sh_turnedSize_92, u_Sh_turnedSize_95, u_Sh_turnedSize_97, u_Sh_turnedSize_98, u_Sh_turnedSize_99, u_Sh_turnedSize_102, h1_18, gt_18_0, xT_h1, ne_eq, not_false_eq_true, not_true_eq_false, true_and, and_true, true_or, or_true, eq_self, Option.toList_some, Option.toList_none, List.cons_append, List.nil_append, tc_0, tc_I, tc_L, tc_A, Nat.reduceAdd, Nat.reduceLeDiff, Nat.reduceEqDiff, Int.reduceEq, Int.reduceLT, Int.reduceLE, Int.reduceNeg, Int.reduceToNat, Int.cast_ofNat_Int, if_true, if_false, and_self, or_self, ite_self, bI_0, bI_1, bI_01, Bool.false_eq_true, reduceCtorEq, w.hf, b0, hTb, s_Tx_size hTb, q1, s_Tx_role hTb w.h9, hr, O1, bB_f, I1, h2, decide_true, bB_t, q3, q2]
    · obtain ⟨q1, q2, q3⟩ := ar_ts (q := 2) hp w.h9 hm (by omega)
      rw [if_neg h, if_neg h2, u_Sh_turnedSize_9]
      simp only [u_Sh_turnedSize_10, u_Sh_turnedSize_11, u_Sh_turnedSize_14, u_Sh_turnedSize_17, u_Sh_turnedSize_20, u_Sh_turnedSize_21, u_Sh_turnedSize_24, u_Sh_turnedSize_25, u_Sh_turnedSize_28, u_Sh_turnedSize_31, u_Sh_turnedSize_32, u_Sh_turnedSize_33, u_Sh_turnedSize_34, u_Sh_turnedSize_37, u_Sh_turnedSize_40, u_Sh_turnedSize_41, u_Sh_turnedSize_44, u_Sh_turnedSize_45, u_Sh_turnedSize_46, u_Sh_turnedSize_47, u_Sh_turnedSize_50, u_Sh_turnedSize_53, u_Sh_turnedSize_54, u_Sh_turnedSize_57, u_Sh_turnedSize_58, u_Sh_turnedSize_59, u_Sh_turnedSize_60, u_Sh_turnedSize_63, u_Sh_turnedSize_64, u_Sh_turnedSize_67, u_Sh_turnedSize_68, u_Sh_turnedSize_71, u_Sh_turnedSize_72, u_Sh_turnedSize_75, u_Sh_turnedSize_76, u_Sh_turnedSize_77, u_Sh_turnedSize_80, u_Sh_turnedSize_81, u_Sh_turnedSize_84, u_Sh_turnedSize_87, u_Sh_turnedSize_90, u_Sh_turnedSize_92, u_Sh_turnedSize_95, u_Sh_turnedSize_97, u_Sh_turnedSize_98, u_Sh_turnedSize_99, u_Sh_turnedSize_102, h1_18, gt_18_0, xT_h1, ne_eq, not_false_eq_true, not_true_eq_false, true_and, and_true, true_or, or_true, eq_self, Option.toList_some, Option.toList_none, List.cons_append, List.nil_append, tc_0, tc_I, tc_L, tc_A, Nat.reduceAdd, Nat.reduceLeDiff, Nat.reduceEqDiff, Int.reduceEq, Int.reduceLT, Int.reduceLE, Int.reduceNeg, Int.reduceToNat, Int.cast_ofNat_Int, if_true, if_false, and_self, or_self, ite_self, bI_0, bI_1, bI_01, Bool.false_eq_true, reduceCtorEq, w.hf, b0, hTb, s_Tx_size hTb, q1, s_Tx_role hTb w.h9, hr, O1, bB_f, I1, h2, decide_false, q3, q2]
theorem ts_h7 (w : SZ b f t) (hr : insA t b 3 0 p = 1) (h2 : insA t b 2 0 p = 215) (hp : 0 ≤ p ∧ p < t b 9) (hm : 0 ≤ m ∧ m ≤ 100000) : VV L (d + 5) m_Sh_turnedSize 9 [some (tA 18), some (tA ab), some (tI m), some (tI p)] [] (WW f t g) Q = VV L (d + 5) m_Sh_turnedSize 9 [some (tA 18), some (tA ab), some (tI (m + 7)), some (tI (p + 1))] [] (WW f t g) Q := by
  have hTb := w.hTb
  have b0 := xT_0 hTb
  obtain ⟨q1, q2, q3⟩ := ar_ts (q := 7) hp w.h9 hm (by omega)
  rw [u_Sh_turnedSize_9]
  simp only [u_Sh_turnedSize_10, u_Sh_turnedSize_11, u_Sh_turnedSize_14, u_Sh_turnedSize_17, u_Sh_turnedSize_20, u_Sh_turnedSize_21, u_Sh_turnedSize_24, u_Sh_turnedSize_25, u_Sh_turnedSize_28, u_Sh_turnedSize_31, u_Sh_turnedSize_32, u_Sh_turnedSize_33, u_Sh_turnedSize_34, u_Sh_turnedSize_37, u_Sh_turnedSize_40, u_Sh_turnedSize_41, u_Sh_turnedSize_44, u_Sh_turnedSize_45, u_Sh_turnedSize_46, u_Sh_turnedSize_47, u_Sh_turnedSize_50, u_Sh_turnedSize_53, u_Sh_turnedSize_54, u_Sh_turnedSize_57, u_Sh_turnedSize_58, u_Sh_turnedSize_59, u_Sh_turnedSize_60, u_Sh_turnedSize_63, u_Sh_turnedSize_64, u_Sh_turnedSize_67, u_Sh_turnedSize_68, u_Sh_turnedSize_71, u_Sh_turnedSize_72, u_Sh_turnedSize_75, u_Sh_turnedSize_76, u_Sh_turnedSize_77, u_Sh_turnedSize_80, u_Sh_turnedSize_81, u_Sh_turnedSize_84, u_Sh_turnedSize_87, u_Sh_turnedSize_90, u_Sh_turnedSize_92, u_Sh_turnedSize_95, u_Sh_turnedSize_97, u_Sh_turnedSize_98, u_Sh_turnedSize_99, u_Sh_turnedSize_102, h1_18, gt_18_0, xT_h1, ne_eq, not_false_eq_true, not_true_eq_false, true_and, and_true, true_or, or_true, eq_self, Option.toList_some, Option.toList_none, List.cons_append, List.nil_append, tc_0, tc_I, tc_L, tc_A, Nat.reduceAdd, Nat.reduceLeDiff, Nat.reduceEqDiff, Int.reduceEq, Int.reduceLT, Int.reduceLE, Int.reduceNeg, Int.reduceToNat, Int.cast_ofNat_Int, if_true, if_false, and_self, or_self, ite_self, bI_0, bI_1, bI_01, Bool.false_eq_true, reduceCtorEq, w.hf, b0, hTb, s_Tx_size hTb, q1, s_Tx_role hTb w.h9, s_Tx_op hTb w.h9, hr, h2, Int.reduceEq, q3, q2]
theorem ts_h6 (w : SZ b f t) (hr : insA t b 3 0 p = 1) (h2 : insA t b 2 0 p = 216) (hp : 0 ≤ p ∧ p < t b 9) (hm : 0 ≤ m ∧ m ≤ 100000) : VV L (d + 5) m_Sh_turnedSize 9 [some (tA 18), some (tA ab), some (tI m), some (tI p)] [] (WW f t g) Q = VV L (d + 5) m_Sh_turnedSize 9 [some (tA 18), some (tA ab), some (tI (m + 6)), some (tI (p + 1))] [] (WW f t g) Q := by
  have hTb := w.hTb
  have b0 := xT_0 hTb
  obtain ⟨q1, q2, q3⟩ := ar_ts (q := 6) hp w.h9 hm (by omega)
  rw [u_Sh_turnedSize_9]
  simp only [u_Sh_turnedSize_10, u_Sh_turnedSize_11, u_Sh_turnedSize_14, u_Sh_turnedSize_17, u_Sh_turnedSize_20, u_Sh_turnedSize_21, u_Sh_turnedSize_24, u_Sh_turnedSize_25, u_Sh_turnedSize_28, u_Sh_turnedSize_31, u_Sh_turnedSize_32, u_Sh_turnedSize_33, u_Sh_turnedSize_34, u_Sh_turnedSize_37, u_Sh_turnedSize_40, u_Sh_turnedSize_41, u_Sh_turnedSize_44, u_Sh_turnedSize_45, u_Sh_turnedSize_46, u_Sh_turnedSize_47, u_Sh_turnedSize_50, u_Sh_turnedSize_53, u_Sh_turnedSize_54, u_Sh_turnedSize_57, u_Sh_turnedSize_58, u_Sh_turnedSize_59, u_Sh_turnedSize_60, u_Sh_turnedSize_63, u_Sh_turnedSize_64, u_Sh_turnedSize_67, u_Sh_turnedSize_68, u_Sh_turnedSize_71, u_Sh_turnedSize_72, u_Sh_turnedSize_75, u_Sh_turnedSize_76, u_Sh_turnedSize_77, u_Sh_turnedSize_80, u_Sh_turnedSize_81, u_Sh_turnedSize_84, u_Sh_turnedSize_87, u_Sh_turnedSize_90, u_Sh_turnedSize_92, u_Sh_turnedSize_95, u_Sh_turnedSize_97, u_Sh_turnedSize_98, u_Sh_turnedSize_99, u_Sh_turnedSize_102, h1_18, gt_18_0, xT_h1, ne_eq, not_false_eq_true, not_true_eq_false, true_and, and_true, true_or, or_true, eq_self, Option.toList_some, Option.toList_none, List.cons_append, List.nil_append, tc_0, tc_I, tc_L, tc_A, Nat.reduceAdd, Nat.reduceLeDiff, Nat.reduceEqDiff, Int.reduceEq, Int.reduceLT, Int.reduceLE, Int.reduceNeg, Int.reduceToNat, Int.cast_ofNat_Int, if_true, if_false, and_self, or_self, ite_self, bI_0, bI_1, bI_01, Bool.false_eq_true, reduceCtorEq, w.hf, b0, hTb, s_Tx_size hTb, q1, s_Tx_role hTb w.h9, s_Tx_op hTb w.h9, hr, h2, Int.reduceEq, q3, q2]
theorem ts_0 {ro : Int} (w : SZ b f t) (hr : insA t b 3 0 p = ro) (hro : ro = 2 ∨ ro = 3) (hp : 0 ≤ p ∧ p < t b 9) : VV L (d + 5) m_Sh_turnedSize 9 [some (tA 18), some (tA ab), some (tI m), some (tI p)] [] (WW f t g) Q = VV L (d + 5) m_Sh_turnedSize 9 [some (tA 18), some (tA ab), some (tI m), some (tI (p + 1))] [] (WW f t g) Q := by
  have hTb := w.hTb
  have b0 := xT_0 hTb
  obtain ⟨q1, q2, _⟩ := ar_ts (m := 0) (q := 0) hp w.h9 (by omega) (by omega)
  rw [u_Sh_turnedSize_9]
  rcases hro with rfl | rfl <;> simp only [u_Sh_turnedSize_10, u_Sh_turnedSize_11, u_Sh_turnedSize_14, u_Sh_turnedSize_17, u_Sh_turnedSize_20, u_Sh_turnedSize_21, u_Sh_turnedSize_24, u_Sh_turnedSize_25, u_Sh_turnedSize_28, u_Sh_turnedSize_31, u_Sh_turnedSize_32, u_Sh_turnedSize_33, u_Sh_turnedSize_34, u_Sh_turnedSize_37, u_Sh_turnedSize_40, u_Sh_turnedSize_41, u_Sh_turnedSize_44, u_Sh_turnedSize_45, u_Sh_turnedSize_46, u_Sh_turnedSize_47, u_Sh_turnedSize_50, u_Sh_turnedSize_53, u_Sh_turnedSize_54, u_Sh_turnedSize_57, u_Sh_turnedSize_58, u_Sh_turnedSize_59, u_Sh_turnedSize_60, u_Sh_turnedSize_63, u_Sh_turnedSize_64, u_Sh_turnedSize_67, u_Sh_turnedSize_68, u_Sh_turnedSize_71, u_Sh_turnedSize_72, u_Sh_turnedSize_75, u_Sh_turnedSize_76, u_Sh_turnedSize_77, u_Sh_turnedSize_80, u_Sh_turnedSize_81, u_Sh_turnedSize_84, u_Sh_turnedSize_87, u_Sh_turnedSize_90, u_Sh_turnedSize_92, u_Sh_turnedSize_95, u_Sh_turnedSize_97, u_Sh_turnedSize_98, u_Sh_turnedSize_99, u_Sh_turnedSize_102, h1_18, gt_18_0, xT_h1, ne_eq, not_false_eq_true, not_true_eq_false, true_and, and_true, true_or, or_true, eq_self, Option.toList_some, Option.toList_none, List.cons_append, List.nil_append, tc_0, tc_I, tc_L, tc_A, Nat.reduceAdd, Nat.reduceLeDiff, Nat.reduceEqDiff, Int.reduceEq, Int.reduceLT, Int.reduceLE, Int.reduceNeg, Int.reduceToNat, Int.cast_ofNat_Int, if_true, if_false, and_self, or_self, ite_self, bI_0, bI_1, bI_01, Bool.false_eq_true, reduceCtorEq, w.hf, b0, hTb, s_Tx_size hTb, q1, s_Tx_role hTb w.h9, hr, Int.reduceEq, q2]
end
section
variable {L d b c : Nat} {f t g : Mem} {ab : Nat} {T : Type} {kb : T → List Int} {nb : T → Nat} {tb : T → Int → Int → List En9} {wb : T → Prop} {nu : T → Nat}
def TSok (L D b : Nat) (f t g : Mem) (ab : Nat) {T : Type} (kb : T → List Int) (nb : T → Nat) (tb : T → Int → Int → List En9) (wb : T → Prop) (nu : T → Nat) : Prop := ∀ (x : T), wb x → ∀ (i j p m : Int), 0 ≤ i → 0 ≤ p → 0 ≤ m → p + nb x ≤ t b 9 → seg (tok t b) i j (kb x) → TO9 t b p.toNat (tb x i p) → m + nu x ≤ 100000 → ∀ (Q : Option TV → Wd → Prop), VV L D m_Sh_turnedSize 9 [some (tA 18), some (tA ab), some (tI m), some (tI p)] [] (WW f t g) Q = VV L D m_Sh_turnedSize 9 [some (tA 18), some (tA ab), some (tI (m + nu x)), some (tI (p + nb x))] [] (WW f t g) Q
theorem ts_C (w : SZ b f t) (hl9 : ∀ x i p, (tb x i p).length = nb x) (hR : TSok L (d + 5) b f t g ab kb nb tb wb nu) (s : CC c T) (hw : wC true wb s) (i j p m : Int) (hi : 0 ≤ i) (hp : 0 ≤ p) (hm : 0 ≤ m) (hp9 : p + nC nb s ≤ t b 9) (hs : seg (tok t b) i j (kC kb s)) (hto : TO9 t b p.toNat (t9C kb nb tb i p s)) (hlen : m + nt1 nu (.inr s : SS c ⊕ CC c T) ≤ 100000) (Q : Option TV → Wd → Prop) : VV L (d + 5) m_Sh_turnedSize 9 [some (tA 18), some (tA ab), some (tI m), some (tI p)] [] (WW f t g) Q = VV L (d + 5) m_Sh_turnedSize 9 [some (tA 18), some (tA ab), some (tI (m + nt1 nu (.inr s : SS c ⊕ CC c T))), some (tI (p + nC nb s))] [] (WW f t g) Q := by
  match s, hw, hp9, hs, hto, hlen with
  | .inl (k, e, x, y, e2), hw, _, _, _, _ => exact absurd hw.1 (by decide)
  | .inr (.inl (e, x, y)), hw, hp9, hs, hto, hlen =>
    obtain ⟨_, he, hx, hy⟩ := hw
    obtain ⟨r1, hs⟩ := seg_hd hs
    obtain ⟨r2, hs⟩ := seg_split hs
    obtain ⟨r3, hs⟩ := seg_hd hs
    obtain ⟨r4, hs⟩ := seg_split hs
    obtain ⟨r5, hs⟩ := seg_hd hs
    obtain ⟨r6, hs⟩ := seg_hd hs
    obtain ⟨r7, hs⟩ := seg_hd hs
    obtain ⟨r8, hs⟩ := seg_split hs
    have hto' : TO9 t b p.toNat (_ :: (_ ++ _ :: (_ ++ [_]))) := hto
    rw [TO9, TO9_app, TO9, TO9_app, TO9, TO9, hl9, hl9] at hto'
    obtain ⟨E1, A1, E2, B1, E3, _⟩ := hto'
    have hnC : nC nb (.inr (.inl (e, x, y)) : CC c T) = nb x + nb y + 3 := rfl
    have hnt : nt1 nu (.inr (.inr (.inl (e, x, y))) : SS c ⊕ CC c T) = nu x + nu y + 6 := rfl
    rw [hnC] at hp9 ⊢
    rw [hnt] at hlen ⊢
    obtain ⟨z1, z2, z3, z4, z5, z6, z7, z8, z9, z10⟩ := ar_t2 hp hp9
    obtain ⟨⟨o1, o2, o3, o4, _⟩, _⟩ := E1
    obtain ⟨⟨m1, m2, _, _, _⟩, _⟩ := E2
    obtain ⟨⟨t1, t2, _, _, _⟩, _⟩ := E3
    rw [← z8] at m2
    rw [← z10] at t2
    rw [← z7] at A1
    rw [← z9] at B1
    rw [ts_h6 w (by rw [insA_in z1.1 z1.2]; exact o2) (by rw [insA_in z1.1 z1.2]; exact o1) z1 (by omega)]
    rw [hR x hx (i + (kX e).length + 2) _ (p + 1) (m + 6) (by omega) (by omega) (by omega) z2 (by rw [show i + ((kX e).length : Int) + 2 = i + 1 + (kX e).length + 1 by omega]; exact r4) A1 (by omega)]
    rw [ts_0 w (by rw [insA_in z3.1 z3.2]; exact m2) (Or.inl rfl) z3]
    rw [hR y hy (i + (kX e).length + 2 + (kb x).length + 3) _ (p + 1 + (nb x : Int) + 1) (m + 6 + nu x) (by omega) (by omega) (by omega) z4 (by rw [show i + ((kX e).length : Int) + 2 + (kb x).length + 3 = i + 1 + (kX e).length + 1 + (kb x).length + 1 + 1 + 1 by omega]; exact r8) (by rw [show p + 1 + (nb x : Int) + 1 = p + nb x + 1 + 1 by omega] at B1 ⊢; exact B1) (by omega)]
    rw [ts_0 w (by rw [insA_in z5.1 z5.2]; exact t2) (Or.inr rfl) z5, z6, show m + 6 + (nu x : Int) + nu y = m + ((nu x + nu y + 6 : Nat) : Int) by omega]
  | .inr (.inr (e, x)), hw, hp9, hs, hto, hlen =>
    obtain ⟨_, he, hx⟩ := hw
    obtain ⟨r1, hs⟩ := seg_hd hs
    obtain ⟨r2, hs⟩ := seg_split hs
    obtain ⟨r3, hs⟩ := seg_hd hs
    obtain ⟨r4, hs⟩ := seg_split hs
    have hto' : TO9 t b p.toNat (_ :: (_ ++ [_])) := hto
    rw [TO9, TO9_app, TO9, TO9, hl9] at hto'
    obtain ⟨E1, A1, E3, _⟩ := hto'
    have hnC : nC nb (.inr (.inr (e, x)) : CC c T) = nb x + 2 := rfl
    have hnt : nt1 nu (.inr (.inr (.inr (e, x))) : SS c ⊕ CC c T) = nu x + 7 := rfl
    rw [hnC] at hp9 ⊢
    rw [hnt] at hlen ⊢
    obtain ⟨z1, z2, z3, z4, z5, z6⟩ := ar_t1 hp hp9
    obtain ⟨⟨o1, o2, o3, o4, _⟩, _⟩ := E1
    obtain ⟨⟨t1, t2, _, _, t5⟩, _⟩ := E3
    rw [← z6] at t2
    rw [← z5] at A1
    rw [ts_h7 w (by rw [insA_in z1.1 z1.2]; exact o2) (by rw [insA_in z1.1 z1.2]; exact o1) z1 (by omega)]
    rw [hR x hx (i + (kX e).length + 2) _ (p + 1) (m + 7) (by omega) (by omega) (by omega) z2 (by rw [show i + ((kX e).length : Int) + 2 = i + 1 + (kX e).length + 1 by omega]; exact r4) A1 (by omega)]
    rw [ts_0 w (by rw [insA_in z3.1 z3.2]; exact t2) (Or.inr rfl) z3, z4, show m + 7 + (nu x : Int) = m + ((nu x + 7 : Nat) : Int) by omega]
theorem ts_L (w : SZ b f t) (hl9 : ∀ x i p, (tb x i p).length = nb x) (hR : TSok L (d + 5) b f t g ab kb nb tb wb nu) : TSok L (d + 5) b f t g ab (fun x : List (SS c ⊕ CC c T) => x.flatMap (k1 kb)) (fun x => (x.map (n1 nb)).sum) (fun x i p => t9L kb nb tb x i p) (fun x => allL (w1 true wb) x) (fun x => (x.map (nt1 nu)).sum) := by
  intro x
  induction x with
  | nil =>
    intro _ i j p m _ _ _ _ _ _ _ Q
    simp only [List.map_nil, List.sum_nil]
    rw [show p + ((0 : Nat) : Int) = p by omega, show m + ((0 : Nat) : Int) = m by omega]
  | cons s x ih =>
    intro hw i j p m hi hp hm hp9 hs hto hlen Q
    have hws := hw s (List.mem_cons_self ..)
    have hwr : allL (w1 true wb) x := fun v hv => hw v (List.mem_cons_of_mem _ hv)
    simp only [List.map_cons, List.sum_cons, List.flatMap_cons] at hp9 hs hlen ⊢
    have hto2 : TO9 t b p.toNat (t91 kb nb tb i p s ++ t9L kb nb tb x (i + (k1 kb s).length) (p + n1 nb s)) := hto
    rw [TO9_app, t91_len hl9] at hto2
    obtain ⟨s1, s2⟩ := seg_split hs
    obtain ⟨v1, v2, v3, v4, v5⟩ := ar_tl hp hp9
    obtain ⟨_, _, _, x4, x5⟩ := ar_tl hm hlen
    rw [← v3] at hto2
    obtain ⟨t1, t2⟩ := hto2
    have hstep : VV L (d + 5) m_Sh_turnedSize 9 [some (tA 18), some (tA ab), some (tI m), some (tI p)] [] (WW f t g) Q = VV L (d + 5) m_Sh_turnedSize 9 [some (tA 18), some (tA ab), some (tI (m + nt1 nu s)), some (tI (p + n1 nb s))] [] (WW f t g) Q := by
      match s, hws, s1, t1, v1, x4 with
      | .inl (.inl (k, n, e)), hws, s1, t1, v1, x4 =>
        obtain ⟨⟨⟨o1, o2, o3, o4, _⟩, _⟩, _⟩ := t1
        have v1' : p + ((1 : Nat) : Int) ≤ t b 9 := v1
        have hA := SA_of (f := f) (p := p) w.hTb w.hf w.hl w.h9 hws.2.1 hws.2.2 hi hp (by omega) s1 o3 o4
        have hS := ts_set (L := L) (d := d) (g := g) (Q := Q) (ab := ab) (m := m) w hA (by rw [insA_in hp (by omega)]; exact o2) ⟨hp, by omega⟩ ⟨hm, by omega⟩
        have hl2 := tuS_len e hws.2.2 hws.2.1
        have hcast : (if plQ n (kX e) = true then (1 : Int) else if n ∈ kX e then 4 else 2) = ((nt1 nu (.inl (.inl (k, n, e)) : SS c ⊕ CC c T) : Nat) : Int) := by
          show _ = (((tuS n e).length : Nat) : Int)
          rw [hl2]; (repeat' split) <;> rfl
        rw [hcast] at hS
        exact hS
      | .inl (.inr s), hws, _, _, _, _ =>
        exfalso
        match s, hws with
        | .inl (q, o, e), hws => exact absurd hws.1 (by decide)
        | .inr (.inl (q, q2)), hws => exact absurd hws.1 (by decide)
        | .inr (.inr (.inl (k, n, s))), hws => exact absurd hws.1 (by decide)
        | .inr (.inr (.inr (.inl (k, r, dd, e)))), hws => exact absurd hws.1 (by decide)
        | .inr (.inr (.inr (.inr (k, n)))), hws => exact absurd hws.1 (by decide)
      | .inr s, hws, s1, t1, v1, x4 => exact ts_C w hl9 hR s hws i _ p m hi hp hm v1 s1 t1 (by omega) Q
    rw [hstep, ih hwr (i + ((k1 kb s).length : Int)) j (p + (n1 nb s : Int)) (m + nt1 nu s) (Int.add_nonneg hi (Int.natCast_nonneg _)) v2 (Int.add_nonneg hm (Int.natCast_nonneg _)) v4 s2 t2 x4 Q, v5, x5]
end
section
variable {L d b c : Nat} {f t g : Mem} {ab : Nat}
theorem s_Sh_sB (w : SZ b f t) : ∀ (bb : Nat), bb ≤ 6 → TSok L (d + 5) b f t g ab (kB (c := c) bb) (nB bb) (t9B bb) (wB true bb) (fun x => nB bb (tuB bb (115 + bb) x)) := by
  intro bb
  induction bb with
  | zero => intro _ x; exact nomatch x
  | succ bb ih =>
    intro hb
    have hR := ih (by omega)
    have hL := ts_L (c := c) (T := TB c bb) w (t9B_len bb) hR
    intro x hx i j p m h1 h2 h3 h4 h5 h6 h7 Q
    have ek := (tuB_k (c := c) bb (115 + ((bb + 1 : Nat) : Int)) rfl hb x hx).2
    rw [show (115 : Int) + ((bb + 1 : Nat) : Int) - 1 = 115 + bb by omega] at ek
    have e2 : (List.map (nt1 (fun y => nB bb (tuB bb (115 + bb) y))) x).sum = nB (bb + 1) (tuB (bb + 1) (115 + ((bb + 1 : Nat) : Int)) x) := ek.symm
    have h7' : m + ((List.map (nt1 (fun y => nB bb (tuB bb (115 + bb) y))) x).sum : Nat) ≤ 100000 := by rw [e2]; exact h7
    exact (hL x hx i j p m h1 h2 h3 h4 h5 h6 h7' Q).trans (congrArg (fun (z : Nat) => VV L (d + 5) m_Sh_turnedSize 9 [some (tA 18), some (tA ab), some (tI (m + z)), some (tI (p + (nB (bb + 1) x : Int)))] [] (WW f t g) Q) e2)
end
