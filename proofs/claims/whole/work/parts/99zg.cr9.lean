/-! Calls: digest -/
def dsV (h v : Int) : Int := w64 (w64 (31 * h) + v)
theorem w64_w (x : Int) : w64 (w64 x) = w64 x := by unfold w64; simp
theorem ds_0 (h : Int) : dsV h 0 = w64 (31 * h) := by unfold dsV; rw [Int.add_zero, w64_w]
theorem ds_m (h v : Int) : w64 (w64 (h * 31) + v) = dsV h v := by unfold dsV; rw [Int.mul_comm]
theorem ds_d (h v : Int) : w64 (w64 (31 * h) + v) = dsV h v := rfl
theorem mset_2 {g : Mem} {a k : Nat} {u v : Int} : mset (mset g a k u) a k v = mset g a k v := by
  funext b j; simp only [mset]; split <;> rfl
def dgN (f : Mem) (h : Int) : Nat → Int
  | 0 => h
  | k + 1 => if f 20 k = 0 then dsV (dgN f h k) 0 else dsV (dsV (dgN f h k) 1) (f 21 k)
def dgI (f : Mem) (a : Nat) (h : Int) : Nat → Int
  | 0 => h
  | k + 1 => dsV (dgI f a h k) (f a k)
def dgR (f : Mem) (h : Int) : Nat → Int
  | 0 => h
  | k + 1 => if f 29 k = -1 then dsV (dgR f h k) 0 else dgI f (34 + (f 29 k).toNat) (dsV (dsV (dsV (dgR f h k) 1) (f 31 (f 29 k).toNat)) (f 32 (f 29 k).toNat)) (f 32 (f 29 k).toNat).toNat
def dgP (f : Mem) (h : Int) : Nat → Int
  | 0 => h
  | k + 1 => dgI f (23 + k) (dsV (dgP f h k) (f 27 k)) (f 27 k).toNat
def dgF (f : Mem) (h : Int) : Nat → Int
  | 0 => h
  | k + 1 => dsV (dsV (dgF f h k) (f 153 k)) (f 154 k)
section
variable {L d : Nat} {X : Nat → Tre} {TH : Nat} {f f' t t' g g' : Mem} {Q : Option TV → Wd → Prop} {h : Int}
theorem l_dgN : ∀ (m k : Nat), k + m = 26 → VV L d m_St_digestNames 2 [some (tA 19), some (tL (dgN f h k)), none, some (tI k)] [] (WW f t g) Q = Q (some (tL (dgN f h 26))) (WW f t g) := by
  intro m
  induction m with
  | zero =>
    intro k hk
    obtain rfl : k = 26 := by omega
    rw [u_St_digestNames_2]
    simp only [u_St_digestNames_3, u_St_digestNames_5, u_St_digestNames_51, u_St_digestNames_52, ne_eq, not_false_eq_true, not_true_eq_false, true_and, and_true, true_or, or_true, eq_self, Option.toList_some, Option.toList_none, List.cons_append, List.nil_append, tc_0, tc_I, tc_L, tc_A, Nat.reduceAdd, Nat.reduceLeDiff, Nat.reduceEqDiff, Int.reduceEq, Int.reduceLT, Int.reduceLE, Int.reduceNeg, Int.reduceToNat, Int.cast_ofNat_Int, if_true, if_false, and_self, or_self, ite_self, bI_0, bI_1, bI_01, Bool.false_eq_true, reduceCtorEq, show (26 : Int) ≤ ((26 : Nat) : Int) by omega]
  | succ m ih =>
    intro k hk
    have wk : w32 ((k : Int) + 1) = ((k + 1 : Nat) : Int) := by rw [w32_id (by omega) (by omega)]; omega
    rw [← ih (k + 1) (by omega), u_St_digestNames_2]
    by_cases h0 : f 20 k = 0
    · have e : dgN f h (k + 1) = w64 (31 * dgN f h k) := by rw [dgN, if_pos h0, ds_0]
      simp only [u_St_digestNames_3, u_St_digestNames_5, u_St_digestNames_8, u_St_digestNames_9, u_St_digestNames_12, u_St_digestNames_13, u_St_digestNames_14, u_St_digestNames_17, u_St_digestNames_20, u_St_digestNames_21, u_St_digestNames_22, u_St_digestNames_23, u_St_digestNames_24, u_St_digestNames_27, u_St_digestNames_28, u_St_digestNames_29, u_St_digestNames_32, u_St_digestNames_33, u_St_digestNames_34, u_St_digestNames_35, u_St_digestNames_36, u_St_digestNames_39, u_St_digestNames_42, u_St_digestNames_43, u_St_digestNames_44, u_St_digestNames_45, u_St_digestNames_48, h1_19, gt_19_0, h1_20, h2_20, gt_20, pt_20, ne_eq, not_false_eq_true, not_true_eq_false, true_and, and_true, true_or, or_true, eq_self, Option.toList_some, Option.toList_none, List.cons_append, List.nil_append, tc_0, tc_I, tc_L, tc_A, Nat.reduceAdd, Nat.reduceLeDiff, Nat.reduceEqDiff, Int.reduceEq, Int.reduceLT, Int.reduceLE, Int.reduceNeg, Int.reduceToNat, Int.cast_ofNat_Int, if_true, if_false, and_self, or_self, ite_self, bI_0, bI_1, bI_01, Bool.false_eq_true, reduceCtorEq, show ¬ (26 : Int) ≤ k by omega, show 0 ≤ (k : Int) by omega, show (k : Int) < 26 by omega, Int.toNat_natCast, h0, wk, e]
    · have e : dgN f h (k + 1) = dsV (dsV (dgN f h k) 1) (f 21 k) := by rw [dgN, if_neg h0]
      simp only [u_St_digestNames_3, u_St_digestNames_5, u_St_digestNames_8, u_St_digestNames_9, u_St_digestNames_12, u_St_digestNames_13, u_St_digestNames_14, u_St_digestNames_17, u_St_digestNames_20, u_St_digestNames_21, u_St_digestNames_22, u_St_digestNames_23, u_St_digestNames_24, u_St_digestNames_27, u_St_digestNames_28, u_St_digestNames_29, u_St_digestNames_32, u_St_digestNames_33, u_St_digestNames_34, u_St_digestNames_35, u_St_digestNames_36, u_St_digestNames_39, u_St_digestNames_42, u_St_digestNames_43, u_St_digestNames_44, u_St_digestNames_45, u_St_digestNames_48, h1_19, gt_19_0, gt_19_1, h1_20, h2_20, gt_20, pt_20, h1_21, h2_21, gt_21, pt_21, ne_eq, not_false_eq_true, not_true_eq_false, true_and, and_true, true_or, or_true, eq_self, Option.toList_some, Option.toList_none, List.cons_append, List.nil_append, tc_0, tc_I, tc_L, tc_A, Nat.reduceAdd, Nat.reduceLeDiff, Nat.reduceEqDiff, Int.reduceEq, Int.reduceLT, Int.reduceLE, Int.reduceNeg, Int.reduceToNat, Int.cast_ofNat_Int, if_true, if_false, and_self, or_self, ite_self, bI_0, bI_1, bI_01, Bool.false_eq_true, reduceCtorEq, show ¬ (26 : Int) ≤ k by omega, show 0 ≤ (k : Int) by omega, show (k : Int) < 26 by omega, Int.toNat_natCast, h0, wk, e, ds_m, ds_d]
theorem l_dgI {n q : Nat} (hS : RSt f g' TH) (hn : n < 15) (hq : f 32 n = (q : Int)) : ∀ (m k : Nat), k + m = q → VV L (d + 1) m_Sf_digestRow 31 [some (tA 28), some (tL (dgI f (34 + n) h k)), none, some (tI n), some (tI q), some (tI k)] [] (WW f t g) Q = Q (some (tL (dgI f (34 + n) h q))) (WW f t g) := by
  have cc := hS.cC n hn
  intro m
  induction m with
  | zero =>
    intro k hk
    obtain rfl : k = q := by omega
    rw [u_Sf_digestRow_31]
    simp only [u_Sf_digestRow_33, u_Sf_digestRow_35, u_Sf_digestRow_58, u_Sf_digestRow_59, ne_eq, not_false_eq_true, not_true_eq_false, true_and, and_true, true_or, or_true, eq_self, Option.toList_some, Option.toList_none, List.cons_append, List.nil_append, tc_0, tc_I, tc_L, tc_A, Nat.reduceAdd, Nat.reduceLeDiff, Nat.reduceEqDiff, Int.reduceEq, Int.reduceLT, Int.reduceLE, Int.reduceNeg, Int.reduceToNat, Int.cast_ofNat_Int, if_true, if_false, and_self, or_self, ite_self, bI_0, bI_1, bI_01, Bool.false_eq_true, reduceCtorEq, show (k : Int) ≤ k by omega]
  | succ m ih =>
    intro k hk
    have wk : w32 ((k : Int) + 1) = ((k + 1 : Nat) : Int) := by rw [w32_id (by omega) (by omega)]; omega
    have el : ldS f (n : Int) (k : Int) = f (34 + n) k := by unfold ldS; rw [Int.toNat_natCast, Int.toNat_natCast, if_pos (by omega)]
    have e : dgI f (34 + n) h (k + 1) = dsV (dgI f (34 + n) h k) (f (34 + n) k) := rfl
    rw [← ih (k + 1) (by omega), u_Sf_digestRow_31]
    simp only [u_Sf_digestRow_33, u_Sf_digestRow_35, u_Sf_digestRow_38, u_Sf_digestRow_41, u_Sf_digestRow_42, u_Sf_digestRow_43, u_Sf_digestRow_44, u_Sf_digestRow_45, u_Sf_digestRow_47, u_Sf_digestRow_50, u_Sf_digestRow_51, u_Sf_digestRow_52, u_Sf_digestRow_55, h1_28, ne_eq, not_false_eq_true, not_true_eq_false, true_and, and_true, true_or, or_true, eq_self, Option.toList_some, Option.toList_none, List.cons_append, List.nil_append, tc_0, tc_I, tc_L, tc_A, Nat.reduceAdd, Nat.reduceLeDiff, Nat.reduceEqDiff, Int.reduceEq, Int.reduceLT, Int.reduceLE, Int.reduceNeg, Int.reduceToNat, Int.cast_ofNat_Int, if_true, if_false, and_self, or_self, ite_self, bI_0, bI_1, bI_01, Bool.false_eq_true, reduceCtorEq, show ¬ (q : Int) ≤ k by omega, s_Sf_load (c12 hS), el, wk, e, ds_d]
theorem s_Sf_digestRow {n : Nat} (hS : RSt f g' TH) (hn : n < 15) : VV L (d + 1) m_Sf_digestRow 0 [some (tA 28), some (tL h), none, some (tI n), none, none] [] (WW f t g) Q = Q (some (tL (dgI f (34 + n) (dsV (dsV h (f 31 n)) (f 32 n)) (f 32 n).toNat))) (WW f t g) := by
  have cc := hS.cC n hn
  obtain ⟨q, hq⟩ : ∃ q : Nat, f 32 n = (q : Int) := ⟨(f 32 n).toNat, by omega⟩
  have ec : ctS f (n : Int) = (q : Int) := by unfold ctS; rw [if_pos (by omega), Int.toNat_natCast]; exact hq
  have ek : kdS f (n : Int) = f 31 n := by unfold kdS; rw [if_pos (by omega), Int.toNat_natCast]
  have hl := l_dgI (L := L) (d := d) (t := t) (g := g) (Q := Q) (h := dsV (dsV h (f 31 n)) (f 32 n)) hS hn hq q 0 (by omega)
  rw [hq] at hl ⊢
  rw [Int.toNat_natCast, ← hl]
  simp only [u_Sf_digestRow_0, u_Sf_digestRow_1, u_Sf_digestRow_2, u_Sf_digestRow_5, u_Sf_digestRow_7, u_Sf_digestRow_10, u_Sf_digestRow_11, u_Sf_digestRow_12, u_Sf_digestRow_13, u_Sf_digestRow_14, u_Sf_digestRow_17, u_Sf_digestRow_18, u_Sf_digestRow_19, u_Sf_digestRow_22, u_Sf_digestRow_23, u_Sf_digestRow_25, u_Sf_digestRow_26, u_Sf_digestRow_27, u_Sf_digestRow_28, u_Sf_digestRow_29, h1_28, ne_eq, not_false_eq_true, not_true_eq_false, true_and, and_true, true_or, or_true, eq_self, Option.toList_some, Option.toList_none, List.cons_append, List.nil_append, tc_0, tc_I, tc_L, tc_A, Nat.reduceAdd, Nat.reduceLeDiff, Nat.reduceEqDiff, Int.reduceEq, Int.reduceLT, Int.reduceLE, Int.reduceNeg, Int.reduceToNat, Int.cast_ofNat_Int, if_true, if_false, and_self, or_self, ite_self, bI_0, bI_1, bI_01, Bool.false_eq_true, reduceCtorEq, s_Sf_countOf, ec, s_Sf_kindOf, ek, ds_m, ds_d]
  rfl
theorem l_dgR (hS : RSt f g' TH) : ∀ (m k : Nat), k + m = 6 → VV L (d + 2) m_Sf_digestRows 2 [some (tA 28), some (tL (dgR f h k)), none, some (tI k)] [] (WW f t g) Q = Q (some (tL (dgR f h 6))) (WW f t g) := by
  intro m
  induction m with
  | zero =>
    intro k hk
    obtain rfl : k = 6 := by omega
    rw [u_Sf_digestRows_2]
    simp only [u_Sf_digestRows_3, u_Sf_digestRows_5, u_Sf_digestRows_50, u_Sf_digestRows_51, ne_eq, not_false_eq_true, not_true_eq_false, true_and, and_true, true_or, or_true, eq_self, Option.toList_some, Option.toList_none, List.cons_append, List.nil_append, tc_0, tc_I, tc_L, tc_A, Nat.reduceAdd, Nat.reduceLeDiff, Nat.reduceEqDiff, Int.reduceEq, Int.reduceLT, Int.reduceLE, Int.reduceNeg, Int.reduceToNat, Int.cast_ofNat_Int, if_true, if_false, and_self, or_self, ite_self, bI_0, bI_1, bI_01, Bool.false_eq_true, reduceCtorEq, show (6 : Int) ≤ ((6 : Nat) : Int) by omega]
  | succ m ih =>
    intro k hk
    have wk : w32 ((k : Int) + 1) = ((k + 1 : Nat) : Int) := by rw [w32_id (by omega) (by omega)]; omega
    have hrw := hS.rw k (by omega)
    rw [hC_r (show k < 6 by omega)] at hrw
    rw [← ih (k + 1) (by omega), u_Sf_digestRows_2]
    by_cases h0 : f 29 k = -1
    · have e : dgR f h (k + 1) = w64 (31 * dgR f h k) := by rw [dgR, if_pos h0, ds_0]
      simp only [u_Sf_digestRows_3, u_Sf_digestRows_5, u_Sf_digestRows_8, u_Sf_digestRows_9, u_Sf_digestRows_12, u_Sf_digestRows_13, u_Sf_digestRows_14, u_Sf_digestRows_15, u_Sf_digestRows_18, u_Sf_digestRows_21, u_Sf_digestRows_22, u_Sf_digestRows_23, u_Sf_digestRows_26, u_Sf_digestRows_27, u_Sf_digestRows_30, u_Sf_digestRows_31, u_Sf_digestRows_32, u_Sf_digestRows_33, u_Sf_digestRows_34, u_Sf_digestRows_35, u_Sf_digestRows_38, u_Sf_digestRows_39, u_Sf_digestRows_40, u_Sf_digestRows_43, u_Sf_digestRows_44, u_Sf_digestRows_47, h1_28, gt_28_0, h1_29, h2_29, gt_29, pt_29, ne_eq, not_false_eq_true, not_true_eq_false, true_and, and_true, true_or, or_true, eq_self, Option.toList_some, Option.toList_none, List.cons_append, List.nil_append, tc_0, tc_I, tc_L, tc_A, Nat.reduceAdd, Nat.reduceLeDiff, Nat.reduceEqDiff, Int.reduceEq, Int.reduceLT, Int.reduceLE, Int.reduceNeg, Int.reduceToNat, Int.cast_ofNat_Int, if_true, if_false, and_self, or_self, ite_self, bI_0, bI_1, bI_01, Bool.false_eq_true, reduceCtorEq, show ¬ (6 : Int) ≤ k by omega, show 0 ≤ (k : Int) by omega, show (k : Int) < 6 by omega, Int.toNat_natCast, h0, wk, e]
    · obtain ⟨n, hn⟩ : ∃ n : Nat, f 29 k = (n : Int) := ⟨(f 29 k).toNat, by omega⟩
      have hn15 : n < 15 := by omega
      have e : dgR f h (k + 1) = dgI f (34 + n) (dsV (dsV (dsV (dgR f h k) 1) (f 31 n)) (f 32 n)) (f 32 n).toNat := by rw [dgR, if_neg h0, hn, Int.toNat_natCast]
      have hn1 : ¬ (n : Int) = -1 := by omega
      simp only [u_Sf_digestRows_3, u_Sf_digestRows_5, u_Sf_digestRows_8, u_Sf_digestRows_9, u_Sf_digestRows_12, u_Sf_digestRows_13, u_Sf_digestRows_14, u_Sf_digestRows_15, u_Sf_digestRows_18, u_Sf_digestRows_21, u_Sf_digestRows_22, u_Sf_digestRows_23, u_Sf_digestRows_26, u_Sf_digestRows_27, u_Sf_digestRows_30, u_Sf_digestRows_31, u_Sf_digestRows_32, u_Sf_digestRows_33, u_Sf_digestRows_34, u_Sf_digestRows_35, u_Sf_digestRows_38, u_Sf_digestRows_39, u_Sf_digestRows_40, u_Sf_digestRows_43, u_Sf_digestRows_44, u_Sf_digestRows_47, h1_28, gt_28_0, h1_29, h2_29, gt_29, pt_29, ne_eq, not_false_eq_true, not_true_eq_false, true_and, and_true, true_or, or_true, eq_self, Option.toList_some, Option.toList_none, List.cons_append, List.nil_append, tc_0, tc_I, tc_L, tc_A, Nat.reduceAdd, Nat.reduceLeDiff, Nat.reduceEqDiff, Int.reduceEq, Int.reduceLT, Int.reduceLE, Int.reduceNeg, Int.reduceToNat, Int.cast_ofNat_Int, if_true, if_false, and_self, or_self, ite_self, bI_0, bI_1, bI_01, Bool.false_eq_true, reduceCtorEq, show ¬ (6 : Int) ≤ k by omega, show 0 ≤ (k : Int) by omega, show (k : Int) < 6 by omega, Int.toNat_natCast, hn, hn1, s_Sf_digestRow hS hn15, wk, e, ds_d]
theorem l_dgPi {s q : Nat} (hs : s < 4) (hq : f 27 s = (q : Int)) (h30 : q ≤ 30) : ∀ (m k : Nat), k + m = q → VV L (d + 2) m_St_digestPiles 24 [some (tA 19), some (tL (dgI f (23 + s) h k)), none, some (tI s), some (tI k)] [] (WW f t g) Q = VV L (d + 2) m_St_digestPiles 56 [some (tA 19), some (tL (dgI f (23 + s) h q)), none, some (tI s), some (tI q)] [] (WW f t g) Q := by
  intro m
  induction m with
  | zero =>
    intro k hk
    obtain rfl : k = q := by omega
    rw [u_St_digestPiles_24]
    simp only [u_St_digestPiles_26, u_St_digestPiles_27, u_St_digestPiles_30, u_St_digestPiles_31, u_St_digestPiles_32, h1_19, gt_19_3, h1_27, h2_27, gt_27, pt_27, ne_eq, not_false_eq_true, not_true_eq_false, true_and, and_true, true_or, or_true, eq_self, Option.toList_some, Option.toList_none, List.cons_append, List.nil_append, tc_0, tc_I, tc_L, tc_A, Nat.reduceAdd, Nat.reduceLeDiff, Nat.reduceEqDiff, Int.reduceEq, Int.reduceLT, Int.reduceLE, Int.reduceNeg, Int.reduceToNat, Int.cast_ofNat_Int, if_true, if_false, and_self, or_self, ite_self, bI_0, bI_1, bI_01, Bool.false_eq_true, reduceCtorEq, show 0 ≤ (s : Int) by omega, show (s : Int) < 4 by omega, Int.toNat_natCast, hq, show (k : Int) ≤ k by omega]
  | succ m ih =>
    intro k hk
    have wk : w32 ((k : Int) + 1) = ((k + 1 : Nat) : Int) := by rw [w32_id (by omega) (by omega)]; omega
    have e : dgI f (23 + s) h (k + 1) = dsV (dgI f (23 + s) h k) (f (23 + s) k) := rfl
    have hkq : 0 ≤ (k : Int) ∧ (k : Int) < (q : Int) := by omega
    have hio := fun D Q => s_St_intOf (L := L) (d := D) (t := t) (g := g) (Q := Q) (i := (k : Int)) hs (by omega : 0 ≤ f 27 s) (by omega)
    simp only [hq, hkq, and_self, if_true, Int.toNat_natCast] at hio
    rw [← ih (k + 1) (by omega), u_St_digestPiles_24]
    simp only [u_St_digestPiles_26, u_St_digestPiles_27, u_St_digestPiles_30, u_St_digestPiles_31, u_St_digestPiles_32, u_St_digestPiles_35, u_St_digestPiles_38, u_St_digestPiles_39, u_St_digestPiles_40, u_St_digestPiles_41, u_St_digestPiles_42, u_St_digestPiles_44, u_St_digestPiles_47, u_St_digestPiles_48, u_St_digestPiles_49, u_St_digestPiles_50, u_St_digestPiles_53, h1_19, gt_19_3, h1_27, h2_27, gt_27, pt_27, ne_eq, not_false_eq_true, not_true_eq_false, true_and, and_true, true_or, or_true, eq_self, Option.toList_some, Option.toList_none, List.cons_append, List.nil_append, tc_0, tc_I, tc_L, tc_A, Nat.reduceAdd, Nat.reduceLeDiff, Nat.reduceEqDiff, Int.reduceEq, Int.reduceLT, Int.reduceLE, Int.reduceNeg, Int.reduceToNat, Int.cast_ofNat_Int, if_true, if_false, and_self, or_self, ite_self, bI_0, bI_1, bI_01, Bool.false_eq_true, reduceCtorEq, show 0 ≤ (s : Int) by omega, show (s : Int) < 4 by omega, Int.toNat_natCast, hq, show ¬ (q : Int) ≤ k by omega, hio, wk, e, ds_d]
theorem l_dgP (hS : RSt f g' TH) {o : Option TV} : ∀ (m k : Nat) (o : Option TV), k + m = 4 → VV L (d + 2) m_St_digestPiles 2 [some (tA 19), some (tL (dgP f h k)), none, some (tI k), o] [] (WW f t g) Q = Q (some (tL (dgP f h 4))) (WW f t g) := by
  intro m
  induction m with
  | zero =>
    intro k o hk
    obtain rfl : k = 4 := by omega
    rw [u_St_digestPiles_2]
    simp only [u_St_digestPiles_3, u_St_digestPiles_4, u_St_digestPiles_62, u_St_digestPiles_63, ne_eq, not_false_eq_true, not_true_eq_false, true_and, and_true, true_or, or_true, eq_self, Option.toList_some, Option.toList_none, List.cons_append, List.nil_append, tc_0, tc_I, tc_L, tc_A, Nat.reduceAdd, Nat.reduceLeDiff, Nat.reduceEqDiff, Int.reduceEq, Int.reduceLT, Int.reduceLE, Int.reduceNeg, Int.reduceToNat, Int.cast_ofNat_Int, if_true, if_false, and_self, or_self, ite_self, bI_0, bI_1, bI_01, Bool.false_eq_true, reduceCtorEq, show (4 : Int) ≤ ((4 : Nat) : Int) by omega]
  | succ m ih =>
    intro k o hk
    have wk : w32 ((k : Int) + 1) = ((k + 1 : Nat) : Int) := by rw [w32_id (by omega) (by omega)]; omega
    obtain ⟨c1, c2, c3⟩ := hS.hg k (by omega)
    obtain ⟨q, hq⟩ : ∃ q : Nat, f 27 k = (q : Int) := ⟨(f 27 k).toNat, by omega⟩
    have e : dgP f h (k + 1) = dgI f (23 + k) (dsV (dgP f h k) (q : Int)) q := by rw [dgP, hq, Int.toNat_natCast]
    have hl := l_dgPi (L := L) (d := d) (t := t) (g := g) (Q := Q) (h := dsV (dgP f h k) (q : Int)) (show k < 4 by omega) hq (by omega) q 0 (by omega)
    have hst : VV L (d + 2) m_St_digestPiles 2 [some (tA 19), some (tL (dgP f h k)), none, some (tI k), o] [] (WW f t g) Q = VV L (d + 2) m_St_digestPiles 24 [some (tA 19), some (tL (dgI f (23 + k) (dsV (dgP f h k) (q : Int)) 0)), none, some (tI k), some (tI ((0 : Nat) : Int))] [] (WW f t g) Q := by
      rw [u_St_digestPiles_2]
      simp only [u_St_digestPiles_3, u_St_digestPiles_4, u_St_digestPiles_7, u_St_digestPiles_10, u_St_digestPiles_11, u_St_digestPiles_12, u_St_digestPiles_13, u_St_digestPiles_16, u_St_digestPiles_17, u_St_digestPiles_18, u_St_digestPiles_19, u_St_digestPiles_20, u_St_digestPiles_21, u_St_digestPiles_22, h1_19, gt_19_3, h1_27, h2_27, gt_27, pt_27, ne_eq, not_false_eq_true, not_true_eq_false, true_and, and_true, true_or, or_true, eq_self, Option.toList_some, Option.toList_none, List.cons_append, List.nil_append, tc_0, tc_I, tc_L, tc_A, Nat.reduceAdd, Nat.reduceLeDiff, Nat.reduceEqDiff, Int.reduceEq, Int.reduceLT, Int.reduceLE, Int.reduceNeg, Int.reduceToNat, Int.cast_ofNat_Int, if_true, if_false, and_self, or_self, ite_self, bI_0, bI_1, bI_01, Bool.false_eq_true, reduceCtorEq, show ¬ (4 : Int) ≤ k by omega, show 0 ≤ (k : Int) by omega, show (k : Int) < 4 by omega, Int.toNat_natCast, hq, ds_d]
      rfl
    rw [hst, hl]
    simp only [u_St_digestPiles_56, u_St_digestPiles_59, ne_eq, not_false_eq_true, not_true_eq_false, true_and, and_true, true_or, or_true, eq_self, Option.toList_some, Option.toList_none, List.cons_append, List.nil_append, tc_0, tc_I, tc_L, tc_A, Nat.reduceAdd, Nat.reduceLeDiff, Nat.reduceEqDiff, Int.reduceEq, Int.reduceLT, Int.reduceLE, Int.reduceNeg, Int.reduceToNat, Int.cast_ofNat_Int, if_true, if_false, and_self, or_self, ite_self, bI_0, bI_1, bI_01, Bool.false_eq_true, reduceCtorEq, wk]
    rw [← e]
    exact ih (k + 1) _ (by omega)
theorem l_dgF {q : Nat} (hq : f 151 5 = (q : Int)) (h12 : q ≤ 12) : ∀ (m k : Nat), k + m = q → VV L d m_Ru_digestOn 63 [some (tA 151), some (tL (dgF f h k)), none, some (tI k)] [] (WW f t g) Q = Q (some (tL (dgF f h q))) (WW f t g) := by
  intro m
  induction m with
  | zero =>
    intro k hk
    obtain rfl : k = q := by omega
    rw [u_Ru_digestOn_63]
    simp only [u_Ru_digestOn_64, u_Ru_digestOn_65, u_Ru_digestOn_68, u_Ru_digestOn_103, u_Ru_digestOn_104, h1_151, gt_151_5, ne_eq, not_false_eq_true, not_true_eq_false, true_and, and_true, true_or, or_true, eq_self, Option.toList_some, Option.toList_none, List.cons_append, List.nil_append, tc_0, tc_I, tc_L, tc_A, Nat.reduceAdd, Nat.reduceLeDiff, Nat.reduceEqDiff, Int.reduceEq, Int.reduceLT, Int.reduceLE, Int.reduceNeg, Int.reduceToNat, Int.cast_ofNat_Int, if_true, if_false, and_self, or_self, ite_self, bI_0, bI_1, bI_01, Bool.false_eq_true, reduceCtorEq, hq, show (k : Int) ≤ k by omega]
  | succ m ih =>
    intro k hk
    have wk : w32 ((k : Int) + 1) = ((k + 1 : Nat) : Int) := by rw [w32_id (by omega) (by omega)]; omega
    have e : dgF f h (k + 1) = dsV (dsV (dgF f h k) (f 153 k)) (f 154 k) := rfl
    rw [← ih (k + 1) (by omega), u_Ru_digestOn_63]
    simp only [u_Ru_digestOn_64, u_Ru_digestOn_65, u_Ru_digestOn_68, u_Ru_digestOn_71, u_Ru_digestOn_74, u_Ru_digestOn_75, u_Ru_digestOn_76, u_Ru_digestOn_77, u_Ru_digestOn_80, u_Ru_digestOn_81, u_Ru_digestOn_82, u_Ru_digestOn_83, u_Ru_digestOn_84, u_Ru_digestOn_87, u_Ru_digestOn_88, u_Ru_digestOn_89, u_Ru_digestOn_92, u_Ru_digestOn_93, u_Ru_digestOn_94, u_Ru_digestOn_95, u_Ru_digestOn_96, u_Ru_digestOn_97, u_Ru_digestOn_100, h1_151, gt_151_3, gt_151_4, gt_151_5, h1_153, h2_153, gt_153, pt_153, h1_154, h2_154, gt_154, pt_154, ne_eq, not_false_eq_true, not_true_eq_false, true_and, and_true, true_or, or_true, eq_self, Option.toList_some, Option.toList_none, List.cons_append, List.nil_append, tc_0, tc_I, tc_L, tc_A, Nat.reduceAdd, Nat.reduceLeDiff, Nat.reduceEqDiff, Int.reduceEq, Int.reduceLT, Int.reduceLE, Int.reduceNeg, Int.reduceToNat, Int.cast_ofNat_Int, if_true, if_false, and_self, or_self, ite_self, bI_0, bI_1, bI_01, Bool.false_eq_true, reduceCtorEq, hq, show ¬ (q : Int) ≤ k by omega, show 0 ≤ (k : Int) by omega, show (k : Int) < 12 by omega, Int.toNat_natCast, wk, e, ds_m, ds_d]
/-- what digest comes to -/
def dgS (f : Mem) : Int := dgP f (dgR f (dgN f 1 26) 6) 4
def dgA (f : Mem) : Int := if f 151 11 = 0 then dsV (dgS f) 7 else dgF f (dsV (dsV (dsV (dsV (dgS f) (f 151 6)) (f 151 7)) (f 151 8)) (f 151 5)) (f 151 5).toNat
theorem s_T_digest (hR : RelX X TH f t g) : VV L (d + 200) m_T_digest 0 [some (tA 1)] [] (WW f t g) Q = Q (some (tL (dgA f))) (WW f t g) := by
  have h1 : ∀ D Q, VV L D m_St_digestNames 0 [some (tA 19), some (tL 1), none, none] [] (WW f t g) Q = Q (some (tL (dgN f 1 26))) (WW f t g) := fun D Q => by
    have := l_dgN (L := L) (d := D) (f := f) (t := t) (g := g) (Q := Q) (h := 1) 26 0 rfl
    simp only [u_St_digestNames_0, u_St_digestNames_1, ne_eq, not_false_eq_true, not_true_eq_false, true_and, and_true, true_or, or_true, eq_self, Option.toList_some, Option.toList_none, List.cons_append, List.nil_append, tc_0, tc_I, tc_L, tc_A, Nat.reduceAdd, Nat.reduceLeDiff, Nat.reduceEqDiff, Int.reduceEq, Int.reduceLT, Int.reduceLE, Int.reduceNeg, Int.reduceToNat, Int.cast_ofNat_Int, if_true, if_false, and_self, or_self, ite_self, bI_0, bI_1, bI_01, Bool.false_eq_true, reduceCtorEq]
    exact this
  have h2 : ∀ D h Q, VV L (D + 2) m_Sf_digestRows 0 [some (tA 28), some (tL h), none, none] [] (WW f t g) Q = Q (some (tL (dgR f h 6))) (WW f t g) := fun D h Q => by
    have := l_dgR (L := L) (d := D) (t := t) (g := g) (Q := Q) (h := h) hR.st 6 0 rfl
    simp only [u_Sf_digestRows_0, u_Sf_digestRows_1, ne_eq, not_false_eq_true, not_true_eq_false, true_and, and_true, true_or, or_true, eq_self, Option.toList_some, Option.toList_none, List.cons_append, List.nil_append, tc_0, tc_I, tc_L, tc_A, Nat.reduceAdd, Nat.reduceLeDiff, Nat.reduceEqDiff, Int.reduceEq, Int.reduceLT, Int.reduceLE, Int.reduceNeg, Int.reduceToNat, Int.cast_ofNat_Int, if_true, if_false, and_self, or_self, ite_self, bI_0, bI_1, bI_01, Bool.false_eq_true, reduceCtorEq]
    exact this
  have h3 : ∀ D h Q, VV L (D + 2) m_St_digestPiles 0 [some (tA 19), some (tL h), none, none, none] [] (WW f t g) Q = Q (some (tL (dgP f h 4))) (WW f t g) := fun D h Q => by
    have := l_dgP (L := L) (d := D) (t := t) (g := g) (Q := Q) (h := h) (o := none) hR.st 4 0 none rfl
    simp only [u_St_digestPiles_0, u_St_digestPiles_1, ne_eq, not_false_eq_true, not_true_eq_false, true_and, and_true, true_or, or_true, eq_self, Option.toList_some, Option.toList_none, List.cons_append, List.nil_append, tc_0, tc_I, tc_L, tc_A, Nat.reduceAdd, Nat.reduceLeDiff, Nat.reduceEqDiff, Int.reduceEq, Int.reduceLT, Int.reduceLE, Int.reduceNeg, Int.reduceToNat, Int.cast_ofNat_Int, if_true, if_false, and_self, or_self, ite_self, bI_0, bI_1, bI_01, Bool.false_eq_true, reduceCtorEq]
    exact this
  have h4 : ∀ D Q, VV L (D + 3) m_T_stateDigest 0 [some (tA 1)] [] (WW f t g) Q = Q (some (tL (dgS f))) (WW f t g) := fun D Q => by
    simp only [u_T_stateDigest_0, u_T_stateDigest_1, u_T_stateDigest_4, u_T_stateDigest_5, u_T_stateDigest_8, u_T_stateDigest_9, u_T_stateDigest_12, u_T_stateDigest_13, u_T_stateDigest_16, u_T_stateDigest_19, u_T_stateDigest_22, h1_1, gt_1_7, gt_1_8, h1_19, h1_28, ne_eq, not_false_eq_true, not_true_eq_false, true_and, and_true, true_or, or_true, eq_self, Option.toList_some, Option.toList_none, List.cons_append, List.nil_append, tc_0, tc_I, tc_L, tc_A, Nat.reduceAdd, Nat.reduceLeDiff, Nat.reduceEqDiff, Int.reduceEq, Int.reduceLT, Int.reduceLE, Int.reduceNeg, Int.reduceToNat, Int.cast_ofNat_Int, if_true, if_false, and_self, or_self, ite_self, bI_0, bI_1, bI_01, Bool.false_eq_true, reduceCtorEq, h1, h2, h3]
    rfl
  have h5 : ∀ D h Q, VV L D m_Ru_digestOn 0 [some (tA 151), some (tL h), none, none] [] (WW f t g) Q = Q (some (tL (if f 151 11 = 0 then dsV h 7 else dgF f (dsV (dsV (dsV (dsV h (f 151 6)) (f 151 7)) (f 151 8)) (f 151 5)) (f 151 5).toNat))) (WW f t g) := fun D h Q => by
    rcases hR.rn.tb with h0 | h1
    · rw [if_pos h0]
      simp only [u_Ru_digestOn_0, u_Ru_digestOn_1, u_Ru_digestOn_4, u_Ru_digestOn_7, u_Ru_digestOn_10, u_Ru_digestOn_11, u_Ru_digestOn_12, u_Ru_digestOn_15, u_Ru_digestOn_16, h1_151, gt_151_11, ne_eq, not_false_eq_true, not_true_eq_false, true_and, and_true, true_or, or_true, eq_self, Option.toList_some, Option.toList_none, List.cons_append, List.nil_append, tc_0, tc_I, tc_L, tc_A, Nat.reduceAdd, Nat.reduceLeDiff, Nat.reduceEqDiff, Int.reduceEq, Int.reduceLT, Int.reduceLE, Int.reduceNeg, Int.reduceToNat, Int.cast_ofNat_Int, if_true, if_false, and_self, or_self, ite_self, bI_0, bI_1, bI_01, Bool.false_eq_true, reduceCtorEq, h0, ds_d]
    · rw [if_neg (by omega)]
      have hg := (hR.rn.go h1).1.hg
      obtain ⟨q, hq⟩ : ∃ q : Nat, f 151 5 = (q : Int) := ⟨(f 151 5).toNat, by omega⟩
      have := l_dgF (L := L) (d := D) (t := t) (g := g) (Q := Q) (h := dsV (dsV (dsV (dsV h (f 151 6)) (f 151 7)) (f 151 8)) (q : Int)) hq (by omega) q 0 (by omega)
      rw [hq, Int.toNat_natCast, ← this]
      simp only [u_Ru_digestOn_0, u_Ru_digestOn_1, u_Ru_digestOn_4, u_Ru_digestOn_7, u_Ru_digestOn_10, u_Ru_digestOn_11, u_Ru_digestOn_12, u_Ru_digestOn_15, u_Ru_digestOn_16, u_Ru_digestOn_17, u_Ru_digestOn_20, u_Ru_digestOn_21, u_Ru_digestOn_22, u_Ru_digestOn_23, u_Ru_digestOn_26, u_Ru_digestOn_27, u_Ru_digestOn_28, u_Ru_digestOn_31, u_Ru_digestOn_32, u_Ru_digestOn_33, u_Ru_digestOn_36, u_Ru_digestOn_37, u_Ru_digestOn_38, u_Ru_digestOn_39, u_Ru_digestOn_42, u_Ru_digestOn_43, u_Ru_digestOn_44, u_Ru_digestOn_45, u_Ru_digestOn_48, u_Ru_digestOn_49, u_Ru_digestOn_50, u_Ru_digestOn_53, u_Ru_digestOn_54, u_Ru_digestOn_55, u_Ru_digestOn_58, u_Ru_digestOn_59, u_Ru_digestOn_60, u_Ru_digestOn_61, u_Ru_digestOn_62, h1_151, gt_151_5, gt_151_6, gt_151_7, gt_151_8, gt_151_11, ne_eq, not_false_eq_true, not_true_eq_false, true_and, and_true, true_or, or_true, eq_self, Option.toList_some, Option.toList_none, List.cons_append, List.nil_append, tc_0, tc_I, tc_L, tc_A, Nat.reduceAdd, Nat.reduceLeDiff, Nat.reduceEqDiff, Int.reduceEq, Int.reduceLT, Int.reduceLE, Int.reduceNeg, Int.reduceToNat, Int.cast_ofNat_Int, if_true, if_false, and_self, or_self, ite_self, bI_0, bI_1, bI_01, Bool.false_eq_true, reduceCtorEq, h1, hq, ds_d, ds_m]
      rfl
  simp only [u_T_digest_0, u_T_digest_1, u_T_digest_4, u_T_digest_5, u_T_digest_8, u_T_digest_11, h1_1, gt_1_9, h1_151, ne_eq, not_false_eq_true, not_true_eq_false, true_and, and_true, true_or, or_true, eq_self, Option.toList_some, Option.toList_none, List.cons_append, List.nil_append, tc_0, tc_I, tc_L, tc_A, Nat.reduceAdd, Nat.reduceLeDiff, Nat.reduceEqDiff, Int.reduceEq, Int.reduceLT, Int.reduceLE, Int.reduceNeg, Int.reduceToNat, Int.cast_ofNat_Int, if_true, if_false, and_self, or_self, ite_self, bI_0, bI_1, bI_01, Bool.false_eq_true, reduceCtorEq, h4, h5]
  rfl
theorem s_M_digests {F : Mem} {v : Int} : VV L d m_M_digests 0 [some (tA 156), some (tL v), none] [] (WW F t (mset g 156 63 h)) Q = Q none (WW F t (mset g 156 63 (dsV h v))) := by
  have e : (mset g 156 63 h) 156 63 = h := by rw [rd, if_pos (by simp)]
  simp only [u_M_digests_0, u_M_digests_1, u_M_digests_4, u_M_digests_5, u_M_digests_8, u_M_digests_9, u_M_digests_10, u_M_digests_11, u_M_digests_14, h1_156, gt_156_63, pt_156_63, ne_eq, not_false_eq_true, not_true_eq_false, true_and, and_true, true_or, or_true, eq_self, Option.toList_some, Option.toList_none, List.cons_append, List.nil_append, tc_0, tc_I, tc_L, tc_A, Nat.reduceAdd, Nat.reduceLeDiff, Nat.reduceEqDiff, Int.reduceEq, Int.reduceLT, Int.reduceLE, Int.reduceNeg, Int.reduceToNat, Int.cast_ofNat_Int, if_true, if_false, and_self, or_self, ite_self, bI_0, bI_1, bI_01, Bool.false_eq_true, reduceCtorEq, e, mset_mset, ds_d]
theorem gh_o {b j : Nat} (hh : ¬ (b = 156 ∧ j = 63)) : (mset g 156 63 h) b j = g b j := by rw [rd, if_neg hh]
theorem l_mdN (hS : RSt f g TH) {F : Mem} {o2 o3 : Option TV} : ∀ (m k : Nat), k + m = 26 → VV L (d + 1) m_M_digest 7 [some (tA 156), some (tI k), o2, o3] [] (WW F t (mset g 156 63 (dgN f h k))) Q = VV L (d + 1) m_M_digest 55 [some (tA 156), some (tI 26), o2, o3] [] (WW F t (mset g 156 63 (dgN f h 26))) Q := by
  intro m
  induction m with
  | zero =>
    intro k hk
    obtain rfl : k = 26 := by omega
    rw [u_M_digest_7]
    simp only [u_M_digest_8, u_M_digest_10, ne_eq, not_false_eq_true, not_true_eq_false, true_and, and_true, true_or, or_true, eq_self, Option.toList_some, Option.toList_none, List.cons_append, List.nil_append, tc_0, tc_I, tc_L, tc_A, Nat.reduceAdd, Nat.reduceLeDiff, Nat.reduceEqDiff, Int.reduceEq, Int.reduceLT, Int.reduceLE, Int.reduceNeg, Int.reduceToNat, Int.cast_ofNat_Int, if_true, if_false, and_self, or_self, ite_self, bI_0, bI_1, bI_01, Bool.false_eq_true, reduceCtorEq, show (26 : Int) ≤ ((26 : Nat) : Int) by omega]
  | succ m ih =>
    intro k hk
    have wk : w32 ((k : Int) + 1) = ((k + 1 : Nat) : Int) := by rw [w32_id (by omega) (by omega)]; omega
    have hb := bit_M hS (k := (k : Int)) (by omega)
    have e35 : ∀ h, (mset g 156 63 h) 156 35 = g 156 35 := fun h => gh_o (by omega)
    rw [← ih (k + 1) (by omega), u_M_digest_7]
    rcases hS.nm k (by omega) with q | q
    · have ht : thr f (k : Int) = false := by unfold thr; rw [Int.toNat_natCast, q.1]; simp
      rw [ht, bB_f] at hb
      have e : dgN f h (k + 1) = dsV (dgN f h k) 0 := by rw [dgN, if_pos q.1]
      simp only [u_M_digest_8, u_M_digest_10, u_M_digest_13, u_M_digest_14, u_M_digest_15, u_M_digest_18, u_M_digest_19, u_M_digest_20, u_M_digest_21, u_M_digest_22, u_M_digest_23, u_M_digest_26, u_M_digest_27, u_M_digest_30, u_M_digest_31, u_M_digest_32, u_M_digest_33, u_M_digest_34, u_M_digest_35, u_M_digest_38, u_M_digest_39, u_M_digest_40, u_M_digest_43, u_M_digest_44, u_M_digest_45, u_M_digest_46, u_M_digest_49, u_M_digest_52, h1_156, gt_156_35, ne_eq, not_false_eq_true, not_true_eq_false, true_and, and_true, true_or, or_true, eq_self, Option.toList_some, Option.toList_none, List.cons_append, List.nil_append, tc_0, tc_I, tc_L, tc_A, Nat.reduceAdd, Nat.reduceLeDiff, Nat.reduceEqDiff, Int.reduceEq, Int.reduceLT, Int.reduceLE, Int.reduceNeg, Int.reduceToNat, Int.cast_ofNat_Int, if_true, if_false, and_self, or_self, ite_self, bI_0, bI_1, bI_01, Bool.false_eq_true, reduceCtorEq, show ¬ (26 : Int) ≤ k by omega, e35, hb, s_M_digests, wk, e]
    · have ht : thr f (k : Int) = true := by unfold thr; rw [Int.toNat_natCast, q.1]; simp; omega
      rw [ht, bB_t] at hb
      have e174 : ∀ h, (mset g 156 63 h) 174 k = f 21 k := fun h => by rw [gh_o (by omega)]; exact q.2.2.symm
      have e : dgN f h (k + 1) = dsV (dsV (dgN f h k) 1) (f 21 k) := by rw [dgN, if_neg (by omega)]
      simp only [u_M_digest_8, u_M_digest_10, u_M_digest_13, u_M_digest_14, u_M_digest_15, u_M_digest_18, u_M_digest_19, u_M_digest_20, u_M_digest_21, u_M_digest_22, u_M_digest_23, u_M_digest_26, u_M_digest_27, u_M_digest_30, u_M_digest_31, u_M_digest_32, u_M_digest_33, u_M_digest_34, u_M_digest_35, u_M_digest_38, u_M_digest_39, u_M_digest_40, u_M_digest_43, u_M_digest_44, u_M_digest_45, u_M_digest_46, u_M_digest_49, u_M_digest_52, h1_156, gt_156_35, gt_156_36, h1_174, h2_174, gt_174, pt_174, ne_eq, not_false_eq_true, not_true_eq_false, true_and, and_true, true_or, or_true, eq_self, Option.toList_some, Option.toList_none, List.cons_append, List.nil_append, tc_0, tc_I, tc_L, tc_A, Nat.reduceAdd, Nat.reduceLeDiff, Nat.reduceEqDiff, Int.reduceEq, Int.reduceLT, Int.reduceLE, Int.reduceNeg, Int.reduceToNat, Int.cast_ofNat_Int, if_true, if_false, and_self, or_self, ite_self, bI_0, bI_1, bI_01, Bool.false_eq_true, reduceCtorEq, show ¬ (26 : Int) ≤ k by omega, e35, hb, s_M_digests, show 0 ≤ (k : Int) by omega, show (k : Int) < 26 by omega, Int.toNat_natCast, e174, wk, e]
theorem l_mdI {F : Mem} {A a q kk : Nat} (ha : a < 15) (hq : g 177 a = (q : Int)) (h12 : q ≤ 12) (hv : ∀ i, i < q → f A i = g 178 (12 * a + i)) : ∀ (m k : Nat), k + m = q → VV L (d + 1) m_M_digest 111 [some (tA 156), some (tI kk), some (tI a), some (tI k)] [] (WW F t (mset g 156 63 (dgI f A h k))) Q = VV L (d + 1) m_M_digest 142 [some (tA 156), some (tI kk), some (tI a), some (tI q)] [] (WW F t (mset g 156 63 (dgI f A h q))) Q := by
  have a0 : (0 : Int) ≤ a := by omega
  have a16 : (a : Int) < 16 := by omega
  have e177 : ∀ h, (mset g 156 63 h) 177 a = (q : Int) := fun h => by rw [gh_o (by omega)]; exact hq
  intro m
  induction m with
  | zero =>
    intro k hk
    obtain rfl : k = q := by omega
    rw [u_M_digest_111]
    simp only [u_M_digest_112, u_M_digest_113, u_M_digest_116, u_M_digest_117, u_M_digest_118, h1_156, gt_156_40, h1_177, h2_177, gt_177, pt_177, ne_eq, not_false_eq_true, not_true_eq_false, true_and, and_true, true_or, or_true, eq_self, Option.toList_some, Option.toList_none, List.cons_append, List.nil_append, tc_0, tc_I, tc_L, tc_A, Nat.reduceAdd, Nat.reduceLeDiff, Nat.reduceEqDiff, Int.reduceEq, Int.reduceLT, Int.reduceLE, Int.reduceNeg, Int.reduceToNat, Int.cast_ofNat_Int, if_true, if_false, and_self, or_self, ite_self, bI_0, bI_1, bI_01, Bool.false_eq_true, reduceCtorEq, a0, a16, Int.toNat_natCast, e177, show (k : Int) ≤ k by omega]
  | succ m ih =>
    intro k hk
    obtain ⟨wk, w1, w2, k1, k2, k3⟩ : w32 ((k : Int) + 1) = ((k + 1 : Nat) : Int) ∧ w32 (12 * (a : Int)) = 12 * a ∧ w32 (12 * (a : Int) + k) = ((12 * a + k : Nat) : Int) ∧ ¬ (q : Int) ≤ k ∧ (0 : Int) ≤ ((12 * a + k : Nat) : Int) ∧ ((12 * a + k : Nat) : Int) < 192 := by
      refine ⟨?_, ?_, ?_, by omega, by omega, by omega⟩ <;> rw [w32_id (by omega) (by omega)] <;> omega
    have e178 : ∀ h, (mset g 156 63 h) 178 (12 * a + k) = f A k := fun h => by rw [gh_o (by omega)]; exact (hv k (by omega)).symm
    have e : dgI f A h (k + 1) = dsV (dgI f A h k) (f A k) := rfl
    rw [← ih (k + 1) (by omega), u_M_digest_111]
    simp only [u_M_digest_112, u_M_digest_113, u_M_digest_116, u_M_digest_117, u_M_digest_118, u_M_digest_121, u_M_digest_122, u_M_digest_123, u_M_digest_126, u_M_digest_128, u_M_digest_129, u_M_digest_130, u_M_digest_131, u_M_digest_132, u_M_digest_133, u_M_digest_136, u_M_digest_139, h1_156, gt_156_40, gt_156_41, h1_177, h2_177, gt_177, pt_177, h1_178, h2_178, gt_178, pt_178, ne_eq, not_false_eq_true, not_true_eq_false, true_and, and_true, true_or, or_true, eq_self, Option.toList_some, Option.toList_none, List.cons_append, List.nil_append, tc_0, tc_I, tc_L, tc_A, Nat.reduceAdd, Nat.reduceLeDiff, Nat.reduceEqDiff, Int.reduceEq, Int.reduceLT, Int.reduceLE, Int.reduceNeg, Int.reduceToNat, Int.cast_ofNat_Int, if_true, if_false, and_self, or_self, ite_self, bI_0, bI_1, bI_01, Bool.false_eq_true, reduceCtorEq, a0, a16, Int.toNat_natCast, e177, k1, w1, w2, k2, k3, e178, s_M_digests, wk, e]
theorem l_mdR (hS : RSt f g TH) {F : Mem} : ∀ (m k : Nat) (o2 o3 : Option TV), k + m = 6 → (∀ o2 o3, VV L (d + 1) m_M_digest 148 [some (tA 156), some (tI 6), o2, o3] [] (WW F t (mset g 156 63 (dgR f h 6))) Q) → VV L (d + 1) m_M_digest 57 [some (tA 156), some (tI k), o2, o3] [] (WW F t (mset g 156 63 (dgR f h k))) Q := by
  intro m
  induction m with
  | zero =>
    intro k o2 o3 hk hQ
    obtain rfl : k = 6 := by omega
    rw [u_M_digest_57]
    simp only [u_M_digest_58, u_M_digest_60, ne_eq, not_false_eq_true, not_true_eq_false, true_and, and_true, true_or, or_true, eq_self, Option.toList_some, Option.toList_none, List.cons_append, List.nil_append, tc_0, tc_I, tc_L, tc_A, Nat.reduceAdd, Nat.reduceLeDiff, Nat.reduceEqDiff, Int.reduceEq, Int.reduceLT, Int.reduceLE, Int.reduceNeg, Int.reduceToNat, Int.cast_ofNat_Int, if_true, if_false, and_self, or_self, ite_self, bI_0, bI_1, bI_01, Bool.false_eq_true, reduceCtorEq, show (6 : Int) ≤ ((6 : Nat) : Int) by omega]
    exact hQ o2 o3
  | succ m ih =>
    intro k o2 o3 hk hQ
    have wk : w32 ((k : Int) + 1) = ((k + 1 : Nat) : Int) := by rw [w32_id (by omega) (by omega)]; omega
    have hrw := hS.rw k (by omega)
    rw [hC_r (show k < 6 by omega)] at hrw
    have e175 : ∀ h, (mset g 156 63 h) 175 k = g 175 k := fun h => gh_o (by omega)
    rw [u_M_digest_57]
    rcases hrw with ⟨q1, q2⟩ | ⟨q1, q2, q3, q4, q5, q6, q7, q8⟩
    · have e : dgR f h (k + 1) = dsV (dgR f h k) 0 := by rw [dgR, if_pos q1]
      simp only [u_M_digest_58, u_M_digest_60, u_M_digest_63, u_M_digest_64, u_M_digest_67, u_M_digest_68, u_M_digest_69, u_M_digest_70, u_M_digest_71, u_M_digest_72, u_M_digest_75, u_M_digest_76, u_M_digest_79, u_M_digest_80, u_M_digest_83, u_M_digest_84, u_M_digest_142, u_M_digest_145, h1_156, gt_156_37, h1_175, h2_175, gt_175, pt_175, ne_eq, not_false_eq_true, not_true_eq_false, true_and, and_true, true_or, or_true, eq_self, Option.toList_some, Option.toList_none, List.cons_append, List.nil_append, tc_0, tc_I, tc_L, tc_A, Nat.reduceAdd, Nat.reduceLeDiff, Nat.reduceEqDiff, Int.reduceEq, Int.reduceLT, Int.reduceLE, Int.reduceNeg, Int.reduceToNat, Int.cast_ofNat_Int, if_true, if_false, and_self, or_self, ite_self, bI_0, bI_1, bI_01, Bool.false_eq_true, reduceCtorEq, show ¬ (6 : Int) ≤ k by omega, show 0 ≤ (k : Int) by omega, show (k : Int) < 14 by omega, Int.toNat_natCast, e175, q2, s_M_digests, wk]
      rw [← e]
      exact ih (k + 1) _ _ (by omega) hQ
    · obtain ⟨n, hn⟩ : ∃ n : Nat, f 29 k = (n : Int) := ⟨(f 29 k).toNat, by omega⟩
      obtain ⟨a, ha⟩ : ∃ a : Nat, g 175 k = (a : Int) := ⟨(g 175 k).toNat, by omega⟩
      rw [hn, ha, Int.toNat_natCast, Int.toNat_natCast] at q5 q6 q8
      have cM := hS.cM a (by omega)
      obtain ⟨q, hq⟩ : ∃ q : Nat, g 177 a = (q : Int) := ⟨(g 177 a).toNat, by omega⟩
      have hq32 : f 32 n = (q : Int) := q6.trans hq
      have e : dgR f h (k + 1) = dgI f (34 + n) (dsV (dsV (dsV (dgR f h k) 1) (g 176 a)) (q : Int)) q := by rw [dgR, if_neg (by omega), hn, Int.toNat_natCast, hq32, q5, Int.toNat_natCast]
      have hl := l_mdI (L := L) (d := d) (t := t) (g := g) (f := f) (Q := Q) (h := dsV (dsV (dsV (dgR f h k) 1) (g 176 a)) (q : Int)) (F := F) (A := 34 + n) (kk := k) (show a < 15 by omega) hq (by omega) (fun i hi => q8 i (by omega)) q 0 (by omega)
      have hst : VV L (d + 1) m_M_digest 58 [some (tA 156), some (tI k), o2, o3] [tI k] (WW F t (mset g 156 63 (dgR f h k))) Q = VV L (d + 1) m_M_digest 111 [some (tA 156), some (tI k), some (tI a), some (tI ((0 : Nat) : Int))] [] (WW F t (mset g 156 63 (dgI f (34 + n) (dsV (dsV (dsV (dgR f h k) 1) (g 176 a)) (q : Int)) 0))) Q := by
        have e176 : ∀ h, (mset g 156 63 h) 176 a = g 176 a := fun h => gh_o (by omega)
        have e177 : ∀ h, (mset g 156 63 h) 177 a = (q : Int) := fun h => by rw [gh_o (by omega)]; exact hq
        simp only [u_M_digest_58, u_M_digest_60, u_M_digest_63, u_M_digest_64, u_M_digest_67, u_M_digest_68, u_M_digest_69, u_M_digest_70, u_M_digest_71, u_M_digest_72, u_M_digest_75, u_M_digest_76, u_M_digest_79, u_M_digest_80, u_M_digest_83, u_M_digest_84, u_M_digest_87, u_M_digest_88, u_M_digest_89, u_M_digest_92, u_M_digest_93, u_M_digest_94, u_M_digest_95, u_M_digest_98, u_M_digest_99, u_M_digest_100, u_M_digest_103, u_M_digest_104, u_M_digest_105, u_M_digest_106, u_M_digest_109, u_M_digest_110, h1_156, gt_156_37, gt_156_39, gt_156_40, h1_175, h2_175, gt_175, pt_175, h1_176, h2_176, gt_176, pt_176, h1_177, h2_177, gt_177, pt_177, ne_eq, not_false_eq_true, not_true_eq_false, true_and, and_true, true_or, or_true, eq_self, Option.toList_some, Option.toList_none, List.cons_append, List.nil_append, tc_0, tc_I, tc_L, tc_A, Nat.reduceAdd, Nat.reduceLeDiff, Nat.reduceEqDiff, Int.reduceEq, Int.reduceLT, Int.reduceLE, Int.reduceNeg, Int.reduceToNat, Int.cast_ofNat_Int, if_true, if_false, and_self, or_self, ite_self, bI_0, bI_1, bI_01, Bool.false_eq_true, reduceCtorEq, show ¬ (6 : Int) ≤ k by omega, show 0 ≤ (k : Int) by omega, show (k : Int) < 14 by omega, Int.toNat_natCast, e175, ha, show ¬ (a : Int) < 0 by omega, show (0 : Int) ≤ a by omega, show (a : Int) < 16 by omega, e176, e177, s_M_digests]
        rfl
      rw [hst, hl, ← e]
      simp only [u_M_digest_142, u_M_digest_145, ne_eq, not_false_eq_true, not_true_eq_false, true_and, and_true, true_or, or_true, eq_self, Option.toList_some, Option.toList_none, List.cons_append, List.nil_append, tc_0, tc_I, tc_L, tc_A, Nat.reduceAdd, Nat.reduceLeDiff, Nat.reduceEqDiff, Int.reduceEq, Int.reduceLT, Int.reduceLE, Int.reduceNeg, Int.reduceToNat, Int.cast_ofNat_Int, if_true, if_false, and_self, or_self, ite_self, bI_0, bI_1, bI_01, Bool.false_eq_true, reduceCtorEq, wk]
      exact ih (k + 1) _ _ (by omega) hQ
theorem l_mdPi {F : Mem} {s q : Nat} {o3 : Option TV} (hs : s < 4) (hq : g 179 s = (q : Int)) (h30 : q ≤ 30) (hv : ∀ i, i < q → f (23 + s) i = g 180 (30 * s + i)) : ∀ (m k : Nat), k + m = q → VV L (d + 1) m_M_digest 168 [some (tA 156), some (tI s), some (tI k), o3] [] (WW F t (mset g 156 63 (dgI f (23 + s) h k))) Q = VV L (d + 1) m_M_digest 200 [some (tA 156), some (tI s), some (tI q), o3] [] (WW F t (mset g 156 63 (dgI f (23 + s) h q))) Q := by
  have a0 : (0 : Int) ≤ s := by omega
  have a4 : (s : Int) < 4 := by omega
  have e179 : ∀ h, (mset g 156 63 h) 179 s = (q : Int) := fun h => by rw [gh_o (by omega)]; exact hq
  intro m
  induction m with
  | zero =>
    intro k hk
    obtain rfl : k = q := by omega
    rw [u_M_digest_168]
    simp only [u_M_digest_169, u_M_digest_170, u_M_digest_173, u_M_digest_174, u_M_digest_175, h1_156, gt_156_42, h1_179, h2_179, gt_179, pt_179, ne_eq, not_false_eq_true, not_true_eq_false, true_and, and_true, true_or, or_true, eq_self, Option.toList_some, Option.toList_none, List.cons_append, List.nil_append, tc_0, tc_I, tc_L, tc_A, Nat.reduceAdd, Nat.reduceLeDiff, Nat.reduceEqDiff, Int.reduceEq, Int.reduceLT, Int.reduceLE, Int.reduceNeg, Int.reduceToNat, Int.cast_ofNat_Int, if_true, if_false, and_self, or_self, ite_self, bI_0, bI_1, bI_01, Bool.false_eq_true, reduceCtorEq, a0, a4, Int.toNat_natCast, e179, show (k : Int) ≤ k by omega]
  | succ m ih =>
    intro k hk
    obtain ⟨wk, w1, w2, k1, k2, k3⟩ : w32 ((k : Int) + 1) = ((k + 1 : Nat) : Int) ∧ w32 (30 * (s : Int)) = 30 * s ∧ w32 (30 * (s : Int) + k) = ((30 * s + k : Nat) : Int) ∧ ¬ (q : Int) ≤ k ∧ (0 : Int) ≤ ((30 * s + k : Nat) : Int) ∧ ((30 * s + k : Nat) : Int) < 120 := by
      refine ⟨?_, ?_, ?_, by omega, by omega, by omega⟩ <;> rw [w32_id (by omega) (by omega)] <;> omega
    have e180 : ∀ h, (mset g 156 63 h) 180 (30 * s + k) = f (23 + s) k := fun h => by rw [gh_o (by omega)]; exact (hv k (by omega)).symm
    have e : dgI f (23 + s) h (k + 1) = dsV (dgI f (23 + s) h k) (f (23 + s) k) := rfl
    rw [← ih (k + 1) (by omega), u_M_digest_168]
    simp only [u_M_digest_169, u_M_digest_170, u_M_digest_173, u_M_digest_174, u_M_digest_175, u_M_digest_178, u_M_digest_179, u_M_digest_180, u_M_digest_183, u_M_digest_185, u_M_digest_186, u_M_digest_187, u_M_digest_188, u_M_digest_189, u_M_digest_190, u_M_digest_191, u_M_digest_194, u_M_digest_197, h1_156, gt_156_42, gt_156_43, h1_179, h2_179, gt_179, pt_179, h1_180, h2_180, gt_180, pt_180, ne_eq, not_false_eq_true, not_true_eq_false, true_and, and_true, true_or, or_true, eq_self, Option.toList_some, Option.toList_none, List.cons_append, List.nil_append, tc_0, tc_I, tc_L, tc_A, Nat.reduceAdd, Nat.reduceLeDiff, Nat.reduceEqDiff, Int.reduceEq, Int.reduceLT, Int.reduceLE, Int.reduceNeg, Int.reduceToNat, Int.cast_ofNat_Int, if_true, if_false, and_self, or_self, ite_self, bI_0, bI_1, bI_01, Bool.false_eq_true, reduceCtorEq, a0, a4, Int.toNat_natCast, e179, k1, w1, w2, k2, k3, e180, s_M_digests, wk, e]
theorem l_mdP (hS : RSt f g TH) {F : Mem} : ∀ (m k : Nat) (o2 o3 : Option TV), k + m = 4 → (∀ o2 o3, VV L (d + 1) m_M_digest 206 [some (tA 156), some (tI 4), o2, o3] [] (WW F t (mset g 156 63 (dgP f h 4))) Q) → VV L (d + 1) m_M_digest 150 [some (tA 156), some (tI k), o2, o3] [] (WW F t (mset g 156 63 (dgP f h k))) Q := by
  intro m
  induction m with
  | zero =>
    intro k o2 o3 hk hQ
    obtain rfl : k = 4 := by omega
    rw [u_M_digest_150]
    simp only [u_M_digest_151, u_M_digest_152, ne_eq, not_false_eq_true, not_true_eq_false, true_and, and_true, true_or, or_true, eq_self, Option.toList_some, Option.toList_none, List.cons_append, List.nil_append, tc_0, tc_I, tc_L, tc_A, Nat.reduceAdd, Nat.reduceLeDiff, Nat.reduceEqDiff, Int.reduceEq, Int.reduceLT, Int.reduceLE, Int.reduceNeg, Int.reduceToNat, Int.cast_ofNat_Int, if_true, if_false, and_self, or_self, ite_self, bI_0, bI_1, bI_01, Bool.false_eq_true, reduceCtorEq, show (4 : Int) ≤ ((4 : Nat) : Int) by omega]
    exact hQ o2 o3
  | succ m ih =>
    intro k o2 o3 hk hQ
    have wk : w32 ((k : Int) + 1) = ((k + 1 : Nat) : Int) := by rw [w32_id (by omega) (by omega)]; omega
    obtain ⟨c1, c2, c3⟩ := hS.hg k (by omega)
    obtain ⟨q, hq⟩ : ∃ q : Nat, f 27 k = (q : Int) := ⟨(f 27 k).toNat, by omega⟩
    have hq' : g 179 k = (q : Int) := by rw [← c1]; exact hq
    have e : dgP f h (k + 1) = dgI f (23 + k) (dsV (dgP f h k) (q : Int)) q := by rw [dgP, hq, Int.toNat_natCast]
    have e179 : ∀ h, (mset g 156 63 h) 179 k = (q : Int) := fun h => by rw [gh_o (by omega)]; exact hq'
    have hl := l_mdPi (L := L) (d := d) (t := t) (g := g) (f := f) (Q := Q) (h := dsV (dgP f h k) (q : Int)) (F := F) (o3 := o3) (show k < 4 by omega) hq' (by omega) (fun i hi => hS.pl k i (by omega) (by omega)) q 0 (by omega)
    have hst : VV L (d + 1) m_M_digest 150 [some (tA 156), some (tI k), o2, o3] [] (WW F t (mset g 156 63 (dgP f h k))) Q = VV L (d + 1) m_M_digest 168 [some (tA 156), some (tI k), some (tI ((0 : Nat) : Int)), o3] [] (WW F t (mset g 156 63 (dgI f (23 + k) (dsV (dgP f h k) (q : Int)) 0))) Q := by
      rw [u_M_digest_150]
      simp only [u_M_digest_151, u_M_digest_152, u_M_digest_155, u_M_digest_156, u_M_digest_157, u_M_digest_160, u_M_digest_161, u_M_digest_162, u_M_digest_163, u_M_digest_166, u_M_digest_167, h1_156, gt_156_42, h1_179, h2_179, gt_179, pt_179, ne_eq, not_false_eq_true, not_true_eq_false, true_and, and_true, true_or, or_true, eq_self, Option.toList_some, Option.toList_none, List.cons_append, List.nil_append, tc_0, tc_I, tc_L, tc_A, Nat.reduceAdd, Nat.reduceLeDiff, Nat.reduceEqDiff, Int.reduceEq, Int.reduceLT, Int.reduceLE, Int.reduceNeg, Int.reduceToNat, Int.cast_ofNat_Int, if_true, if_false, and_self, or_self, ite_self, bI_0, bI_1, bI_01, Bool.false_eq_true, reduceCtorEq, show ¬ (4 : Int) ≤ k by omega, show 0 ≤ (k : Int) by omega, show (k : Int) < 4 by omega, Int.toNat_natCast, e179, s_M_digests]
      rfl
    rw [hst, hl, ← e]
    simp only [u_M_digest_200, u_M_digest_203, ne_eq, not_false_eq_true, not_true_eq_false, true_and, and_true, true_or, or_true, eq_self, Option.toList_some, Option.toList_none, List.cons_append, List.nil_append, tc_0, tc_I, tc_L, tc_A, Nat.reduceAdd, Nat.reduceLeDiff, Nat.reduceEqDiff, Int.reduceEq, Int.reduceLT, Int.reduceLE, Int.reduceNeg, Int.reduceToNat, Int.cast_ofNat_Int, if_true, if_false, and_self, or_self, ite_self, bI_0, bI_1, bI_01, Bool.false_eq_true, reduceCtorEq, wk]
    exact ih (k + 1) _ _ (by omega) hQ
theorem l_mdF {F : Mem} {q : Nat} {o2 o3 : Option TV} (hq : g 156 59 = (q : Int)) (h12 : q ≤ 12) (hv : ∀ k : Nat, (k : Int) < q → g 182 k = f 153 k ∧ g 183 k = f 154 k) : ∀ (m k : Nat), k + m = q → VV L (d + 1) m_M_digest 263 [some (tA 156), some (tI k), o2, o3] [] (WW F t (mset g 156 63 (dgF f h k))) Q = Q (some (tL (dgF f h q))) (WW F t (mset g 156 63 (dgF f h q))) := by
  have e59 : ∀ h, (mset g 156 63 h) 156 59 = (q : Int) := fun h => by rw [gh_o (by omega)]; exact hq
  intro m
  induction m with
  | zero =>
    intro k hk
    obtain rfl : k = q := by omega
    have e63 : ∀ h, (mset g 156 63 h) 156 63 = h := fun h => by rw [rd, if_pos (by simp)]
    rw [u_M_digest_263]
    simp only [u_M_digest_264, u_M_digest_265, u_M_digest_268, u_M_digest_299, u_M_digest_300, u_M_digest_303, h1_156, gt_156_59, gt_156_63, ne_eq, not_false_eq_true, not_true_eq_false, true_and, and_true, true_or, or_true, eq_self, Option.toList_some, Option.toList_none, List.cons_append, List.nil_append, tc_0, tc_I, tc_L, tc_A, Nat.reduceAdd, Nat.reduceLeDiff, Nat.reduceEqDiff, Int.reduceEq, Int.reduceLT, Int.reduceLE, Int.reduceNeg, Int.reduceToNat, Int.cast_ofNat_Int, if_true, if_false, and_self, or_self, ite_self, bI_0, bI_1, bI_01, Bool.false_eq_true, reduceCtorEq, e59, show (k : Int) ≤ k by omega, e63]
  | succ m ih =>
    intro k hk
    have wk : w32 ((k : Int) + 1) = ((k + 1 : Nat) : Int) := by rw [w32_id (by omega) (by omega)]; omega
    obtain ⟨v1, v2⟩ := hv k (by omega)
    have e182 : ∀ h, (mset g 156 63 h) 182 k = f 153 k := fun h => by rw [gh_o (by omega)]; exact v1
    have e183 : ∀ h, (mset g 156 63 h) 183 k = f 154 k := fun h => by rw [gh_o (by omega)]; exact v2
    have e : dgF f h (k + 1) = dsV (dsV (dgF f h k) (f 153 k)) (f 154 k) := rfl
    rw [← ih (k + 1) (by omega), u_M_digest_263]
    simp only [u_M_digest_264, u_M_digest_265, u_M_digest_268, u_M_digest_271, u_M_digest_272, u_M_digest_273, u_M_digest_276, u_M_digest_277, u_M_digest_278, u_M_digest_279, u_M_digest_282, u_M_digest_283, u_M_digest_284, u_M_digest_287, u_M_digest_288, u_M_digest_289, u_M_digest_290, u_M_digest_293, u_M_digest_296, h1_156, gt_156_59, gt_156_60, gt_156_61, h1_182, h2_182, gt_182, pt_182, h1_183, h2_183, gt_183, pt_183, ne_eq, not_false_eq_true, not_true_eq_false, true_and, and_true, true_or, or_true, eq_self, Option.toList_some, Option.toList_none, List.cons_append, List.nil_append, tc_0, tc_I, tc_L, tc_A, Nat.reduceAdd, Nat.reduceLeDiff, Nat.reduceEqDiff, Int.reduceEq, Int.reduceLT, Int.reduceLE, Int.reduceNeg, Int.reduceToNat, Int.cast_ofNat_Int, if_true, if_false, and_self, or_self, ite_self, bI_0, bI_1, bI_01, Bool.false_eq_true, reduceCtorEq, e59, show ¬ (q : Int) ≤ k by omega, show 0 ≤ (k : Int) by omega, show (k : Int) < 12 by omega, Int.toNat_natCast, e182, e183, s_M_digests, wk, e]
theorem B_digest : Both tL m_T_digest [some (tA 1)] m_M_digest [some (tA 156), none, none, none] := by
  refine Both_of (fun L d X TH f t g Q hR hQ => ?_)
  rw [s_T_digest hR]
  refine hQ _ f t (fun L d Q hq => ?_)
  have fin : Q (some (tL (dgA f))) (WW f t (mset g 156 63 (dgA f))) := by
    have cO : ∀ b j, ¬ (b = 156 ∧ j = 63) → (mset g 156 63 (dgA f)) b j = g b j := fun b j h => gh_o h
    exact hq _ ⟨X, TH, RelX_mk ⟨Rtape_fr hR.tp (fun _ _ _ => rfl) (fun b j hh => cO b j (by omega)), Rtext_fr hR.tx (fun _ _ _ => rfl) (fun b j hh => cO b j (by omega)), Rout_fr hR.ou (fun _ _ _ => rfl) (fun b j hh => cO b j (by omega)), RSt_fr2 hR.st (fun _ _ _ _ => rfl) (fun b j hh => cO b j (by omega)), hR.rc, Rrun_fr hR.rn (fun _ _ _ => rfl) (fun b j hh => cO b j (by omega)), Rflt_fr hR.fl (fun _ _ _ => rfl) (fun b j hh => cO b j (by omega))⟩⟩ (fun j => cO 900 j (by omega))
  have hst : VV L (d + 200) m_M_digest 0 [some (tA 156), none, none, none] [] (WW f t g) Q = VV L (d + 199 + 1) m_M_digest 7 [some (tA 156), some (tI ((0 : Nat) : Int)), none, none] [] (WW f t (mset g 156 63 (dgN f 1 0))) Q := by
    simp only [u_M_digest_0, u_M_digest_1, u_M_digest_2, u_M_digest_5, u_M_digest_6, h1_156, pt_156_63, ne_eq, not_false_eq_true, not_true_eq_false, true_and, and_true, true_or, or_true, eq_self, Option.toList_some, Option.toList_none, List.cons_append, List.nil_append, tc_0, tc_I, tc_L, tc_A, Nat.reduceAdd, Nat.reduceLeDiff, Nat.reduceEqDiff, Int.reduceEq, Int.reduceLT, Int.reduceLE, Int.reduceNeg, Int.reduceToNat, Int.cast_ofNat_Int, if_true, if_false, and_self, or_self, ite_self, bI_0, bI_1, bI_01, Bool.false_eq_true, reduceCtorEq]
    rfl
  rw [hst, l_mdN hR.st 26 0 rfl]
  simp only [u_M_digest_55, u_M_digest_56, ne_eq, not_false_eq_true, not_true_eq_false, true_and, and_true, true_or, or_true, eq_self, Option.toList_some, Option.toList_none, List.cons_append, List.nil_append, tc_0, tc_I, tc_L, tc_A, Nat.reduceAdd, Nat.reduceLeDiff, Nat.reduceEqDiff, Int.reduceEq, Int.reduceLT, Int.reduceLE, Int.reduceNeg, Int.reduceToNat, Int.cast_ofNat_Int, if_true, if_false, and_self, or_self, ite_self, bI_0, bI_1, bI_01, Bool.false_eq_true, reduceCtorEq]
  have hR1 := fun hq' => l_mdR (L := L) (d := d + 199) (t := t) (Q := Q) (h := dgN f 1 26) hR.st (F := f) 6 0 none none rfl hq'
  refine hR1 (fun o2 o3 => ?_)
  simp only [u_M_digest_148, u_M_digest_149, ne_eq, not_false_eq_true, not_true_eq_false, true_and, and_true, true_or, or_true, eq_self, Option.toList_some, Option.toList_none, List.cons_append, List.nil_append, tc_0, tc_I, tc_L, tc_A, Nat.reduceAdd, Nat.reduceLeDiff, Nat.reduceEqDiff, Int.reduceEq, Int.reduceLT, Int.reduceLE, Int.reduceNeg, Int.reduceToNat, Int.cast_ofNat_Int, if_true, if_false, and_self, or_self, ite_self, bI_0, bI_1, bI_01, Bool.false_eq_true, reduceCtorEq]
  refine l_mdP (L := L) (d := d + 199) (t := t) (Q := Q) (h := dgR f (dgN f 1 26) 6) hR.st (F := f) 4 0 o2 o3 rfl (fun o2 o3 => ?_)
  have eS : dgP f (dgR f (dgN f 1 26) 6) 4 = dgS f := rfl
  rw [eS]
  have th := hR.rn.th
  have e54 : ∀ h, (mset g 156 63 h) 156 54 = f 151 11 := fun h => by rw [gh_o (by omega)]; exact th
  have e63 : ∀ h, (mset g 156 63 h) 156 63 = h := fun h => by rw [rd, if_pos (by simp)]
  rcases hR.rn.tb with h0 | h1
  · have eA : dgA f = dsV (dgS f) 7 := by unfold dgA; rw [if_pos h0]
    rw [eA] at fin
    simp only [u_M_digest_206, u_M_digest_207, u_M_digest_210, u_M_digest_213, u_M_digest_214, u_M_digest_217, u_M_digest_220, u_M_digest_221, u_M_digest_224, h1_156, gt_156_54, gt_156_63, ne_eq, not_false_eq_true, not_true_eq_false, true_and, and_true, true_or, or_true, eq_self, Option.toList_some, Option.toList_none, List.cons_append, List.nil_append, tc_0, tc_I, tc_L, tc_A, Nat.reduceAdd, Nat.reduceLeDiff, Nat.reduceEqDiff, Int.reduceEq, Int.reduceLT, Int.reduceLE, Int.reduceNeg, Int.reduceToNat, Int.cast_ofNat_Int, if_true, if_false, and_self, or_self, ite_self, bI_0, bI_1, bI_01, Bool.false_eq_true, reduceCtorEq, e54, h0, s_M_digests, e63]
    exact fin
  · obtain ⟨hN, hM, _⟩ := hR.rn.go h1
    have hg := hN.hg
    obtain ⟨q, hq5⟩ : ∃ q : Nat, f 151 5 = (q : Int) := ⟨(f 151 5).toNat, by omega⟩
    have e55 : ∀ h, (mset g 156 63 h) 156 55 = f 151 6 := fun h => by rw [gh_o (by omega)]; exact hM.r6
    have e56 : ∀ h, (mset g 156 63 h) 156 56 = f 151 7 := fun h => by rw [gh_o (by omega)]; exact hM.r7
    have e57 : ∀ h, (mset g 156 63 h) 156 57 = f 151 8 := fun h => by rw [gh_o (by omega), hM.r8, Int.one_mul]
    have e59 : ∀ h, (mset g 156 63 h) 156 59 = (q : Int) := fun h => by rw [gh_o (by omega)]; exact hM.r5.trans hq5
    have eA : dgA f = dgF f (dsV (dsV (dsV (dsV (dgS f) (f 151 6)) (f 151 7)) (f 151 8)) (q : Int)) q := by unfold dgA; rw [if_neg (by omega), hq5, Int.toNat_natCast]
    have hl := l_mdF (L := L) (d := d + 199) (t := t) (g := g) (f := f) (Q := Q) (h := dsV (dsV (dsV (dsV (dgS f) (f 151 6)) (f 151 7)) (f 151 8)) (q : Int)) (F := f) (o2 := o2) (o3 := o3) (hM.r5.trans hq5) (by omega) (fun k hk => hM.fr k (by omega)) q 0 (by omega)
    have hst2 : VV L (d + 199 + 1) m_M_digest 206 [some (tA 156), some (tI 4), o2, o3] [] (WW f t (mset g 156 63 (dgS f))) Q = VV L (d + 199 + 1) m_M_digest 263 [some (tA 156), some (tI ((0 : Nat) : Int)), o2, o3] [] (WW f t (mset g 156 63 (dgF f (dsV (dsV (dsV (dsV (dgS f) (f 151 6)) (f 151 7)) (f 151 8)) (q : Int)) 0))) Q := by
      simp only [u_M_digest_206, u_M_digest_207, u_M_digest_210, u_M_digest_225, u_M_digest_226, u_M_digest_227, u_M_digest_230, u_M_digest_231, u_M_digest_234, u_M_digest_235, u_M_digest_236, u_M_digest_239, u_M_digest_240, u_M_digest_243, u_M_digest_244, u_M_digest_245, u_M_digest_248, u_M_digest_249, u_M_digest_252, u_M_digest_253, u_M_digest_254, u_M_digest_257, u_M_digest_258, u_M_digest_261, u_M_digest_262, h1_156, gt_156_54, gt_156_55, gt_156_56, gt_156_57, gt_156_59, ne_eq, not_false_eq_true, not_true_eq_false, true_and, and_true, true_or, or_true, eq_self, Option.toList_some, Option.toList_none, List.cons_append, List.nil_append, tc_0, tc_I, tc_L, tc_A, Nat.reduceAdd, Nat.reduceLeDiff, Nat.reduceEqDiff, Int.reduceEq, Int.reduceLT, Int.reduceLE, Int.reduceNeg, Int.reduceToNat, Int.cast_ofNat_Int, if_true, if_false, and_self, or_self, ite_self, bI_0, bI_1, bI_01, Bool.false_eq_true, reduceCtorEq, e54, h1, e55, e56, e57, e59, s_M_digests]
      rfl
    rw [hst2, hl, ← eA]
    exact fin
end
