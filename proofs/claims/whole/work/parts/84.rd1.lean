/-! read, of both -/
theorem isT_far {a b : Nat} (ha : isT a) (hb : isT b) (h : ¬ a = b) : a + 9 < b ∨ b + 9 < a := by unfold isT at ha hb; omega
def rdM (g : Mem) : Mem := mset (mset (mset (mset (mset (mset g 156 4 0) 156 11 0) 156 18 0) 156 19 0) 156 20 0) 156 17 0
def FRd (g g' : Mem) : Prop := (∀ c j, ¬ (c = 159 ∨ c = 160 ∨ (c = 156 ∧ (j = 1 ∨ (4 ≤ j ∧ j ≤ 8) ∨ (11 ≤ j ∧ j ≤ 21)))) → g' c j = g c j) ∧ g' 156 1 = 0
def RMr (c : Nat) (y : Int → Int) (len : Nat) (r : Nat) (g f t : Mem) (Q : Option TV → Wd → Prop) : PS (TB c 6) → Prop
  | .ok (x, _, _) => ∀ g1 g', FRd g g1 → g1 156 12 = 0 → g1 156 13 = 0 → Bec r g1 g' (Tk y len) len (nB 6 x) (t9B 6 x 0 0) (bB (kOrd (Tk y len 0))) → Q (some (tI (nB 6 x))) (WW f t g')
  | .error ((w, i, _), _) => ∀ g', FRd g g' → g' 156 12 = w → g' 156 13 = sk y (eN y i.toNat) → Q (some (tI (w32 (-10 - w)))) (WW f t g')
theorem s_M_isRoutine {L d : Nat} {w : Wd} {Q : Option TV → Wd → Prop} {k : Int} : VV L (d + 1) m_M_isRoutine 0 [some (tI k)] [] w Q = Q (some (tI (bB (decide (0 ≤ k ∧ k ≤ 9))))) w := by
  simp only [u_M_isRoutine_0, u_M_isRoutine_1, u_M_isRoutine_2, u_M_isRoutine_4, u_M_isRoutine_7, h1_156, ne_eq, not_false_eq_true, not_true_eq_false, true_and, and_true, true_or, or_true, eq_self, Option.toList_some, Option.toList_none, List.cons_append, List.nil_append, tc_0, tc_I, tc_L, tc_A, Nat.reduceAdd, Nat.reduceLeDiff, Nat.reduceEqDiff, Int.reduceEq, Int.reduceLT, Int.reduceLE, Int.reduceNeg, Int.reduceToNat, Int.cast_ofNat_Int, if_true, if_false, and_self, or_self, ite_self, bI_0, bI_1, bI_01, Bool.false_eq_true, reduceCtorEq, s_M_in, bB_01]
theorem s_T_isRoutine {L d : Nat} {w : Wd} {Q : Option TV → Wd → Prop} {k : Int} : VV L d m_T_isRoutine 0 [some (tI k)] [] w Q = Q (some (tI (bB (decide (0 ≤ k ∧ k < 10))))) w := by
  simp only [u_T_isRoutine_0, u_T_isRoutine_1, u_T_isRoutine_4, u_T_isRoutine_5, u_T_isRoutine_7, u_T_isRoutine_10, u_T_isRoutine_11, u_T_isRoutine_14, u_T_isRoutine_15, h1_1, ne_eq, not_false_eq_true, not_true_eq_false, true_and, and_true, true_or, or_true, eq_self, Option.toList_some, Option.toList_none, List.cons_append, List.nil_append, tc_0, tc_I, tc_L, tc_A, Nat.reduceAdd, Nat.reduceLeDiff, Nat.reduceEqDiff, Int.reduceEq, Int.reduceLT, Int.reduceLE, Int.reduceNeg, Int.reduceToNat, Int.cast_ofNat_Int, if_true, if_false, and_self, or_self, ite_self, bI_0, bI_1, bI_01, Bool.false_eq_true, reduceCtorEq]
  simp only [bB, decide_eq_true_eq]
  (repeat' split) <;> first | rfl | omega
section
variable {L d c r len : Nat} {f t g : Mem} {Q : Option TV → Wd → Prop} {y : Int → Int} {n k : Int}
theorem rdM_o {a j : Nat} (h : ¬ (a = 156 ∧ (j = 4 ∨ j = 11 ∨ j = 17 ∨ j = 18 ∨ j = 19 ∨ j = 20))) : rdM g a j = g a j := by
  simp only [rdM, rd]
  rw [if_neg (by omega), if_neg (by omega), if_neg (by omega), if_neg (by omega), if_neg (by omega), if_neg (by omega)]
theorem rdM_0 {j : Nat} (h : j = 4 ∨ j = 11 ∨ j = 17 ∨ j = 18 ∨ j = 19 ∨ j = 20) : rdM g 156 j = 0 := by
  rcases h with rfl | rfl | rfl | rfl | rfl | rfl <;> rfl
theorem Tk_low9 {g : Mem} (hg : okG g) (hy : ym g = y) (hn : g 156 1 = n) (hL : Lexd y n len) (k : Int) : -1000000000 ≤ Tk y len k := by
  unfold Tk
  split
  · have h := hL.2.2 k.toNat (by omega)
    have hyo : okY (fun _ j => g 157 j) n := fun i hi => hg.2.2 i (by rw [hn]; exact hi)
    have ey : yb (fun _ j => g 157 j) n = y := by rw [← hy, ← hn]; rfl
    have := (tv_low hyo (by rw [← hn]; exact hg.2.1) h.1 h.2).1
    rw [ey] at this
    exact this
  · omega
theorem p_M_read (hr : r < 10) (hc : c = 8) (hg : okG g) (hy : ym g = y) (hn : g 156 1 = n) (hL : Lexd y n len) (hQ : RMr c y len r g f t Q (pTop c (Tk y len))) : VV L (d + 120) m_M_read 0 [some (tA 156), some (tI r), none, none] [] (WW f t g) Q := by
  have hn6 : n ≤ 600 := by rw [← hn]; exact hg.2.1
  have hn0 : 0 ≤ n := by rw [← hn]; exact hg.1
  have hlow := Tk_low9 hg hy hn hL
  have hir : (0 ≤ (r : Int) ∧ (r : Int) ≤ 9) := by omega
  have hy1 : ym (rdM g) = y := by
    rw [← hy]; funext i; unfold ym; rw [rdM_o (by omega), rdM_o (by omega)]
  have hM : MR0 y n len 0 (rdM g) := by
    refine ⟨⟨by rw [rdM_o (by omega)]; exact hg.1, by rw [rdM_o (by omega)]; exact hg.2.1, fun i hi => ?_⟩, hy1, by rw [rdM_o (by omega)]; exact hn, by rw [rdM_0 (by omega)]; omega, by rw [rdM_0 (by omega)]; exact hn0, by rw [rdM_0 (by omega)]; rfl, rdM_0 (by omega), by omega, by omega, fun q hq => by omega⟩
    rw [rdM_o (by omega)] at hi ⊢
    exact hg.2.2 i hi
  have hC : CT 0 (0, 0, 0) 0 (rdM g) := ⟨rdM_0 (by omega), fun _ => rdM_0 (by omega), fun h => absurd h (by decide), by rw [rdM_0 (by omega)]; omega, rdM_0 (by omega)⟩
  simp only [u_M_read_0, u_M_read_1, u_M_read_4, u_M_read_7, u_M_read_8, u_M_read_9, u_M_read_10, u_M_read_11, u_M_read_14, u_M_read_15, u_M_read_16, u_M_read_19, u_M_read_20, u_M_read_21, u_M_read_24, u_M_read_25, u_M_read_26, u_M_read_29, u_M_read_30, u_M_read_31, u_M_read_34, u_M_read_35, u_M_read_36, u_M_read_39, u_M_read_40, u_M_read_41, h1_156, pt_156_4, pt_156_11, pt_156_18, pt_156_19, pt_156_20, pt_156_17, ne_eq, not_false_eq_true, not_true_eq_false, true_and, and_true, true_or, or_true, eq_self, Option.toList_some, Option.toList_none, List.cons_append, List.nil_append, tc_0, tc_I, tc_L, tc_A, Nat.reduceAdd, Nat.reduceLeDiff, Nat.reduceEqDiff, Int.reduceEq, Int.reduceLT, Int.reduceLE, Int.reduceNeg, Int.reduceToNat, Int.cast_ofNat_Int, if_true, if_false, and_self, or_self, ite_self, bI_0, bI_1, bI_01, Bool.false_eq_true, reduceCtorEq, s_M_isRoutine, bB_0, ite_not, hir, decide_true]
  change VV L (d + 119) m_M_readSteps 0 _ [] (WW f t (rdM g)) _
  refine p_readSteps_top hL hn6 hc hlow hM hC (rdM_0 (by omega)) ?_
  have hfr : ∀ g1, FS (rdM g) g1 → FRd g (mset g1 156 1 0) := by
    intro g1 h1
    refine ⟨fun a j hh => ?_, rfl⟩
    rw [rd, if_neg (by omega), h1 a j (by unfold scE; omega), rdM_o (by omega)]
  cases hp : pTop c (Tk y len) with
  | error e =>
    obtain ⟨⟨w, i, q⟩, σ⟩ := e
    rw [hp] at hQ
    intro g1 h1 h12 h13
    simp only [u_M_read_44, u_M_read_45, u_M_read_46, u_M_read_47, u_M_read_50, u_M_read_51, u_M_read_54, u_M_read_56, u_M_read_57, u_M_read_60, u_M_read_61, h1_156, pt_156_1, gt_156_12, ne_eq, not_false_eq_true, not_true_eq_false, true_and, and_true, true_or, or_true, eq_self, Option.toList_some, Option.toList_none, List.cons_append, List.nil_append, tc_0, tc_I, tc_L, tc_A, Nat.reduceAdd, Nat.reduceLeDiff, Nat.reduceEqDiff, Int.reduceEq, Int.reduceLT, Int.reduceLE, Int.reduceNeg, Int.reduceToNat, Int.cast_ofNat_Int, if_true, if_false, and_self, or_self, ite_self, bI_0, bI_1, bI_01, Bool.false_eq_true, reduceCtorEq, rd, false_and, and_false, h12]
    exact hQ _ (hfr g1 h1) (by rw [rd, if_neg (by omega)]; exact h12) (by rw [rd, if_neg (by omega)]; exact h13)
  | ok z =>
    obtain ⟨x, j, σ⟩ := z
    rw [hp] at hQ
    intro g1 h1 hM1 h17
    obtain ⟨t0, t1, t2, t3, t4, t5⟩ := pTop_t hlow x j σ hp
    obtain ⟨m1, m2, m3, m4, m5, m6, m7, m8, m9, m10⟩ := hM1
    have hjl : j = len := by
      by_cases hlt : j < len
      · exfalso
        have hh := hL.2.2 j.toNat (by omega)
        have hyo : okY (fun _ j => g 157 j) n := fun i hi => hg.2.2 i (by rw [hn]; exact hi)
        have htv := (tv_low hyo hn6 hh.1 hh.2).2
        have ey : yb (fun _ j => g 157 j) n = y := by rw [← hy, ← hn]; rfl
        rw [ey] at htv
        unfold Tk at t0
        rw [if_pos ⟨m8, hlt⟩] at t0
        exact htv t0
      · omega
    subst hjl
    have h01 : g1 156 17 = 0 ∨ g1 156 17 = 1 := by rw [h17]; unfold bB; split <;> simp
    simp only [u_M_read_44, u_M_read_45, u_M_read_46, u_M_read_47, u_M_read_50, u_M_read_51, u_M_read_54, u_M_read_56, u_M_read_57, u_M_read_60, u_M_read_61, u_M_read_62, u_M_read_63, u_M_read_64, u_M_read_65, u_M_read_68, u_M_read_69, u_M_read_70, u_M_read_71, u_M_read_72, u_M_read_75, h1_156, pt_156_1, gt_156_17, ne_eq, not_false_eq_true, not_true_eq_false, true_and, and_true, true_or, or_true, eq_self, Option.toList_some, Option.toList_none, List.cons_append, List.nil_append, tc_0, tc_I, tc_L, tc_A, Nat.reduceAdd, Nat.reduceLeDiff, Nat.reduceEqDiff, Int.reduceEq, Int.reduceLT, Int.reduceLE, Int.reduceNeg, Int.reduceToNat, Int.cast_ofNat_Int, if_true, if_false, and_self, or_self, ite_self, bI_0, bI_1, bI_01, Bool.false_eq_true, reduceCtorEq, rd, false_and, and_false, s_M_fails, h01]
    rw [h17]
    refine p_M_becomes (d := d + 105) (len := len) (T := Tk y len) hr (by have := hL.1; omega) (by simp only [rd]; rw [if_neg (by omega), if_neg (by omega), if_neg (by omega)]; exact m7) (fun q hq => ?_) (fun q hq => ?_) (by unfold bB; split <;> simp) x t2 t1 (by omega) (fun g' hB => ?_)
    · have := m10 q (by omega)
      simp only [rd]
      rw [if_neg (by omega), if_neg (by omega), if_neg (by omega), if_neg (by omega), if_neg (by omega), if_neg (by omega)]
      exact this
    · unfold Tk; rw [if_neg (by omega)]
    · simp only [u_M_read_78, ne_eq, not_false_eq_true, not_true_eq_false, true_and, and_true, true_or, or_true, eq_self, Option.toList_some, Option.toList_none, List.cons_append, List.nil_append, tc_0, tc_I, tc_L, tc_A, Nat.reduceAdd, Nat.reduceLeDiff, Nat.reduceEqDiff, Int.reduceEq, Int.reduceLT, Int.reduceLE, Int.reduceNeg, Int.reduceToNat, Int.cast_ofNat_Int, if_true, if_false, and_self, or_self, ite_self, bI_0, bI_1, bI_01, Bool.false_eq_true, reduceCtorEq]
      refine hQ _ g' ?_ ?_ ?_ hB
      · have h2 := hfr g1 h1
        refine ⟨fun a j hh => ?_, ?_⟩
        · rw [rd, if_neg (by omega), rd, if_neg (by omega)]; exact h2.1 a j hh
        · rw [rd, if_neg (by omega), rd, if_neg (by omega)]; exact h2.2
      · rw [rd, if_neg (by omega), rd, if_pos (by simp)]
      · rw [rd, if_pos (by simp)]
theorem s_M_read0 (hk : ¬ (0 ≤ k ∧ k ≤ 9)) : VV L (d + 120) m_M_read 0 [some (tA 156), some (tI k), none, none] [] (WW f t g) Q = Q (some (tI (-1))) (WW f t g) := by
  simp only [u_M_read_0, u_M_read_1, u_M_read_4, u_M_read_7, u_M_read_8, ne_eq, not_false_eq_true, not_true_eq_false, true_and, and_true, true_or, or_true, eq_self, Option.toList_some, Option.toList_none, List.cons_append, List.nil_append, tc_0, tc_I, tc_L, tc_A, Nat.reduceAdd, Nat.reduceLeDiff, Nat.reduceEqDiff, Int.reduceEq, Int.reduceLT, Int.reduceLE, Int.reduceNeg, Int.reduceToNat, Int.cast_ofNat_Int, if_true, if_false, and_self, or_self, ite_self, bI_0, bI_1, bI_01, Bool.false_eq_true, reduceCtorEq, s_M_isRoutine, bB_0, ite_not, hk, decide_false]
theorem s_T_read0 (hk : ¬ (0 ≤ k ∧ k < 10)) : VV L (d + 120) m_T_read 0 [some (tA 1), some (tI k), none] [] (WW f t g) Q = Q (some (tI (-1))) (WW f t g) := by
  simp only [u_T_read_0, u_T_read_1, u_T_read_4, u_T_read_7, u_T_read_8, ne_eq, not_false_eq_true, not_true_eq_false, true_and, and_true, true_or, or_true, eq_self, Option.toList_some, Option.toList_none, List.cons_append, List.nil_append, tc_0, tc_I, tc_L, tc_A, Nat.reduceAdd, Nat.reduceLeDiff, Nat.reduceEqDiff, Int.reduceEq, Int.reduceLT, Int.reduceLE, Int.reduceNeg, Int.reduceToNat, Int.cast_ofNat_Int, if_true, if_false, and_self, or_self, ite_self, bI_0, bI_1, bI_01, Bool.false_eq_true, reduceCtorEq, s_T_isRoutine, bB_0, ite_not, hk, decide_false]
def bcT (f : Mem) (r : Nat) : Mem := mset (mset (mset f 3 r (f 1 3).toNat) 1 3 (f 3 r).toNat) 151 11 0
theorem p_T_becomes {o : Bool} (hr : r < 10) (hT : isT (f 1 3).toNat) (hTb : isT (f 3 r).toNat) (hl : t (f 1 3).toNat 1 ≤ 1000) (h0 : 0 ≤ t (f 1 3).toNat 1) (x : TB c 6) (hw : wB o 6 x) (hs : seg (tok t (f 1 3).toNat) 0 (t (f 1 3).toNat 1) (kB 6 x)) (hn : nB 6 x ≤ 40) (hQ : ∀ t', Laid (f 1 3).toNat t t' x → Q (some (tI (nB 6 x))) (WW (bcT f r) t' g)) : VV L (d + 5) m_T_becomes 0 [some (tA 1), some (tI r), none] [] (WW f t g) Q := by
  have a0 := xT_0 hT
  have b0 := xT_0 hTb
  simp only [u_T_becomes_0, u_T_becomes_1, u_T_becomes_4, u_T_becomes_5, u_T_becomes_6, u_T_becomes_7, u_T_becomes_8, u_T_becomes_11, h1_1, gt_1_2, gt_1_3, h1_3, h2_3, gt_3, pt_3, ne_eq, not_false_eq_true, not_true_eq_false, true_and, and_true, true_or, or_true, eq_self, Option.toList_some, Option.toList_none, List.cons_append, List.nil_append, tc_0, tc_I, tc_L, tc_A, Nat.reduceAdd, Nat.reduceLeDiff, Nat.reduceEqDiff, Int.reduceEq, Int.reduceLT, Int.reduceLE, Int.reduceNeg, Int.reduceToNat, Int.cast_ofNat_Int, if_true, if_false, and_self, or_self, ite_self, bI_0, bI_1, bI_01, Bool.false_eq_true, reduceCtorEq, b0, show 0 ≤ (r : Int) by omega, show (r : Int) < 10 by omega, Int.toNat_natCast, xT_h1 hT]
  refine s_Tx_settle hT hl h0 x hw hs hn (fun t' hL => ?_)
  have hf9 : t' (f 1 3).toNat 9 = nB 6 x := hL.f9
  simp only [u_T_becomes_14, u_T_becomes_15, u_T_becomes_18, u_T_becomes_19, u_T_becomes_20, u_T_becomes_23, u_T_becomes_24, u_T_becomes_25, u_T_becomes_26, u_T_becomes_29, u_T_becomes_30, u_T_becomes_33, u_T_becomes_36, u_T_becomes_37, u_T_becomes_40, u_T_becomes_41, u_T_becomes_42, u_T_becomes_45, h1_1, gt_1_2, gt_1_3, pt_1_3, gt_1_9, h1_3, h2_3, gt_3, pt_3, h1_151, ne_eq, not_false_eq_true, not_true_eq_false, true_and, and_true, true_or, or_true, eq_self, Option.toList_some, Option.toList_none, List.cons_append, List.nil_append, tc_0, tc_I, tc_L, tc_A, Nat.reduceAdd, Nat.reduceLeDiff, Nat.reduceEqDiff, Int.reduceEq, Int.reduceLT, Int.reduceLE, Int.reduceNeg, Int.reduceToNat, Int.cast_ofNat_Int, if_true, if_false, and_self, or_self, ite_self, bI_0, bI_1, bI_01, Bool.false_eq_true, reduceCtorEq, show 0 ≤ (r : Int) by omega, show (r : Int) < 10 by omega, Int.toNat_natCast, xT_h1 hT, a0, b0, u_Ru_stop_0, u_Ru_stop_1, u_Ru_stop_2, u_Ru_stop_5, h1_151, gt_151_11, pt_151_11, rd, false_and, and_self, s_Tx_size hT, hf9]
  exact hQ t' hL
def RTr (c : Nat) (y : Int → Int) (len : Nat) (r a : Nat) (f t g : Mem) (Q : Option TV → Wd → Prop) : PS (TB c 6) → Prop
  | .ok (x, _, _) => ∀ f1 t', (∀ b j, ¬ (b = 14 ∨ b = 15 ∨ (b = 1 ∧ j = 1)) → f1 b j = f b j) → f1 14 3 = 0 → f1 14 4 = 0 → f1 1 1 = 0 → Laid a (lxT y t a len) t' x → Q (some (tI (nB 6 x))) (WW (bcT f1 r) t' g)
  | .error ((w, i, _), _) => ∀ f1, (∀ b j, ¬ (b = 14 ∨ b = 15 ∨ (b = 1 ∧ j = 1)) → f1 b j = f b j) → f1 14 3 = w → f1 14 4 = sk y (eN y i.toNat) → f1 1 1 = 0 → Q (some (tI (w32 (-10 - w)))) (WW f1 (lxT y t a len) g)
theorem Tk_rg {y : Int → Int} {i : Int} (h : ¬ Tk y len i = 0) : 0 ≤ i ∧ i < (len : Int) := by
  unfold Tk at h
  by_cases e : 0 ≤ i ∧ i < len
  · exact e
  · rw [if_neg e] at h; exact absurd rfl h
theorem Tk_nz (hy : okY f n) (hn : n ≤ 600) (hL : Lexd (yb f n) n len) {i : Int} (h0 : 0 ≤ i) (h1 : i < len) : ¬ Tk (yb f n) len i = 0 := by
  unfold Tk
  rw [if_pos ⟨h0, h1⟩]
  have h := hL.2.2 i.toNat (by omega)
  exact (tv_low hy hn h.1 h.2).2
theorem p_T_read (hr : r < 10) (hc : c = 8) (hT : isT (f 1 3).toNat) (hTb : isT (f 3 r).toNat) (hn : f 1 1 = n) (hn0 : 0 ≤ n) (hn6 : n ≤ 600) (hy : okY f n) (hQ : ∀ len, Lexd (yb f n) n len → RTr c (yb f n) len r (f 1 3).toNat f t g Q (pTop c (Tk (yb f n) len))) : VV L (d + 120) m_T_read 0 [some (tA 1), some (tI r), none] [] (WW f t g) Q := by
  have a0 := xT_0 hT
  have hir : (0 ≤ (r : Int) ∧ (r : Int) < 10) := by omega
  simp only [u_T_read_0, u_T_read_1, u_T_read_4, u_T_read_7, u_T_read_8, u_T_read_9, u_T_read_10, u_T_read_13, u_T_read_14, u_T_read_17, u_T_read_18, u_T_read_21, u_T_read_22, u_T_read_25, h1_1, gt_1_4, gt_1_0, gt_1_1, gt_1_3, h1_14, ne_eq, not_false_eq_true, not_true_eq_false, true_and, and_true, true_or, or_true, eq_self, Option.toList_some, Option.toList_none, List.cons_append, List.nil_append, tc_0, tc_I, tc_L, tc_A, Nat.reduceAdd, Nat.reduceLeDiff, Nat.reduceEqDiff, Int.reduceEq, Int.reduceLT, Int.reduceLE, Int.reduceNeg, Int.reduceToNat, Int.cast_ofNat_Int, if_true, if_false, and_self, or_self, ite_self, bI_0, bI_1, bI_01, Bool.false_eq_true, reduceCtorEq, s_T_isRoutine, bB_0, ite_not, hir, decide_true, hn]
  refine s_Re_reads (d := d + 19) hT hc hn0 hn6 hy (fun len hL => ?_)
  have hQ' := hQ len hL
  have hlow : ∀ k, -1000000000 ≤ Tk (yb f n) len k := by
    intro k
    unfold Tk
    split
    · have h := hL.2.2 k.toNat (by omega)
      exact (tv_low hy hn6 h.1 h.2).1
    · omega
  have hb := pTop_b (c := c) (T := Tk (yb f n) len) (len := len) (fun i hi => Tk_rg hi) (by omega)
  have hF : ∀ b j, ¬ (b = 14 ∨ b = 15) → lxB (yb f n) (rd0 f (f 1 3).toNat) (len + 1) b j = f b j := by
    intro b j h
    rw [lxB_c (by omega)]
    simp only [rd0, rd]
    rw [if_neg (by omega), if_neg (by omega), if_neg (by omega)]
  have hF3 : lxB (yb f n) (rd0 f (f 1 3).toNat) (len + 1) 14 3 = 0 := by rw [lxB_c (by omega)]; rfl
  have hF4 : lxB (yb f n) (rd0 f (f 1 3).toNat) (len + 1) 14 4 = 0 := by rw [lxB_c (by omega)]; rfl
  have hF15 : ∀ i : Int, 0 ≤ i → i ≤ len → bg (lxB (yb f n) (rd0 f (f 1 3).toNat) (len + 1)) i = sk (yb f n) (eN (yb f n) i.toNat) := by
    intro i h0 h1
    unfold bg
    rw [if_pos ⟨h0, by have := hL.1; omega⟩]
    unfold lxB
    rw [if_pos ⟨rfl, by omega⟩]
  generalize hG : lxB (yb f n) (rd0 f (f 1 3).toNat) (len + 1) = F at *
  cases hp : pTop c (Tk (yb f n) len) with
  | error e =>
    obtain ⟨⟨w, i, q⟩, σ⟩ := e
    rw [hp] at hQ' hb
    have hb1 : 0 ≤ i ∧ i ≤ (len : Int) := hb
    show VV L _ m_T_read _ _ _ _ _
    simp only [Option.toList_some, List.cons_append, List.nil_append, u_T_read_28, u_T_read_29, u_T_read_30, u_T_read_31, u_T_read_34, u_T_read_35, u_T_read_38, u_T_read_39, u_T_read_40, u_T_read_43, u_T_read_46, u_T_read_48, u_T_read_49, u_T_read_52, u_T_read_55, u_T_read_56, h1_1, pt_1_1, gt_1_4, h1_14, ne_eq, not_false_eq_true, not_true_eq_false, true_and, and_true, true_or, or_true, eq_self, Option.toList_some, Option.toList_none, List.cons_append, List.nil_append, tc_0, tc_I, tc_L, tc_A, Nat.reduceAdd, Nat.reduceLeDiff, Nat.reduceEqDiff, Int.reduceEq, Int.reduceLT, Int.reduceLE, Int.reduceNeg, Int.reduceToNat, Int.cast_ofNat_Int, if_true, if_false, and_self, or_self, ite_self, bI_0, bI_1, bI_01, Bool.false_eq_true, reduceCtorEq, u_Re_why_0, u_Re_why_1, u_Re_why_4, h1_14, gt_14_3, pt_14_3, rd, false_and, and_false]
    have e3 : (erR (sz F σ) (w, i, q)) 14 3 = w := by simp [erR, rd]
    have e4 : (erR (sz F σ) (w, i, q)) 14 4 = sk (yb f n) (eN (yb f n) i.toNat) := by
      rw [← hF15 i hb1.1 hb1.2]
      simp only [erR, rd, bg, sz]
      simp
    rw [e3]
    refine hQ' _ (fun b j h => ?_) ?_ ?_ ?_
    · rw [rd, if_neg (by omega)]
      simp only [erR, sz, rd]
      rw [if_neg (by omega), if_neg (by omega), if_neg (by omega), if_neg (by omega), if_neg (by omega), if_neg (by omega)]
      exact hF b j (by omega)
    · rw [rd, if_neg (by omega), e3]
    · rw [rd, if_neg (by omega), e4]
    · rw [rd, if_pos (by simp)]
  | ok z =>
    obtain ⟨x, j, σ⟩ := z
    rw [hp] at hQ' hb
    have hb1 : 0 ≤ j ∧ j ≤ (len : Int) := hb
    obtain ⟨t0, t1, t2, t3, t4, t5⟩ := pTop_t hlow x j σ hp
    have hjl : j = len := by
      by_cases hlt : j < len
      · exact absurd t0 (Tk_nz hy hn6 hL hb1.1 hlt)
      · omega
    subst hjl
    show VV L _ m_T_read _ _ _ _ _
    simp only [Option.toList_some, List.cons_append, List.nil_append, u_T_read_28, u_T_read_29, u_T_read_30, u_T_read_31, u_T_read_34, u_T_read_35, u_T_read_38, u_T_read_39, u_T_read_40, h1_1, pt_1_1, ne_eq, not_false_eq_true, not_true_eq_false, true_and, and_true, true_or, or_true, eq_self, Option.toList_some, Option.toList_none, List.cons_append, List.nil_append, tc_0, tc_I, tc_L, tc_A, Nat.reduceAdd, Nat.reduceLeDiff, Nat.reduceEqDiff, Int.reduceEq, Int.reduceLT, Int.reduceLE, Int.reduceNeg, Int.reduceToNat, Int.cast_ofNat_Int, if_true, if_false, and_self, or_self, ite_self, bI_0, bI_1, bI_01, Bool.false_eq_true, reduceCtorEq]
    generalize hf1 : mset (mset (sz F σ) 14 2 (len : Int)) 1 1 0 = f1
    have k1 : ∀ b j, ¬ (b = 14 ∨ b = 15 ∨ (b = 1 ∧ j = 1)) → f1 b j = f b j := by
      intro b j h
      rw [← hf1]
      simp only [sz, rd]
      rw [if_neg (by omega), if_neg (by omega), if_neg (by omega), if_neg (by omega), if_neg (by omega)]
      exact hF b j (by omega)
    have e13 : f1 1 3 = f 1 3 := k1 1 3 (by omega)
    have e3r : f1 3 r = f 3 r := k1 3 r (by omega)
    have el : lxT (yb f n) t (f 1 3).toNat len (f 1 3).toNat 1 = len := lxT_a1
    refine p_T_becomes (d := d + 114) (o := kOrd (Tk (yb f n) len 0)) hr (by rw [e13]; exact hT) (by rw [e3r]; exact hTb) (by rw [e13, el]; have := hL.1; omega) (by rw [e13, el]; omega) x t2 (by rw [e13, el, tok_Tk]; exact t1) (by omega) (fun t' hLd => ?_)
    simp only [u_T_read_43, u_T_read_46, u_T_read_48, u_T_read_49, u_T_read_52, u_T_read_55, u_T_read_56, ne_eq, not_false_eq_true, not_true_eq_false, true_and, and_true, true_or, or_true, eq_self, Option.toList_some, Option.toList_none, List.cons_append, List.nil_append, tc_0, tc_I, tc_L, tc_A, Nat.reduceAdd, Nat.reduceLeDiff, Nat.reduceEqDiff, Int.reduceEq, Int.reduceLT, Int.reduceLE, Int.reduceNeg, Int.reduceToNat, Int.cast_ofNat_Int, if_true, if_false, and_self, or_self, ite_self, bI_0, bI_1, bI_01, Bool.false_eq_true, reduceCtorEq]
    rw [e13] at hLd
    refine hQ' f1 t' k1 ?_ ?_ ?_ hLd
    · rw [← hf1]; simp only [sz, rd]; rw [if_neg (by omega), if_neg (by omega), if_neg (by omega), if_neg (by omega), if_neg (by omega)]; exact hF3
    · rw [← hf1]; simp only [sz, rd]; rw [if_neg (by omega), if_neg (by omega), if_neg (by omega), if_neg (by omega), if_neg (by omega)]; exact hF4
    · rw [← hf1]; simp only [rd]; simp
end
