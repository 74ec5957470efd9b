/-! Calls: take -/
section
variable {L d : Nat} {X : Nat → Tre} {TH : Nat} {f f' t t' g g' : Mem} {Q : Option TV → Wd → Prop} {w : Int}
def tkB (a s : Nat) (f : Mem) (k : Nat) : Mem := fun b j => if b = a ∧ j < k then f s j else f b j
theorem tkB_s {a s k : Nat} (h : ¬ a = s) : mset (tkB a s f k) a k (f s k) = tkB a s f (k + 1) := by
  funext b j; simp only [mset, tkB]; grind
theorem tkB_0 {a s : Nat} : tkB a s f 0 = f := by funext b j; simp [tkB]
theorem tkB_o {a s k b j : Nat} (h : ¬ b = a) : tkB a s f k b j = f b j := by unfold tkB; rw [if_neg (fun hh => h hh.1)]
theorem tkB_v {a s k j : Nat} (h : j < k) : tkB a s f k a j = f s j := by unfold tkB; rw [if_pos ⟨rfl, h⟩]
theorem bm_id {z : Int} (h : 32 ≤ z ∧ z ≤ 126) : z.bmod 256 = z := by
  have : z % 256 = z := by omega
  rw [bm_m z (by rw [this]; exact h), this]
theorem l_tkC {n : Nat} (hn : f 16 1 = (n : Int)) (h6 : n ≤ 600) (hy : ∀ i : Nat, i < n → 32 ≤ f 17 i ∧ f 17 i ≤ 126) : ∀ (m k : Nat), k + m = n → VV L (d + 1) m_T_take 20 [some (tA 1), some (tI n), some (tI k)] [] (WW (tkB 2 17 f k) t g) Q = Q (some (tI n)) (WW (mset (tkB 2 17 f n) 1 1 n) t g) := by
  intro m
  induction m with
  | zero =>
    intro k hk
    obtain rfl : k = n := by omega
    rw [u_T_take_20]
    simp only [u_T_take_21, u_T_take_22, u_T_take_46, u_T_take_47, u_T_take_48, u_T_take_51, u_T_take_52, h1_1, pt_1_1, ne_eq, not_false_eq_true, not_true_eq_false, true_and, and_true, true_or, or_true, eq_self, Option.toList_some, Option.toList_none, List.cons_append, List.nil_append, tc_0, tc_I, tc_L, tc_A, Nat.reduceAdd, Nat.reduceLeDiff, Nat.reduceEqDiff, Int.reduceEq, Int.reduceLT, Int.reduceLE, Int.reduceNeg, Int.reduceToNat, Int.cast_ofNat_Int, if_true, if_false, and_self, or_self, ite_self, bI_0, bI_1, bI_01, Bool.false_eq_true, reduceCtorEq, show (k : Int) ≤ k by omega]
  | succ m ih =>
    intro k hk
    have wk : w32 ((k : Int) + 1) = ((k + 1 : Nat) : Int) := by rw [w32_id (by omega) (by omega)]; omega
    have o1 : ∀ j, tkB 2 17 f k 16 j = f 16 j := fun j => tkB_o (by decide)
    have o2 : ∀ j, tkB 2 17 f k 17 j = f 17 j := fun j => tkB_o (by decide)
    have hb := bm_id (hy k (by omega))
    rw [u_T_take_20]
    simp only [u_T_take_21, u_T_take_22, u_T_take_25, u_T_take_26, u_T_take_29, u_T_take_30, u_T_take_31, u_T_take_34, u_T_take_35, u_T_take_38, u_T_take_39b h1_2, u_T_take_40, u_T_take_43, u_Pr_byteAt_0, u_Pr_byteAt_1, u_Pr_byteAt_4, u_Pr_byteAt_5, u_Pr_byteAt_6, u_Pr_byteAt_9, u_Pr_byteAt_12, u_Pr_byteAt_13, u_Pr_byteAt_16, u_Pr_byteAt_17, u_Pr_byteAt_18, u_Pr_byteAt_21, u_Pr_byteAt_22, h1_16, gt_16_1, pt_16_1, gt_16_0, h1_17, h2_17, gt_17, pt_17, h1_1, gt_1_0, gt_1_5, h1_2, h2_2, gt_2, pt_2, ne_eq, not_false_eq_true, not_true_eq_false, true_and, and_true, true_or, or_true, eq_self, Option.toList_some, Option.toList_none, List.cons_append, List.nil_append, tc_0, tc_I, tc_L, tc_A, Nat.reduceAdd, Nat.reduceLeDiff, Nat.reduceEqDiff, Int.reduceEq, Int.reduceLT, Int.reduceLE, Int.reduceNeg, Int.reduceToNat, Int.cast_ofNat_Int, if_true, if_false, and_self, or_self, ite_self, bI_0, bI_1, bI_01, Bool.false_eq_true, reduceCtorEq, show ¬ (n : Int) ≤ k by omega, show ¬ (k : Int) < 0 by omega, o1, o2, hn, show 0 ≤ (k : Int) by omega, show (k : Int) < n by omega, show (k : Int) < 4096 by omega, show (k : Int) < 600 by omega, Int.toNat_natCast, hb, tkB_s (show ¬ 2 = 17 by decide), wk]
    exact ih (k + 1) (by omega)
theorem l_tkM {n : Nat} {F : Mem} (hn : g 156 3 = (n : Int)) (h6 : n ≤ 600) (hy : ∀ i : Nat, i < n → 32 ≤ g 158 i ∧ g 158 i ≤ 126) : ∀ (m k : Nat), k + m = n → VV L (d + 1) m_M_take 15 [some (tA 156), some (tI k)] [] (WW F t (tkB 157 158 g k)) Q = Q (some (tI n)) (WW F t (mset (tkB 157 158 g n) 156 1 n)) := by
  intro m
  have o3 : ∀ k, tkB 157 158 g k 156 3 = (n : Int) := fun k => by rw [tkB_o (by decide)]; exact hn
  induction m with
  | zero =>
    intro k hk
    obtain rfl : k = n := by omega
    have e : (mset (tkB 157 158 g k) 156 1 (k : Int)) 156 1 = k := by rw [rd, if_pos (by simp)]
    rw [u_M_take_15]
    simp only [u_M_take_16, u_M_take_17, u_M_take_20, u_M_take_41, u_M_take_42, u_M_take_43, u_M_take_46, u_M_take_49, u_M_take_50, u_M_take_53, h1_156, gt_156_3, gt_156_1, pt_156_1, ne_eq, not_false_eq_true, not_true_eq_false, true_and, and_true, true_or, or_true, eq_self, Option.toList_some, Option.toList_none, List.cons_append, List.nil_append, tc_0, tc_I, tc_L, tc_A, Nat.reduceAdd, Nat.reduceLeDiff, Nat.reduceEqDiff, Int.reduceEq, Int.reduceLT, Int.reduceLE, Int.reduceNeg, Int.reduceToNat, Int.cast_ofNat_Int, if_true, if_false, and_self, or_self, ite_self, bI_0, bI_1, bI_01, Bool.false_eq_true, reduceCtorEq, o3, show (k : Int) ≤ k by omega, e]
  | succ m ih =>
    intro k hk
    have wk : w32 ((k : Int) + 1) = ((k + 1 : Nat) : Int) := by rw [w32_id (by omega) (by omega)]; omega
    have o2 : ∀ j, tkB 157 158 g k 158 j = g 158 j := fun j => tkB_o (by decide)
    have hb := bm_id (hy k (by omega))
    rw [u_M_take_15]
    simp only [u_M_take_16, u_M_take_17, u_M_take_20, u_M_take_23, u_M_take_24, u_M_take_27, u_M_take_28, u_M_take_29, u_M_take_32, u_M_take_33, u_M_take_34b h1_157, u_M_take_35, u_M_take_38, h1_156, gt_156_0, gt_156_2, gt_156_3, h1_157, h2_157, gt_157, pt_157, h1_158, h2_158, gt_158, pt_158, ne_eq, not_false_eq_true, not_true_eq_false, true_and, and_true, true_or, or_true, eq_self, Option.toList_some, Option.toList_none, List.cons_append, List.nil_append, tc_0, tc_I, tc_L, tc_A, Nat.reduceAdd, Nat.reduceLeDiff, Nat.reduceEqDiff, Int.reduceEq, Int.reduceLT, Int.reduceLE, Int.reduceNeg, Int.reduceToNat, Int.cast_ofNat_Int, if_true, if_false, and_self, or_self, ite_self, bI_0, bI_1, bI_01, Bool.false_eq_true, reduceCtorEq, o3, show ¬ (n : Int) ≤ k by omega, o2, show 0 ≤ (k : Int) by omega, show (k : Int) < 12000 by omega, show (k : Int) < 600 by omega, Int.toNat_natCast, hb, tkB_s (show ¬ 157 = 158 by decide), wk]
    exact ih (k + 1) (by omega)
theorem B_take : Both tI m_T_take [some (tA 1), none, none] m_M_take [some (tA 156), none] := by
  refine Both_of (fun L d X TH f t g Q hR hQ => ?_)
  obtain ⟨l0, l1⟩ := hR.ou.l
  obtain ⟨n, hn⟩ : ∃ n : Nat, f 16 1 = (n : Int) := ⟨(f 16 1).toNat, by omega⟩
  have hn' : g 156 3 = (n : Int) := by rw [← hR.ou.n]; exact hn
  have hy := hR.ou.y
  rw [hn] at hy
  by_cases h6 : (n : Int) ≤ 600
  · have h := l_tkC (L := L) (d := d + 199) (t := t) (g := g) (Q := Q) hn (by omega) (fun i hi => (hy i (by omega)).2) n 0 (by omega)
    rw [tkB_0] at h
    have hst : VV L (d + 200) m_T_take 0 [some (tA 1), none, none] [] (WW f t g) Q = VV L (d + 199 + 1) m_T_take 20 [some (tA 1), some (tI n), some (tI ((0 : Nat) : Int))] [] (WW f t g) Q := by
      simp only [u_T_take_0, u_T_take_1, u_T_take_4, u_T_take_7, u_T_take_8, u_T_take_9, u_T_take_12, u_T_take_15, u_T_take_17, u_T_take_18, u_T_take_19, u_Pr_length_0, u_Pr_length_1, u_Pr_length_4, h1_16, gt_16_1, pt_16_1, h1_1, gt_1_5, ne_eq, not_false_eq_true, not_true_eq_false, true_and, and_true, true_or, or_true, eq_self, Option.toList_some, Option.toList_none, List.cons_append, List.nil_append, tc_0, tc_I, tc_L, tc_A, Nat.reduceAdd, Nat.reduceLeDiff, Nat.reduceEqDiff, Int.reduceEq, Int.reduceLT, Int.reduceLE, Int.reduceNeg, Int.reduceToNat, Int.cast_ofNat_Int, if_true, if_false, and_self, or_self, ite_self, bI_0, bI_1, bI_01, Bool.false_eq_true, reduceCtorEq, hn, h6]
    rw [hst, h]
    refine hQ _ _ t (fun L d Q hq => ?_)
    have h2 := l_tkM (L := L) (d := d + 199) (t := t) (Q := Q) (F := mset (tkB 2 17 f n) 1 1 n) hn' (by omega) (fun i hi => by have := hy i (by omega); rw [← this.1]; exact this.2) n 0 (by omega)
    rw [tkB_0] at h2
    have hst2 : VV L (d + 200) m_M_take 0 [some (tA 156), none] [] (WW (mset (tkB 2 17 f n) 1 1 n) t g) Q = VV L (d + 199 + 1) m_M_take 15 [some (tA 156), some (tI ((0 : Nat) : Int))] [] (WW (mset (tkB 2 17 f n) 1 1 n) t g) Q := by
      simp only [u_M_take_0, u_M_take_1, u_M_take_4, u_M_take_7, u_M_take_10, u_M_take_12, u_M_take_13, u_M_take_14, h1_156, gt_156_3, ne_eq, not_false_eq_true, not_true_eq_false, true_and, and_true, true_or, or_true, eq_self, Option.toList_some, Option.toList_none, List.cons_append, List.nil_append, tc_0, tc_I, tc_L, tc_A, Nat.reduceAdd, Nat.reduceLeDiff, Nat.reduceEqDiff, Int.reduceEq, Int.reduceLT, Int.reduceLE, Int.reduceNeg, Int.reduceToNat, Int.cast_ofNat_Int, if_true, if_false, and_self, or_self, ite_self, bI_0, bI_1, bI_01, Bool.false_eq_true, reduceCtorEq, hn', h6]
    rw [hst2, h2]
    have cO : ∀ b j, ¬ b = 2 → ¬ (b = 1 ∧ j = 1) → (mset (tkB 2 17 f n) 1 1 (n : Int)) b j = f b j := fun b j h1 h2 => by rw [rd, if_neg h2, tkB_o h1]
    have mO : ∀ b j, ¬ b = 157 → ¬ (b = 156 ∧ j = 1) → (mset (tkB 157 158 g n) 156 1 (n : Int)) b j = g b j := fun b j h1 h2 => by rw [rd, if_neg h2, tkB_o h1]
    refine hq _ ⟨X, TH, RelX_mk ⟨⟨?_, ?_, fun i hi => ?_⟩, Rtext_fr hR.tx (fun b j hh => cO b j (by omega) (by omega)) (fun b j hh => mO b j (by omega) (by omega)), Rout_fr hR.ou (fun b j hh => cO b j (by omega) (by omega)) (fun b j hh => mO b j (by omega) (by omega)), RSt_fr2 hR.st (fun b j _ _ => cO b j (by omega) (by omega)) (fun b j hh => mO b j (by omega) (by omega)), RC_fr hR.rc (hC_15 hR.st) (fun b j _ _ => cO b j (by omega) (by omega)), Rrun_fr hR.rn (fun b j hh => cO b j (by omega) (by omega)) (fun b j hh => mO b j (by omega) (by omega)), Rflt_fr hR.fl (fun b j hh => cO b j (by omega) (by omega)) (fun b j hh => mO b j (by omega) (by omega))⟩⟩ (fun j => mO 900 j (by omega) (by omega))
    · rw [rd, if_pos (by simp), rd, if_pos (by simp)]
    · rw [rd, if_pos (by simp)]; omega
    · rw [rd, if_pos (by simp)] at hi
      have hin : i < n := by omega
      rw [rd, if_neg (by omega), rd, if_neg (by omega), tkB_v hin, tkB_v hin]
      exact hy i hi
  · simp only [u_T_take_0, u_T_take_1, u_T_take_4, u_T_take_7, u_T_take_8, u_T_take_9, u_T_take_12, u_T_take_15, u_T_take_17, u_Pr_length_0, u_Pr_length_1, u_Pr_length_4, h1_16, gt_16_1, pt_16_1, h1_1, gt_1_5, ne_eq, not_false_eq_true, not_true_eq_false, true_and, and_true, true_or, or_true, eq_self, Option.toList_some, Option.toList_none, List.cons_append, List.nil_append, tc_0, tc_I, tc_L, tc_A, Nat.reduceAdd, Nat.reduceLeDiff, Nat.reduceEqDiff, Int.reduceEq, Int.reduceLT, Int.reduceLE, Int.reduceNeg, Int.reduceToNat, Int.cast_ofNat_Int, if_true, if_false, and_self, or_self, ite_self, bI_0, bI_1, bI_01, Bool.false_eq_true, reduceCtorEq, hn, h6]
    refine hQ _ _ t (RefP_0 hR (fun L d Q => ?_))
    simp only [u_M_take_0, u_M_take_1, u_M_take_4, u_M_take_7, u_M_take_10, u_M_take_12, h1_156, gt_156_3, ne_eq, not_false_eq_true, not_true_eq_false, true_and, and_true, true_or, or_true, eq_self, Option.toList_some, Option.toList_none, List.cons_append, List.nil_append, tc_0, tc_I, tc_L, tc_A, Nat.reduceAdd, Nat.reduceLeDiff, Nat.reduceEqDiff, Int.reduceEq, Int.reduceLT, Int.reduceLE, Int.reduceNeg, Int.reduceToNat, Int.cast_ofNat_Int, if_true, if_false, and_self, or_self, ite_self, bI_0, bI_1, bI_01, Bool.false_eq_true, reduceCtorEq, hn', h6]
end
