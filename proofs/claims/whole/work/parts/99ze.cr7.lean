/-! Calls: type -/
theorem o32_255 (z : Int) : o32 (fun x y => x &&& y) z 255 = z % 256 := by
  unfold o32
  have h1 : (Int32.ofInt z &&& Int32.ofInt 255).toBitVec.toNat = (z % 256).toNat := by
    rw [Int32.toBitVec_and, BitVec.toNat_and, Int32.toBitVec_ofInt, BitVec.toNat_ofInt, show (Int32.ofInt 255).toBitVec.toNat = 2 ^ 8 - 1 by decide, Nat.and_two_pow_sub_one_eq_mod]
    omega
  rw [i32_tn (by rw [h1]; omega), h1]; omega
theorem o64_255 (z : Int) : o64 (fun x y => x &&& y) z 255 = z % 256 := by
  unfold o64
  have h1 : (Int64.ofInt z &&& Int64.ofInt 255).toBitVec.toNat = (z % 256).toNat := by
    rw [Int64.toBitVec_and, BitVec.toNat_and, Int64.toBitVec_ofInt, BitVec.toNat_ofInt, show (Int64.ofInt 255).toBitVec.toNat = 2 ^ 8 - 1 by decide, Nat.and_two_pow_sub_one_eq_mod]
    omega
  rw [i64_tn (by rw [h1]; omega), h1]; omega
/-- a byte of a long -/
def btW (w : Int) (k : Nat) : Int := (w64 w / 2 ^ (8 * k)) % 256
theorem lshr_k (w : Int) (k : Nat) (hk : k < 8) : h64 (fun x y => x >>> (y.toInt64 &&& 63)) w ((8 * k : Nat) : Int) = w64 w / 2 ^ (8 * k) := by
  unfold h64
  dsimp only
  have hX : (Int64.ofInt w).toInt = w64 w := by rw [Int64.toInt_ofInt]; rfl
  have hs : ∀ k : Nat, k < 8 → ((Int32.ofInt ((8 * k : Nat) : Int)).toInt64 &&& 63).toBitVec.smod 64 = BitVec.ofNat 64 (8 * k) := by decide +kernel
  rw [← Int64.toInt_toBitVec, Int64.toBitVec_shiftRight, hs k hk, BitVec.sshiftRight_eq', BitVec.toInt_sshiftRight, Int64.toInt_toBitVec, hX, BitVec.toNat_ofNat, Nat.mod_eq_of_lt (by omega), Int.shiftRight_eq_div_pow]
  simp
theorem w64_m (w : Int) : w64 w = w % 18446744073709551616 ∨ w64 w = w % 18446744073709551616 - 18446744073709551616 := by
  unfold w64
  rw [Int.bmod_def]
  split
  · exact Or.inl rfl
  · exact Or.inr rfl
theorem lushr_k (w : Int) (k : Nat) (hk : k < 8) : h64 (fun x y => (x.toUInt64 >>> (y.toInt64.toUInt64 &&& Int64.toUInt64 63)).toInt64) w ((8 * k : Nat) : Int) % 256 = btW w k := by
  unfold h64 btW
  dsimp only
  have hs : ∀ k : Nat, k < 8 → (((Int32.ofInt ((8 * k : Nat) : Int)).toInt64.toUInt64 &&& Int64.toUInt64 63).toBitVec % 64).toNat = 8 * k := by decide +kernel
  have hb : ((Int64.ofInt w).toUInt64 >>> ((Int32.ofInt ((8 * k : Nat) : Int)).toInt64.toUInt64 &&& Int64.toUInt64 63)).toInt64.toBitVec.toNat = (w % 18446744073709551616).toNat / 2 ^ (8 * k) := by
    show ((Int64.ofInt w).toUInt64 >>> ((Int32.ofInt ((8 * k : Nat) : Int)).toInt64.toUInt64 &&& Int64.toUInt64 63)).toBitVec.toNat = _
    rw [UInt64.toBitVec_shiftRight, BitVec.ushiftRight_eq', BitVec.toNat_ushiftRight, hs k hk, Nat.shiftRight_eq_div_pow]
    have e : (Int64.ofInt w).toUInt64.toBitVec.toNat = (w % 18446744073709551616).toNat := by
      show (Int64.ofInt w).toBitVec.toNat = _
      rw [Int64.toBitVec_ofInt, BitVec.toNat_ofInt]
      rfl
    rw [e]
  generalize ((Int64.ofInt w).toUInt64 >>> ((Int32.ofInt ((8 * k : Nat) : Int)).toInt64.toUInt64 &&& Int64.toUInt64 63)).toInt64 = X at *
  have hx : X.toInt % 256 = (X.toBitVec.toNat : Int) % 256 := by
    rw [← Int64.toInt_toBitVec, BitVec.toInt_eq_toNat_cond]; split <;> omega
  rw [hx, hb]
  have hc := w64_m w
  generalize w64 w = Y at *
  clear hx hb hs X
  have h8 : k = 0 ∨ k = 1 ∨ k = 2 ∨ k = 3 ∨ k = 4 ∨ k = 5 ∨ k = 6 ∨ k = 7 := by omega
  rcases h8 with rfl | rfl | rfl | rfl | rfl | rfl | rfl | rfl <;> simp only [Nat.reduceMul, Nat.reducePow, Int.reducePow] <;> omega
theorem w32_m (z : Int) : w32 z % 256 = z % 256 := by
  have : w32 z = z % 4294967296 ∨ w32 z = z % 4294967296 - 4294967296 := by
    unfold w32
    rw [Int.bmod_def]
    split
    · exact Or.inl rfl
    · exact Or.inr rfl
  omega
theorem bm_m (z : Int) (h : 32 ≤ z % 256 ∧ z % 256 ≤ 126) : z.bmod 256 = z % 256 := by
  rw [Int.bmod_def]
  split
  · rfl
  · rename_i hh; exact absurd (show z % 256 < 128 by omega) hh
section
variable {L d : Nat} {X : Nat → Tre} {TH : Nat} {f f' t t' g g' : Mem} {Q : Option TV → Wd → Prop} {w : Int}
theorem wk8 {k : Nat} (h : k < 8) : w32 (8 * (k : Int)) = ((8 * k : Nat) : Int) := by rw [w32_id (by omega) (by omega)]; omega
theorem s_T_byteOf {k : Nat} {W : Wd} (h : k < 8) : VV L d m_T_byteOf 0 [some (tL w), none, some (tI k)] [] W Q = Q (some (tI (btW w k))) W := by
  simp only [u_T_byteOf_0, u_T_byteOf_1, u_T_byteOf_3, u_T_byteOf_4, u_T_byteOf_5, u_T_byteOf_6, u_T_byteOf_7, u_T_byteOf_10, u_T_byteOf_11, ne_eq, not_false_eq_true, not_true_eq_false, true_and, and_true, true_or, or_true, eq_self, Option.toList_some, Option.toList_none, List.cons_append, List.nil_append, tc_0, tc_I, tc_L, tc_A, Nat.reduceAdd, Nat.reduceLeDiff, Nat.reduceEqDiff, Int.reduceEq, Int.reduceLT, Int.reduceLE, Int.reduceNeg, Int.reduceToNat, Int.cast_ofNat_Int, if_true, if_false, and_self, or_self, ite_self, bI_0, bI_1, bI_01, Bool.false_eq_true, reduceCtorEq, wk8 h, o32_255, w32_m, lushr_k w k h]
theorem s_T_isPlain {z : Int} {W : Wd} : VV L d m_T_isPlain 0 [some (tI z)] [] W Q = Q (some (tI (bB (decide (32 ≤ z ∧ z ≤ 126))))) W := by
  simp only [u_T_isPlain_0, u_T_isPlain_1, u_T_isPlain_3, u_T_isPlain_6, u_T_isPlain_7, u_T_isPlain_9, u_T_isPlain_12, u_T_isPlain_13, u_T_isPlain_16, u_T_isPlain_17, h1_1, ne_eq, not_false_eq_true, not_true_eq_false, true_and, and_true, true_or, or_true, eq_self, Option.toList_some, Option.toList_none, List.cons_append, List.nil_append, tc_0, tc_I, tc_L, tc_A, Nat.reduceAdd, Nat.reduceLeDiff, Nat.reduceEqDiff, Int.reduceEq, Int.reduceLT, Int.reduceLE, Int.reduceNeg, Int.reduceToNat, Int.cast_ofNat_Int, if_true, if_false, and_self, or_self, ite_self, bI_0, bI_1, bI_01, Bool.false_eq_true, reduceCtorEq]
  simp only [bB, decide_eq_true_eq]
  (repeat' split) <;> first | rfl | omega
/-- whether the first n bytes are plain -/
def plB (w : Int) : Nat → Bool
  | 0 => true
  | k + 1 => plB w k && decide (32 ≤ btW w k ∧ btW w k ≤ 126)
theorem plB_k : ∀ (n k : Nat), plB w n = true → k < n → 32 ≤ btW w k ∧ btW w k ≤ 126 := by
  intro n
  induction n with
  | zero => intro k _ h; omega
  | succ n ih =>
    intro k h hk
    rw [plB, Bool.and_eq_true, decide_eq_true_eq] at h
    by_cases e : k = n
    · subst e; exact h.2
    · exact ih k h.1 (by omega)
theorem plB_no : ∀ (n k : Nat), k < n → ¬ (32 ≤ btW w k ∧ btW w k ≤ 126) → plB w n = false := by
  intro n
  induction n with
  | zero => intro k h; omega
  | succ n ih =>
    intro k hk h
    rw [plB]
    by_cases e : k = n
    · subst e; simp [h]
    · rw [ih k (by omega) h]; rfl
theorem l_ty1C {n : Nat} (hn : n ≤ 8) : ∀ (m k : Nat), k + m = n → plB w k = true → VV L (d + 1) m_T_type 16 [some (tA 1), some (tL w), none, some (tI n), some (tI k)] [] (WW f t g) Q = if plB w n = true then VV L (d + 1) m_T_type 42 [some (tA 1), some (tL w), none, some (tI n), some (tI n)] [] (WW f t g) Q else Q (some (tI (-1))) (WW f t g) := by
  intro m
  induction m with
  | zero =>
    intro k hk hp
    obtain rfl : k = n := by omega
    rw [if_pos hp, u_T_type_16]
    simp only [u_T_type_18, u_T_type_19, ne_eq, not_false_eq_true, not_true_eq_false, true_and, and_true, true_or, or_true, eq_self, Option.toList_some, Option.toList_none, List.cons_append, List.nil_append, tc_0, tc_I, tc_L, tc_A, Nat.reduceAdd, Nat.reduceLeDiff, Nat.reduceEqDiff, Int.reduceEq, Int.reduceLT, Int.reduceLE, Int.reduceNeg, Int.reduceToNat, Int.cast_ofNat_Int, if_true, if_false, and_self, or_self, ite_self, bI_0, bI_1, bI_01, Bool.false_eq_true, reduceCtorEq, show (k : Int) ≤ k by omega]
  | succ m ih =>
    intro k hk hp
    have hk8 : k < 8 := by omega
    have wk : w32 ((k : Int) + 1) = ((k + 1 : Nat) : Int) := by rw [w32_id (by omega) (by omega)]; omega
    rw [u_T_type_16]
    by_cases hb : 32 ≤ btW w k ∧ btW w k ≤ 126
    · simp only [u_T_type_18, u_T_type_19, u_T_type_22, u_T_type_23, u_T_type_25, u_T_type_28, u_T_type_31, u_T_type_34, u_T_type_35, u_T_type_36, u_T_type_39, ne_eq, not_false_eq_true, not_true_eq_false, true_and, and_true, true_or, or_true, eq_self, Option.toList_some, Option.toList_none, List.cons_append, List.nil_append, tc_0, tc_I, tc_L, tc_A, Nat.reduceAdd, Nat.reduceLeDiff, Nat.reduceEqDiff, Int.reduceEq, Int.reduceLT, Int.reduceLE, Int.reduceNeg, Int.reduceToNat, Int.cast_ofNat_Int, if_true, if_false, and_self, or_self, ite_self, bI_0, bI_1, bI_01, Bool.false_eq_true, reduceCtorEq, show ¬ (n : Int) ≤ k by omega, s_T_byteOf hk8, s_T_isPlain, hb, and_self, decide_true, bB_t, wk]
      exact ih (k + 1) (by omega) (by rw [plB, hp, decide_eq_true hb]; rfl)
    · rw [if_neg (by rw [plB_no n k (by omega) hb]; decide)]
      simp only [u_T_type_18, u_T_type_19, u_T_type_22, u_T_type_23, u_T_type_25, u_T_type_28, u_T_type_31, u_T_type_34, u_T_type_35, u_T_type_36, u_T_type_39, ne_eq, not_false_eq_true, not_true_eq_false, true_and, and_true, true_or, or_true, eq_self, Option.toList_some, Option.toList_none, List.cons_append, List.nil_append, tc_0, tc_I, tc_L, tc_A, Nat.reduceAdd, Nat.reduceLeDiff, Nat.reduceEqDiff, Int.reduceEq, Int.reduceLT, Int.reduceLE, Int.reduceNeg, Int.reduceToNat, Int.cast_ofNat_Int, if_true, if_false, and_self, or_self, ite_self, bI_0, bI_1, bI_01, Bool.false_eq_true, reduceCtorEq, show ¬ (n : Int) ≤ k by omega, s_T_byteOf hk8, s_T_isPlain, hb, decide_false, bB_f]
theorem l_ty1M {n : Nat} (hn : n ≤ 8) : ∀ (m k : Nat), k + m = n → plB w k = true → VV L (d + 1) m_M_type 15 [some (tA 156), some (tL w), none, some (tI n), some (tI k)] [] (WW f t g) Q = if plB w n = true then VV L (d + 1) m_M_type 51 [some (tA 156), some (tL w), none, some (tI n), some (tI n)] [] (WW f t g) Q else Q (some (tI (-1))) (WW f t g) := by
  intro m
  induction m with
  | zero =>
    intro k hk hp
    obtain rfl : k = n := by omega
    rw [if_pos hp, u_M_type_15]
    simp only [u_M_type_17, u_M_type_18, ne_eq, not_false_eq_true, not_true_eq_false, true_and, and_true, true_or, or_true, eq_self, Option.toList_some, Option.toList_none, List.cons_append, List.nil_append, tc_0, tc_I, tc_L, tc_A, Nat.reduceAdd, Nat.reduceLeDiff, Nat.reduceEqDiff, Int.reduceEq, Int.reduceLT, Int.reduceLE, Int.reduceNeg, Int.reduceToNat, Int.cast_ofNat_Int, if_true, if_false, and_self, or_self, ite_self, bI_0, bI_1, bI_01, Bool.false_eq_true, reduceCtorEq, show (k : Int) ≤ k by omega]
  | succ m ih =>
    intro k hk hp
    have hk8 : k < 8 := by omega
    have wk : w32 ((k : Int) + 1) = ((k + 1 : Nat) : Int) := by rw [w32_id (by omega) (by omega)]; omega
    have hbt : w64 w / 2 ^ (8 * k) % 256 = btW w k := rfl
    have hr : 0 ≤ btW w k ∧ btW w k < 256 := by unfold btW; omega
    have wb : w32 (btW w k) = btW w k := w32_id (by omega) (by omega)
    rw [u_M_type_15]
    by_cases hb : 32 ≤ btW w k ∧ btW w k ≤ 126
    · simp only [u_M_type_17, u_M_type_18, u_M_type_21, u_M_type_22, u_M_type_24, u_M_type_26, u_M_type_27, u_M_type_28, u_M_type_31, u_M_type_32, u_M_type_33, u_M_type_35, u_M_type_37, u_M_type_40, u_M_type_43, u_M_type_44, u_M_type_45, u_M_type_48, ne_eq, not_false_eq_true, not_true_eq_false, true_and, and_true, true_or, or_true, eq_self, Option.toList_some, Option.toList_none, List.cons_append, List.nil_append, tc_0, tc_I, tc_L, tc_A, Nat.reduceAdd, Nat.reduceLeDiff, Nat.reduceEqDiff, Int.reduceEq, Int.reduceLT, Int.reduceLE, Int.reduceNeg, Int.reduceToNat, Int.cast_ofNat_Int, if_true, if_false, and_self, or_self, ite_self, bI_0, bI_1, bI_01, Bool.false_eq_true, reduceCtorEq, show ¬ (n : Int) ≤ k by omega, wk8 hk8, lshr_k w k hk8, o64_255, hbt, wb, s_M_in, hb, and_self, decide_true, bB_t, wk]
      exact ih (k + 1) (by omega) (by rw [plB, hp, decide_eq_true hb]; rfl)
    · rw [if_neg (by rw [plB_no n k (by omega) hb]; decide)]
      simp only [u_M_type_17, u_M_type_18, u_M_type_21, u_M_type_22, u_M_type_24, u_M_type_26, u_M_type_27, u_M_type_28, u_M_type_31, u_M_type_32, u_M_type_33, u_M_type_35, u_M_type_37, u_M_type_40, u_M_type_43, u_M_type_44, u_M_type_45, u_M_type_48, ne_eq, not_false_eq_true, not_true_eq_false, true_and, and_true, true_or, or_true, eq_self, Option.toList_some, Option.toList_none, List.cons_append, List.nil_append, tc_0, tc_I, tc_L, tc_A, Nat.reduceAdd, Nat.reduceLeDiff, Nat.reduceEqDiff, Int.reduceEq, Int.reduceLT, Int.reduceLE, Int.reduceNeg, Int.reduceToNat, Int.cast_ofNat_Int, if_true, if_false, and_self, or_self, ite_self, bI_0, bI_1, bI_01, Bool.false_eq_true, reduceCtorEq, show ¬ (n : Int) ≤ k by omega, wk8 hk8, lshr_k w k hk8, o64_255, hbt, wb, s_M_in, hb, decide_false, bB_f]
/-- the tape behind m bytes -/
def tyC (a e : Nat) (f : Mem) (w : Int) (n s m : Nat) : Mem := fun b j => if b = a ∧ s ≤ j ∧ j < s + m then btW w (n - 1 - (j - s)) else if b = e ∧ j = 1 then ((s + m : Nat) : Int) else f b j
theorem tyC_s {a e n s m : Nat} (h : ¬ a = e) : mset (mset (tyC a e f w n s m) e 1 ((s + m + 1 : Nat) : Int)) a (s + m) (btW w (n - 1 - m)) = tyC a e f w n s (m + 1) := by
  funext b j; simp only [mset, tyC]; grind
theorem tyC_s2 {a e n s m : Nat} (h : ¬ a = e) : mset (mset (tyC a e f w n s m) a (s + m) (btW w (n - 1 - m))) e 1 ((s + m + 1 : Nat) : Int) = tyC a e f w n s (m + 1) := by
  funext b j; simp only [mset, tyC]; grind
theorem tyC_0 {a e n s : Nat} (h : f e 1 = (s : Int)) : tyC a e f w n s 0 = f := by
  funext b j; simp only [tyC]
  rw [if_neg (by omega)]
  by_cases hb : b = e ∧ j = 1
  · rw [if_pos hb, hb.1, hb.2, h]; rfl
  · rw [if_neg hb]
theorem tyC_e {a e n s m : Nat} (h : ¬ a = e) : tyC a e f w n s m e 1 = ((s + m : Nat) : Int) := by
  unfold tyC; rw [if_neg (by omega), if_pos ⟨rfl, rfl⟩]
theorem bt_b {k : Nat} (h : 32 ≤ btW w k ∧ btW w k ≤ 126) : (btW w k).bmod 256 = btW w k := by
  have : btW w k % 256 = btW w k := by omega
  rw [bm_m _ (by rw [this]; exact h), this]
theorem bt_b2 {k : Nat} (h : 32 ≤ btW w k ∧ btW w k ≤ 126) : (w32 (w64 w / 2 ^ (8 * k))).bmod 256 = btW w k := by
  have : w32 (w64 w / 2 ^ (8 * k)) % 256 = btW w k := by rw [w32_m]; rfl
  rw [bm_m _ (by rw [this]; exact h), this]
theorem ar_ty {n s m q : Nat} (hn : n ≤ 8) (hs : s + n ≤ 600) (hm : m + (q + 1) = n) : ((n : Int) - 1 - m) = ((n - 1 - m : Nat) : Int) ∧ ¬ ((n - 1 - m : Nat) : Int) < 0 ∧ n - 1 - m < 8 ∧ n - 1 - m < n ∧ w32 (((n - 1 - m : Nat) : Int) + -1) = (n : Int) - 1 - ((m + 1 : Nat) : Int) ∧ w32 (((s + m : Nat) : Int) + 1) = ((s + m + 1 : Nat) : Int) ∧ (0 : Int) ≤ ((s + m : Nat) : Int) ∧ ((s + m : Nat) : Int) < 600 := by
  refine ⟨by omega, by omega, by omega, by omega, ?_, ?_, by omega, by omega⟩ <;> rw [w32_id (by omega) (by omega)] <;> omega
theorem l_ty2C {n s : Nat} (hn : n ≤ 8) (hs : s + n ≤ 600) (hp : plB w n = true) : ∀ (q m : Nat), m + q = n → VV L (d + 1) m_T_type 62 [some (tA 1), some (tL w), none, some (tI n), some (tI ((n : Int) - 1 - m))] [] (WW (tyC 2 1 f w n s m) t g) Q = Q (some (tI ((s + n : Nat) : Int))) (WW (tyC 2 1 f w n s n) t g) := by
  intro q
  induction q with
  | zero =>
    intro m hm
    obtain rfl : m = n := by omega
    rw [u_T_type_62]
    simp only [u_T_type_64, u_T_type_96, u_T_type_97, u_T_type_100, h1_1, gt_1_1, ne_eq, not_false_eq_true, not_true_eq_false, true_and, and_true, true_or, or_true, eq_self, Option.toList_some, Option.toList_none, List.cons_append, List.nil_append, tc_0, tc_I, tc_L, tc_A, Nat.reduceAdd, Nat.reduceLeDiff, Nat.reduceEqDiff, Int.reduceEq, Int.reduceLT, Int.reduceLE, Int.reduceNeg, Int.reduceToNat, Int.cast_ofNat_Int, if_true, if_false, and_self, or_self, ite_self, bI_0, bI_1, bI_01, Bool.false_eq_true, reduceCtorEq, show (m : Int) - 1 - m < 0 by omega, tyC_e (show ¬ 2 = 1 by decide)]
  | succ q ih =>
    intro m hm
    obtain ⟨e1, e2, e3, e4, e5, e6, e7, e8⟩ := ar_ty hn hs hm
    have hb := plB_k n (n - 1 - m) hp e4
    have ih' := ih (m + 1) (by omega)
    rw [u_T_type_62, e1]
    simp only [u_T_type_64, u_T_type_67, u_T_type_68, u_T_type_71, u_T_type_72, u_T_type_73, u_T_type_76, u_T_type_77, u_T_type_78, u_T_type_79, u_T_type_82, u_T_type_83, u_T_type_85, u_T_type_88, u_T_type_89b h1_2, u_T_type_90, u_T_type_93, h1_1, gt_1_0, gt_1_1, pt_1_1, h1_2, h2_2, gt_2, pt_2, ne_eq, not_false_eq_true, not_true_eq_false, true_and, and_true, true_or, or_true, eq_self, Option.toList_some, Option.toList_none, List.cons_append, List.nil_append, tc_0, tc_I, tc_L, tc_A, Nat.reduceAdd, Nat.reduceLeDiff, Nat.reduceEqDiff, Int.reduceEq, Int.reduceLT, Int.reduceLE, Int.reduceNeg, Int.reduceToNat, Int.cast_ofNat_Int, if_true, if_false, and_self, or_self, ite_self, bI_0, bI_1, bI_01, Bool.false_eq_true, reduceCtorEq, e2, tyC_e (show ¬ 2 = 1 by decide), e6, s_T_byteOf e3, bt_b hb, e7, e8, Int.toNat_natCast, tyC_s (show ¬ 2 = 1 by decide), e5]
    exact ih'
theorem l_ty2M {n s : Nat} {F : Mem} (hn : n ≤ 8) (hs : s + n ≤ 600) (hp : plB w n = true) : ∀ (q m : Nat), m + q = n → VV L (d + 1) m_M_type 71 [some (tA 156), some (tL w), none, some (tI n), some (tI ((n : Int) - 1 - m))] [] (WW F t (tyC 157 156 g w n s m)) Q = Q (some (tI ((s + n : Nat) : Int))) (WW F t (tyC 157 156 g w n s n)) := by
  intro q
  induction q with
  | zero =>
    intro m hm
    obtain rfl : m = n := by omega
    rw [u_M_type_71]
    simp only [u_M_type_73, u_M_type_110, u_M_type_111, u_M_type_114, h1_156, gt_156_1, ne_eq, not_false_eq_true, not_true_eq_false, true_and, and_true, true_or, or_true, eq_self, Option.toList_some, Option.toList_none, List.cons_append, List.nil_append, tc_0, tc_I, tc_L, tc_A, Nat.reduceAdd, Nat.reduceLeDiff, Nat.reduceEqDiff, Int.reduceEq, Int.reduceLT, Int.reduceLE, Int.reduceNeg, Int.reduceToNat, Int.cast_ofNat_Int, if_true, if_false, and_self, or_self, ite_self, bI_0, bI_1, bI_01, Bool.false_eq_true, reduceCtorEq, show (m : Int) - 1 - m < 0 by omega, tyC_e (show ¬ 157 = 156 by decide)]
  | succ q ih =>
    intro m hm
    obtain ⟨e1, e2, e3, e4, e5, e6, e7, e8⟩ := ar_ty hn hs hm
    have hb := plB_k n (n - 1 - m) hp e4
    have ih' := ih (m + 1) (by omega)
    have ee : ∀ v, (mset (tyC 157 156 g w n s m) 157 (s + m) v) 156 1 = ((s + m : Nat) : Int) := fun v => by rw [rd, if_neg (by omega), tyC_e (by decide)]
    rw [u_M_type_71, e1]
    simp only [u_M_type_73, u_M_type_76, u_M_type_77, u_M_type_80, u_M_type_81, u_M_type_84, u_M_type_85, u_M_type_87, u_M_type_89, u_M_type_90, u_M_type_91, u_M_type_92, u_M_type_93b h1_157, u_M_type_94, u_M_type_95, u_M_type_96, u_M_type_99, u_M_type_100, u_M_type_101, u_M_type_104, u_M_type_107, h1_156, gt_156_0, gt_156_1, pt_156_1, h1_157, h2_157, gt_157, pt_157, ne_eq, not_false_eq_true, not_true_eq_false, true_and, and_true, true_or, or_true, eq_self, Option.toList_some, Option.toList_none, List.cons_append, List.nil_append, tc_0, tc_I, tc_L, tc_A, Nat.reduceAdd, Nat.reduceLeDiff, Nat.reduceEqDiff, Int.reduceEq, Int.reduceLT, Int.reduceLE, Int.reduceNeg, Int.reduceToNat, Int.cast_ofNat_Int, if_true, if_false, and_self, or_self, ite_self, bI_0, bI_1, bI_01, Bool.false_eq_true, reduceCtorEq, e2, tyC_e (show ¬ 157 = 156 by decide), ee, e6, wk8 e3, lshr_k w _ e3, bt_b2 hb, bt_b hb, e7, e8, Int.toNat_natCast, tyC_s2 (show ¬ 157 = 156 by decide), e5]
    exact ih'
theorem tyC_o {a e n s m b j : Nat} (h : ¬ b = a) (h' : ¬ (b = e ∧ j = 1)) : tyC a e f w n s m b j = f b j := by
  unfold tyC; rw [if_neg (fun hh => h hh.1), if_neg h']
theorem tyC_v {a e n s m j : Nat} (h : ¬ a = e) : tyC a e f w n s m a j = if s ≤ j ∧ j < s + m then btW w (n - 1 - (j - s)) else f a j := by
  unfold tyC
  by_cases hh : s ≤ j ∧ j < s + m
  · rw [if_pos ⟨rfl, hh⟩, if_pos hh]
  · rw [if_neg (fun h => hh h.2), if_neg (fun h' => h h'.1), if_neg hh]
theorem Rel_type {n s : Nat} (hR : RelX X TH f t g) (hs : f 1 1 = (s : Int)) (hsn : s + n ≤ 600) (hp : plB w n = true) : RelX X TH (tyC 2 1 f w n s n) t (tyC 157 156 g w n s n) := by
  refine RelX_mk ⟨⟨?_, ?_, fun i hi => ?_⟩, Rtext_fr hR.tx (fun b j hh => tyC_o (by omega) (by omega)) (fun b j hh => tyC_o (by omega) (by omega)), Rout_fr hR.ou (fun b j hh => tyC_o (by omega) (by omega)) (fun b j hh => tyC_o (by omega) (by omega)), RSt_fr2 hR.st (fun b j _ _ => tyC_o (by omega) (by omega)) (fun b j hh => tyC_o (by omega) (by omega)), RC_fr hR.rc (hC_15 hR.st) (fun b j _ _ => tyC_o (by omega) (by omega)), Rrun_fr hR.rn (fun b j hh => tyC_o (by omega) (by omega)) (fun b j hh => tyC_o (by omega) (by omega)), Rflt_fr hR.fl (fun b j hh => tyC_o (by omega) (by omega)) (fun b j hh => tyC_o (by omega) (by omega))⟩
  · rw [tyC_e (by decide), tyC_e (by decide)]
  · rw [tyC_e (by decide)]; omega
  · rw [tyC_e (by decide)] at hi
    rw [tyC_v (by decide), tyC_v (by decide)]
    by_cases h : s ≤ i ∧ i < s + n
    · rw [if_pos h, if_pos h]
      exact ⟨rfl, plB_k n _ hp (by omega)⟩
    · rw [if_neg h, if_neg h]
      exact hR.tp.y i (by omega)
theorem B_type {n : Int} : Both tI m_T_type [some (tA 1), some (tL w), none, some (tI n), none] m_M_type [some (tA 156), some (tL w), none, some (tI n), none] := by
  refine Both_of (fun L d X TH f t g Q hR hQ => ?_)
  by_cases hn : 1 ≤ n ∧ n ≤ 8
  · obtain ⟨N, rfl⟩ : ∃ m : Nat, n = (m : Int) := ⟨n.toNat, by omega⟩
    have n1 : ¬ (N : Int) < 1 := by omega
    have n2 := hn.2
    have n8 : N ≤ 8 := by omega
    have hl := l_ty1C (L := L) (d := d + 199) (f := f) (t := t) (g := g) (Q := Q) (w := w) n8 N 0 (by omega) rfl
    have hst : VV L (d + 200) m_T_type 0 [some (tA 1), some (tL w), none, some (tI N), none] [] (WW f t g) Q = VV L (d + 199 + 1) m_T_type 16 [some (tA 1), some (tL w), none, some (tI N), some (tI ((0 : Nat) : Int))] [] (WW f t g) Q := by
      simp only [u_T_type_0, u_T_type_1, u_T_type_2, u_T_type_5, u_T_type_6, u_T_type_8, u_T_type_11, u_T_type_12, u_T_type_13, u_T_type_14, ne_eq, not_false_eq_true, not_true_eq_false, true_and, and_true, true_or, or_true, eq_self, Option.toList_some, Option.toList_none, List.cons_append, List.nil_append, tc_0, tc_I, tc_L, tc_A, Nat.reduceAdd, Nat.reduceLeDiff, Nat.reduceEqDiff, Int.reduceEq, Int.reduceLT, Int.reduceLE, Int.reduceNeg, Int.reduceToNat, Int.cast_ofNat_Int, if_true, if_false, and_self, or_self, ite_self, bI_0, bI_1, bI_01, Bool.false_eq_true, reduceCtorEq, n1, n2]
    rw [hst, hl]
    have hstM : ∀ (L d : Nat) (F : Mem) (Q : Option TV → Wd → Prop), VV L (d + 200) m_M_type 0 [some (tA 156), some (tL w), none, some (tI N), none] [] (WW F t g) Q = if plB w N = true then VV L (d + 199 + 1) m_M_type 51 [some (tA 156), some (tL w), none, some (tI N), some (tI N)] [] (WW F t g) Q else Q (some (tI (-1))) (WW F t g) := by
      intro L d F Q
      rw [← l_ty1M (L := L) (d := d + 199) (f := F) (t := t) (g := g) (Q := Q) (w := w) n8 N 0 (by omega) rfl]
      simp only [u_M_type_0, u_M_type_1, u_M_type_2, u_M_type_4, u_M_type_7, u_M_type_10, u_M_type_11, u_M_type_12, u_M_type_13, ne_eq, not_false_eq_true, not_true_eq_false, true_and, and_true, true_or, or_true, eq_self, Option.toList_some, Option.toList_none, List.cons_append, List.nil_append, tc_0, tc_I, tc_L, tc_A, Nat.reduceAdd, Nat.reduceLeDiff, Nat.reduceEqDiff, Int.reduceEq, Int.reduceLT, Int.reduceLE, Int.reduceNeg, Int.reduceToNat, Int.cast_ofNat_Int, if_true, if_false, and_self, or_self, ite_self, bI_0, bI_1, bI_01, Bool.false_eq_true, reduceCtorEq, s_M_in, hn, and_self, decide_true, bB_t]
    by_cases hp : plB w N = true
    · rw [if_pos hp]
      obtain ⟨l0, l6⟩ := hR.tp.l
      obtain ⟨s, hs⟩ : ∃ s : Nat, f 1 1 = (s : Int) := ⟨(f 1 1).toNat, by omega⟩
      have hs' : g 156 1 = (s : Int) := by rw [← hR.tp.n]; exact hs
      have ws : w32 ((s : Int) + N) = s + N := w32_id (by omega) (by omega)
      have wn : w32 ((N : Int) - 1) = N - 1 - ((0 : Nat) : Int) := by rw [w32_id (by omega) (by omega)]; omega
      by_cases h6 : (s : Int) + N ≤ 600
      · have hsn : s + N ≤ 600 := by omega
        have h2 := l_ty2C (L := L) (d := d + 199) (f := f) (t := t) (g := g) (Q := Q) (w := w) n8 hsn hp N 0 (by omega)
        rw [tyC_0 hs] at h2
        simp only [u_T_type_42, u_T_type_43, u_T_type_46, u_T_type_47, u_T_type_48, u_T_type_51, u_T_type_54, u_T_type_56, u_T_type_57, u_T_type_58, u_T_type_59, u_T_type_60, h1_1, gt_1_1, ne_eq, not_false_eq_true, not_true_eq_false, true_and, and_true, true_or, or_true, eq_self, Option.toList_some, Option.toList_none, List.cons_append, List.nil_append, tc_0, tc_I, tc_L, tc_A, Nat.reduceAdd, Nat.reduceLeDiff, Nat.reduceEqDiff, Int.reduceEq, Int.reduceLT, Int.reduceLE, Int.reduceNeg, Int.reduceToNat, Int.cast_ofNat_Int, if_true, if_false, and_self, or_self, ite_self, bI_0, bI_1, bI_01, Bool.false_eq_true, reduceCtorEq, hs, ws, h6, wn]
        have h2' : VV L (d + 199 + 1) m_T_type 62 [some (tA 1), some (tL w), none, some (tI N), some (tI ((N : Int) - 1 - 0))] [] (WW f t g) Q = _ := h2
        rw [h2']
        refine hQ _ _ t (fun L d Q hq => ?_)
        have h3 := l_ty2M (L := L) (d := d + 199) (F := tyC 2 1 f w N s N) (t := t) (g := g) (Q := Q) (w := w) n8 hsn hp N 0 (by omega)
        rw [tyC_0 hs'] at h3
        rw [hstM, if_pos hp]
        simp only [u_M_type_51, u_M_type_52, u_M_type_55, u_M_type_56, u_M_type_57, u_M_type_60, u_M_type_63, u_M_type_65, u_M_type_66, u_M_type_67, u_M_type_68, u_M_type_69, h1_156, gt_156_1, ne_eq, not_false_eq_true, not_true_eq_false, true_and, and_true, true_or, or_true, eq_self, Option.toList_some, Option.toList_none, List.cons_append, List.nil_append, tc_0, tc_I, tc_L, tc_A, Nat.reduceAdd, Nat.reduceLeDiff, Nat.reduceEqDiff, Int.reduceEq, Int.reduceLT, Int.reduceLE, Int.reduceNeg, Int.reduceToNat, Int.cast_ofNat_Int, if_true, if_false, and_self, or_self, ite_self, bI_0, bI_1, bI_01, Bool.false_eq_true, reduceCtorEq, hs', ws, h6, wn]
        have h3' : VV L (d + 199 + 1) m_M_type 71 [some (tA 156), some (tL w), none, some (tI N), some (tI ((N : Int) - 1 - 0))] [] (WW (tyC 2 1 f w N s N) t g) Q = _ := h3
        rw [h3']
        exact hq _ ⟨X, TH, Rel_type hR hs hsn hp⟩ (fun j => tyC_o (by omega) (by omega))
      · simp only [u_T_type_42, u_T_type_43, u_T_type_46, u_T_type_47, u_T_type_48, u_T_type_51, u_T_type_54, u_T_type_56, h1_1, gt_1_1, ne_eq, not_false_eq_true, not_true_eq_false, true_and, and_true, true_or, or_true, eq_self, Option.toList_some, Option.toList_none, List.cons_append, List.nil_append, tc_0, tc_I, tc_L, tc_A, Nat.reduceAdd, Nat.reduceLeDiff, Nat.reduceEqDiff, Int.reduceEq, Int.reduceLT, Int.reduceLE, Int.reduceNeg, Int.reduceToNat, Int.cast_ofNat_Int, if_true, if_false, and_self, or_self, ite_self, bI_0, bI_1, bI_01, Bool.false_eq_true, reduceCtorEq, hs, ws, h6]
        refine hQ _ _ t (RefP_0 hR (fun L d Q => ?_))
        rw [hstM, if_pos hp]
        simp only [u_M_type_51, u_M_type_52, u_M_type_55, u_M_type_56, u_M_type_57, u_M_type_60, u_M_type_63, u_M_type_65, h1_156, gt_156_1, ne_eq, not_false_eq_true, not_true_eq_false, true_and, and_true, true_or, or_true, eq_self, Option.toList_some, Option.toList_none, List.cons_append, List.nil_append, tc_0, tc_I, tc_L, tc_A, Nat.reduceAdd, Nat.reduceLeDiff, Nat.reduceEqDiff, Int.reduceEq, Int.reduceLT, Int.reduceLE, Int.reduceNeg, Int.reduceToNat, Int.cast_ofNat_Int, if_true, if_false, and_self, or_self, ite_self, bI_0, bI_1, bI_01, Bool.false_eq_true, reduceCtorEq, hs', ws, h6]
    · rw [if_neg hp]
      refine hQ _ _ t (RefP_0 hR (fun L d Q => ?_))
      rw [hstM, if_neg hp]
  · have hst : VV L (d + 200) m_T_type 0 [some (tA 1), some (tL w), none, some (tI n), none] [] (WW f t g) Q = Q (some (tI (-1))) (WW f t g) := by
      by_cases n1 : n < 1
      · simp only [u_T_type_0, u_T_type_1, u_T_type_2, u_T_type_5, u_T_type_6, u_T_type_8, u_T_type_11, u_T_type_12, ne_eq, not_false_eq_true, not_true_eq_false, true_and, and_true, true_or, or_true, eq_self, Option.toList_some, Option.toList_none, List.cons_append, List.nil_append, tc_0, tc_I, tc_L, tc_A, Nat.reduceAdd, Nat.reduceLeDiff, Nat.reduceEqDiff, Int.reduceEq, Int.reduceLT, Int.reduceLE, Int.reduceNeg, Int.reduceToNat, Int.cast_ofNat_Int, if_true, if_false, and_self, or_self, ite_self, bI_0, bI_1, bI_01, Bool.false_eq_true, reduceCtorEq, n1]
      · simp only [u_T_type_0, u_T_type_1, u_T_type_2, u_T_type_5, u_T_type_6, u_T_type_8, u_T_type_11, u_T_type_12, ne_eq, not_false_eq_true, not_true_eq_false, true_and, and_true, true_or, or_true, eq_self, Option.toList_some, Option.toList_none, List.cons_append, List.nil_append, tc_0, tc_I, tc_L, tc_A, Nat.reduceAdd, Nat.reduceLeDiff, Nat.reduceEqDiff, Int.reduceEq, Int.reduceLT, Int.reduceLE, Int.reduceNeg, Int.reduceToNat, Int.cast_ofNat_Int, if_true, if_false, and_self, or_self, ite_self, bI_0, bI_1, bI_01, Bool.false_eq_true, reduceCtorEq, n1, show ¬ n ≤ 8 by omega]
    rw [hst]
    refine hQ _ _ t (RefP_0 hR (fun L d Q => ?_))
    simp only [u_M_type_0, u_M_type_1, u_M_type_2, u_M_type_4, u_M_type_7, u_M_type_10, u_M_type_11, ne_eq, not_false_eq_true, not_true_eq_false, true_and, and_true, true_or, or_true, eq_self, Option.toList_some, Option.toList_none, List.cons_append, List.nil_append, tc_0, tc_I, tc_L, tc_A, Nat.reduceAdd, Nat.reduceLeDiff, Nat.reduceEqDiff, Int.reduceEq, Int.reduceLT, Int.reduceLE, Int.reduceNeg, Int.reduceToNat, Int.cast_ofNat_Int, if_true, if_false, and_self, or_self, ite_self, bI_0, bI_1, bI_01, Bool.false_eq_true, reduceCtorEq, s_M_in, hn, decide_false, bB_f]
end
