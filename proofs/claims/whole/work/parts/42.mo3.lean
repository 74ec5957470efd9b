/-! The reference's lexer: look -/
def lk5 (g : Mem) (a p s w h : Int) : Mem := mset (mset (mset (mset (mset g 156 4 a) 156 5 p) 156 6 s) 156 7 w) 156 8 h
section
variable {g : Mem} {a p s w h v : Int} {j c : Nat}
theorem lk_4 : lk5 g a p s w h 156 4 = a := rfl
theorem lk_5 : lk5 g a p s w h 156 5 = p := rfl
theorem lk_6 : lk5 g a p s w h 156 6 = s := rfl
theorem lk_7 : lk5 g a p s w h 156 7 = w := rfl
theorem lk_8 : lk5 g a p s w h 156 8 = h := rfl
theorem lk_1 : lk5 g a p s w h 156 1 = g 156 1 := rfl
theorem lk_157 : lk5 g a p s w h 157 j = g 157 j := by simp [lk5, rd]
theorem lk_w4 : mset (lk5 g a p s w h) 156 4 v = lk5 g v p s w h := by funext b j; simp only [lk5, rd]; grind
theorem lk_w5 : mset (lk5 g a p s w h) 156 5 v = lk5 g a v s w h := by funext b j; simp only [lk5, rd]; grind
theorem lk_w6 : mset (lk5 g a p s w h) 156 6 v = lk5 g a p v w h := by funext b j; simp only [lk5, rd]; grind
theorem lk_w7 : mset (lk5 g a p s w h) 156 7 v = lk5 g a p s v h := by funext b j; simp only [lk5, rd]; grind
theorem lk_w8 : mset (lk5 g a p s w h) 156 8 v = lk5 g a p s w v := by funext b j; simp only [lk5, rd]; grind
theorem lk_id : lk5 g (g 156 4) (g 156 5) (g 156 6) (g 156 7) (g 156 8) = g := by funext b j; simp only [lk5, rd]; grind
theorem lk_y : ym (lk5 g a p s w h) = ym g := by funext i; unfold ym; rw [lk_1, lk_157]
end
/-- sort and which, of the class's tokens -/
def srt (c : Int) : Int := if c < 0 then 2 else if kName c = true then 1 else if kRow c = true then 3 else if kStk c = true then 4 else if 200 ≤ c ∧ c ≤ 221 then 5 else if 128 ≤ c ∧ c ≤ 133 then 6 else if c ≤ 1 ∨ (65 ≤ c ∧ c ≤ 90) then 0 else 7
def whc (c : Int) : Int := if c < 0 then -1 - c else if kName c = true then c - 97 else if kRow c = true then c - 65 else if kStk c = true then c - 83 else if 200 ≤ c ∧ c ≤ 221 then c - 200 else if c = 130 then 4 else if c = 131 then 5 else if c = 132 then 2 else if c = 133 then 3 else if 128 ≤ c ∧ c ≤ 129 then c - 128 else if c = 1 then -1 else if 65 ≤ c ∧ c ≤ 90 then 0 else c
section
variable {L d : Nat} {f t g : Mem} {Q : Option TV → Wd → Prop} {pl so wh ah c n : Int}
theorem l_look0 (hn : g 156 1 ≤ 600) (hn' : n = g 156 1) : ∀ (m : Nat) (i : Int), 0 ≤ i → i ≤ n → n - i ≤ m → VV L (d + 3) m_M_look 0 [some (tA 156), none, none] [] (WW f t (lk5 g i pl so wh ah)) Q = VV L (d + 3) m_M_look 26 [some (tA 156), none, none] [] (WW f t (lk5 g (spF (fun c => decide (c = 32)) (ym g) m i) pl so wh ah)) Q := by
  intro m
  induction m with
  | zero =>
    intro i h0 h1 h2
    have hy : ym g i = 0 := by unfold ym; rw [if_neg (by omega)]
    rw [u_M_look_0]
    simp only [u_M_look_1, u_M_look_2, u_M_look_5, u_M_look_8, u_M_look_10, u_M_look_13, u_M_look_14, u_M_look_15, u_M_look_18, u_M_look_19, u_M_look_20, u_M_look_23, ne_eq, not_false_eq_true, not_true_eq_false, true_and, and_true, true_or, or_true, eq_self, Option.toList_some, Option.toList_none, List.cons_append, List.nil_append, tc_0, tc_I, tc_L, tc_A, Nat.reduceAdd, Nat.reduceLeDiff, Nat.reduceEqDiff, Int.reduceEq, Int.reduceLT, Int.reduceLE, Int.reduceNeg, Int.reduceToNat, Int.cast_ofNat_Int, if_true, if_false, and_self, or_self, ite_self, bI_0, bI_1, bI_01, Bool.false_eq_true, reduceCtorEq, h1_156, gt_156_4, lk_4, s_M_here (g := lk5 g i pl so wh ah) (i := i) (by rw [lk_1]; exact hn) h0, lk_y, hy, spF]
  | succ m ih =>
    intro i h0 h1 h2
    rw [u_M_look_0]
    simp only [u_M_look_1, u_M_look_2, u_M_look_5, u_M_look_8, u_M_look_10, u_M_look_13, u_M_look_14, u_M_look_15, u_M_look_18, u_M_look_19, u_M_look_20, u_M_look_23, ne_eq, not_false_eq_true, not_true_eq_false, true_and, and_true, true_or, or_true, eq_self, Option.toList_some, Option.toList_none, List.cons_append, List.nil_append, tc_0, tc_I, tc_L, tc_A, Nat.reduceAdd, Nat.reduceLeDiff, Nat.reduceEqDiff, Int.reduceEq, Int.reduceLT, Int.reduceLE, Int.reduceNeg, Int.reduceToNat, Int.cast_ofNat_Int, if_true, if_false, and_self, or_self, ite_self, bI_0, bI_1, bI_01, Bool.false_eq_true, reduceCtorEq, h1_156, gt_156_4, pt_156_4, lk_4, lk_w4, s_M_here (g := lk5 g i pl so wh ah) (i := i) (by rw [lk_1]; exact hn) h0, lk_y, spF, decide_eq_true_eq]
    by_cases h : ym g i = 32
    · have hlt : i < n := by
        by_cases hlt : i < n
        · exact hlt
        · rw [show ym g i = 0 by unfold ym; rw [if_neg (by omega)]] at h; omega
      simp only [h, ne_eq, not_false_eq_true, not_true_eq_false, true_and, and_true, true_or, or_true, eq_self, Option.toList_some, Option.toList_none, List.cons_append, List.nil_append, tc_0, tc_I, tc_L, tc_A, Nat.reduceAdd, Nat.reduceLeDiff, Nat.reduceEqDiff, Int.reduceEq, Int.reduceLT, Int.reduceLE, Int.reduceNeg, Int.reduceToNat, Int.cast_ofNat_Int, if_true, if_false, and_self, or_self, ite_self, bI_0, bI_1, bI_01, Bool.false_eq_true, reduceCtorEq, w32_id (show (-2147483648 : Int) ≤ i + 1 by omega) (show i + 1 < (2147483648 : Int) by omega), ih (i + 1) (by omega) (by omega) (by omega)]
    · simp only [h, ne_eq, not_false_eq_true, not_true_eq_false, true_and, and_true, true_or, or_true, eq_self, Option.toList_some, Option.toList_none, List.cons_append, List.nil_append, tc_0, tc_I, tc_L, tc_A, Nat.reduceAdd, Nat.reduceLeDiff, Nat.reduceEqDiff, Int.reduceEq, Int.reduceLT, Int.reduceLE, Int.reduceNeg, Int.reduceToNat, Int.cast_ofNat_Int, if_true, if_false, and_self, or_self, ite_self, bI_0, bI_1, bI_01, Bool.false_eq_true, reduceCtorEq]
theorem l_look85 {at_ : Int} (hn : g 156 1 ≤ 600) (hn' : n = g 156 1) : ∀ (m : Nat) (i : Int), 0 ≤ i → i ≤ n → n - i ≤ m → VV L (d + 3) m_M_look 85 [some (tA 156), some (tI c), none] [] (WW f t (lk5 g at_ pl so wh i)) Q = VV L (d + 3) m_M_look 112 [some (tA 156), some (tI c), none] [] (WW f t (lk5 g at_ pl so wh (spF kName (ym g) m i))) Q := by
  intro m
  induction m with
  | zero =>
    intro i h0 h1 h2
    have hy : ym g i = 0 := by unfold ym; rw [if_neg (by omega)]
    rw [u_M_look_85]
    simp only [u_M_look_86, u_M_look_87, u_M_look_90, u_M_look_93, u_M_look_96, u_M_look_99, u_M_look_100, u_M_look_101, u_M_look_104, u_M_look_105, u_M_look_106, u_M_look_109, ne_eq, not_false_eq_true, not_true_eq_false, true_and, and_true, true_or, or_true, eq_self, Option.toList_some, Option.toList_none, List.cons_append, List.nil_append, tc_0, tc_I, tc_L, tc_A, Nat.reduceAdd, Nat.reduceLeDiff, Nat.reduceEqDiff, Int.reduceEq, Int.reduceLT, Int.reduceLE, Int.reduceNeg, Int.reduceToNat, Int.cast_ofNat_Int, if_true, if_false, and_self, or_self, ite_self, bI_0, bI_1, bI_01, Bool.false_eq_true, reduceCtorEq, h1_156, gt_156_8, lk_8, s_M_here (g := lk5 g at_ pl so wh i) (i := i) (by rw [lk_1]; exact hn) h0, lk_y, hy, spF, s_M_isLetter, bB_0, show kName 0 = false from rfl]
  | succ m ih =>
    intro i h0 h1 h2
    rw [u_M_look_85]
    simp only [u_M_look_86, u_M_look_87, u_M_look_90, u_M_look_93, u_M_look_96, u_M_look_99, u_M_look_100, u_M_look_101, u_M_look_104, u_M_look_105, u_M_look_106, u_M_look_109, ne_eq, not_false_eq_true, not_true_eq_false, true_and, and_true, true_or, or_true, eq_self, Option.toList_some, Option.toList_none, List.cons_append, List.nil_append, tc_0, tc_I, tc_L, tc_A, Nat.reduceAdd, Nat.reduceLeDiff, Nat.reduceEqDiff, Int.reduceEq, Int.reduceLT, Int.reduceLE, Int.reduceNeg, Int.reduceToNat, Int.cast_ofNat_Int, if_true, if_false, and_self, or_self, ite_self, bI_0, bI_1, bI_01, Bool.false_eq_true, reduceCtorEq, h1_156, gt_156_8, pt_156_8, lk_8, lk_w8, s_M_here (g := lk5 g at_ pl so wh i) (i := i) (by rw [lk_1]; exact hn) h0, lk_y, spF, s_M_isLetter, bB_0, ite_not]
    by_cases h : kName (ym g i) = true
    · have hlt : i < n := by
        by_cases hlt : i < n
        · exact hlt
        · rw [show ym g i = 0 by unfold ym; rw [if_neg (by omega)]] at h; cases h
      simp only [h, ne_eq, not_false_eq_true, not_true_eq_false, true_and, and_true, true_or, or_true, eq_self, Option.toList_some, Option.toList_none, List.cons_append, List.nil_append, tc_0, tc_I, tc_L, tc_A, Nat.reduceAdd, Nat.reduceLeDiff, Nat.reduceEqDiff, Int.reduceEq, Int.reduceLT, Int.reduceLE, Int.reduceNeg, Int.reduceToNat, Int.cast_ofNat_Int, if_true, if_false, and_self, or_self, ite_self, bI_0, bI_1, bI_01, Bool.false_eq_true, reduceCtorEq, w32_id (show (-2147483648 : Int) ≤ i + 1 by omega) (show i + 1 < (2147483648 : Int) by omega), ih (i + 1) (by omega) (by omega) (by omega)]
    · simp only [h, ne_eq, not_false_eq_true, not_true_eq_false, true_and, and_true, true_or, or_true, eq_self, Option.toList_some, Option.toList_none, List.cons_append, List.nil_append, tc_0, tc_I, tc_L, tc_A, Nat.reduceAdd, Nat.reduceLeDiff, Nat.reduceEqDiff, Int.reduceEq, Int.reduceLT, Int.reduceLE, Int.reduceNeg, Int.reduceToNat, Int.cast_ofNat_Int, if_true, if_false, and_self, or_self, ite_self, bI_0, bI_1, bI_01, Bool.false_eq_true, reduceCtorEq]
theorem l_look188 {at_ : Int} (hn : g 156 1 ≤ 600) (hn' : n = g 156 1) (ha : 0 ≤ at_) (ha2 : at_ < n) : ∀ (m : Nat) (i : Int), 0 ≤ i → i ≤ n → i + m = at_ + 9 → VV L (d + 3) m_M_look 188 [some (tA 156), some (tI c), none] [] (WW f t (lk5 g at_ pl so wh i)) Q = VV L (d + 3) m_M_look 229 [some (tA 156), some (tI c), none] [] (WW f t (lk5 g at_ pl so wh (spF kDig (ym g) m i))) Q := by
  have e9 : w32 (at_ + 9) = at_ + 9 := w32_id (by omega) (by omega)
  intro m
  induction m with
  | zero =>
    intro i h0 h1 h2
    rw [u_M_look_188]
    simp only [u_M_look_189, u_M_look_190, u_M_look_193, u_M_look_196, u_M_look_199, u_M_look_202, u_M_look_203, u_M_look_206, u_M_look_207, u_M_look_210, u_M_look_212, u_M_look_213, u_M_look_216, u_M_look_217, u_M_look_218, u_M_look_221, u_M_look_222, u_M_look_223, u_M_look_226, ne_eq, not_false_eq_true, not_true_eq_false, true_and, and_true, true_or, or_true, eq_self, Option.toList_some, Option.toList_none, List.cons_append, List.nil_append, tc_0, tc_I, tc_L, tc_A, Nat.reduceAdd, Nat.reduceLeDiff, Nat.reduceEqDiff, Int.reduceEq, Int.reduceLT, Int.reduceLE, Int.reduceNeg, Int.reduceToNat, Int.cast_ofNat_Int, if_true, if_false, and_self, or_self, ite_self, bI_0, bI_1, bI_01, Bool.false_eq_true, reduceCtorEq, h1_156, gt_156_8, gt_156_4, lk_8, lk_4, s_M_here (g := lk5 g at_ pl so wh i) (i := i) (by rw [lk_1]; exact hn) h0, lk_y, spF, s_M_isDigit, bB_0, ite_not, e9, show at_ + 9 ≤ i by omega, ite_self]
  | succ m ih =>
    intro i h0 h1 h2
    rw [u_M_look_188]
    simp only [u_M_look_189, u_M_look_190, u_M_look_193, u_M_look_196, u_M_look_199, u_M_look_202, u_M_look_203, u_M_look_206, u_M_look_207, u_M_look_210, u_M_look_212, u_M_look_213, u_M_look_216, u_M_look_217, u_M_look_218, u_M_look_221, u_M_look_222, u_M_look_223, u_M_look_226, ne_eq, not_false_eq_true, not_true_eq_false, true_and, and_true, true_or, or_true, eq_self, Option.toList_some, Option.toList_none, List.cons_append, List.nil_append, tc_0, tc_I, tc_L, tc_A, Nat.reduceAdd, Nat.reduceLeDiff, Nat.reduceEqDiff, Int.reduceEq, Int.reduceLT, Int.reduceLE, Int.reduceNeg, Int.reduceToNat, Int.cast_ofNat_Int, if_true, if_false, and_self, or_self, ite_self, bI_0, bI_1, bI_01, Bool.false_eq_true, reduceCtorEq, h1_156, gt_156_8, gt_156_4, pt_156_8, lk_8, lk_4, lk_w8, s_M_here (g := lk5 g at_ pl so wh i) (i := i) (by rw [lk_1]; exact hn) h0, lk_y, spF, s_M_isDigit, bB_0, ite_not, e9, show ¬ at_ + 9 ≤ i by omega]
    by_cases h : kDig (ym g i) = true
    · have hlt : i < n := by
        by_cases hlt : i < n
        · exact hlt
        · rw [show ym g i = 0 by unfold ym; rw [if_neg (by omega)]] at h; cases h
      simp only [h, ne_eq, not_false_eq_true, not_true_eq_false, true_and, and_true, true_or, or_true, eq_self, Option.toList_some, Option.toList_none, List.cons_append, List.nil_append, tc_0, tc_I, tc_L, tc_A, Nat.reduceAdd, Nat.reduceLeDiff, Nat.reduceEqDiff, Int.reduceEq, Int.reduceLT, Int.reduceLE, Int.reduceNeg, Int.reduceToNat, Int.cast_ofNat_Int, if_true, if_false, and_self, or_self, ite_self, bI_0, bI_1, bI_01, Bool.false_eq_true, reduceCtorEq, w32_id (show (-2147483648 : Int) ≤ i + 1 by omega) (show i + 1 < (2147483648 : Int) by omega), ih (i + 1) (by omega) (by omega) (by omega)]
    · simp only [h, ne_eq, not_false_eq_true, not_true_eq_false, true_and, and_true, true_or, or_true, eq_self, Option.toList_some, Option.toList_none, List.cons_append, List.nil_append, tc_0, tc_I, tc_L, tc_A, Nat.reduceAdd, Nat.reduceLeDiff, Nat.reduceEqDiff, Int.reduceEq, Int.reduceLT, Int.reduceLE, Int.reduceNeg, Int.reduceToNat, Int.cast_ofNat_Int, if_true, if_false, and_self, or_self, ite_self, bI_0, bI_1, bI_01, Bool.false_eq_true, reduceCtorEq]
theorem l_look239 {at_ en : Int} (hn : g 156 1 ≤ 600) (hen : en ≤ g 156 1) : ∀ (m : Nat) (i acc : Int), 0 ≤ i → i + m = en → m ≤ 9 → 0 ≤ acc → acc < bnd m → (∀ j, i ≤ j → j < en → 48 ≤ ym g j ∧ ym g j ≤ 57) → VV L (d + 3) m_M_look 239 [some (tA 156), some (tI c), some (tI i)] [] (WW f t (lk5 g at_ pl so acc en)) Q = Q none (WW f t (lk5 g at_ pl so (numF (ym g) m i acc) en)) := by
  intro m
  induction m with
  | zero =>
    intro i acc h0 h1 h2 h3 h4 h5
    rw [u_M_look_239]
    simp only [u_M_look_240, u_M_look_241, u_M_look_244, u_M_look_247, u_M_look_248, u_M_look_250, u_M_look_251, u_M_look_254, u_M_look_255, u_M_look_256, u_M_look_259, u_M_look_260, u_M_look_261, u_M_look_262, u_M_look_264, u_M_look_265, u_M_look_268, u_M_look_271, u_M_look_274, u_M_look_415, ne_eq, not_false_eq_true, not_true_eq_false, true_and, and_true, true_or, or_true, eq_self, Option.toList_some, Option.toList_none, List.cons_append, List.nil_append, tc_0, tc_I, tc_L, tc_A, Nat.reduceAdd, Nat.reduceLeDiff, Nat.reduceEqDiff, Int.reduceEq, Int.reduceLT, Int.reduceLE, Int.reduceNeg, Int.reduceToNat, Int.cast_ofNat_Int, if_true, if_false, and_self, or_self, ite_self, bI_0, bI_1, bI_01, Bool.false_eq_true, reduceCtorEq, h1_156, gt_156_8, lk_8, show en ≤ i by omega, numF]
  | succ m ih =>
    intro i acc h0 h1 h2 h3 h4 h5
    have hy : g 157 i.toNat = ym g i := by unfold ym; rw [if_pos (by omega)]
    have h6 := h5 i (by omega) (by omega)
    have h7 := bnd_s m (by omega)
    have h8 := bnd_9 (m + 1) (by omega)
    have h9 := bnd_9 m (by omega)
    have e10 : 10 * acc = acc * 10 := by omega
    rw [u_M_look_239]
    simp only [u_M_look_240, u_M_look_241, u_M_look_244, u_M_look_247, u_M_look_248, u_M_look_250, u_M_look_251, u_M_look_254, u_M_look_255, u_M_look_256, u_M_look_259, u_M_look_260, u_M_look_261, u_M_look_262, u_M_look_264, u_M_look_265, u_M_look_268, u_M_look_271, u_M_look_274, u_M_look_415, ne_eq, not_false_eq_true, not_true_eq_false, true_and, and_true, true_or, or_true, eq_self, Option.toList_some, Option.toList_none, List.cons_append, List.nil_append, tc_0, tc_I, tc_L, tc_A, Nat.reduceAdd, Nat.reduceLeDiff, Nat.reduceEqDiff, Int.reduceEq, Int.reduceLT, Int.reduceLE, Int.reduceNeg, Int.reduceToNat, Int.cast_ofNat_Int, if_true, if_false, and_self, or_self, ite_self, bI_0, bI_1, bI_01, Bool.false_eq_true, reduceCtorEq, h1_156, gt_156_8, gt_156_7, pt_156_7, gt_156_0, h1_157, h2_157, gt_157, lk_8, lk_7, lk_w7, lk_157, show ¬ en ≤ i by omega, h0, show i < 600 by omega, hy, numF, e10, w32_id (show (-2147483648 : Int) ≤ acc * 10 by omega) (show acc * 10 < (2147483648 : Int) by omega), w32_id (show (-2147483648 : Int) ≤ acc * 10 + ym g i by omega) (show acc * 10 + ym g i < (2147483648 : Int) by omega), w32_id (show (-2147483648 : Int) ≤ acc * 10 + ym g i - 48 by omega) (show acc * 10 + ym g i - 48 < (2147483648 : Int) by omega), w32_id (show (-2147483648 : Int) ≤ i + 1 by omega) (show i + 1 < (2147483648 : Int) by omega)]
    exact ih (i + 1) _ (by omega) (by omega) (by omega) (by omega) (by omega) (fun j h h' => h5 j (by omega) h')
end
