/-! What is printed: the reference's tokens -/
section
variable {L d : Nat} {F t g : Mem} {Q : Option TV → Wd → Prop} {n es : Int}
theorem l_mn2 (h0 : 0 ≤ n) (h9 : n < 1000000000) {o4 : Option TV} : ∀ (k : Nat) (l : List Int), k ≤ 8 → l.length + k + 1 ≤ 12000 → VV L (d + 1) m_M_putToken 171 [some (tA 156), some (tI es), some (tI n), some (tI (10 ^ k)), o4] [] (WW F t (PSt 158 156 3 g l)) Q = Q none (WW F t (PSt 158 156 3 g (l ++ dL n k))) := by
  have last : ∀ l, VV L (d + 1) m_M_putToken 171 [some (tA 156), some (tI es), some (tI n), some (tI 0), o4] [] (WW F t (PSt 158 156 3 g l)) Q = Q none (WW F t (PSt 158 156 3 g l)) := fun l => by
    rw [u_M_putToken_171]
    simp only [u_M_putToken_172, u_M_putToken_196, u_M_putToken_263, ne_eq, not_false_eq_true, not_true_eq_false, true_and, and_true, true_or, or_true, eq_self, Option.toList_some, Option.toList_none, List.cons_append, List.nil_append, tc_0, tc_I, tc_L, tc_A, Nat.reduceAdd, Nat.reduceLeDiff, Nat.reduceEqDiff, Int.reduceEq, Int.reduceLT, Int.reduceLE, Int.reduceNeg, Int.reduceToNat, Int.cast_ofNat_Int, if_true, if_false, and_self, or_self, ite_self, bI_0, bI_1, bI_01, Bool.false_eq_true, reduceCtorEq]
  intro k
  induction k with
  | zero =>
    intro l _ hl
    have w1 : w32 (48 + n % 10) = 48 + n % 10 := w32_id (by omega) (by omega)
    have wn : w32 n = n := w32_id (by omega) (by omega)
    have e1 : n.tdiv 1 = n := Int.tdiv_one n
    have e2 : n.tmod 10 = n % 10 := Int.tmod_eq_emod_of_nonneg h0
    rw [u_M_putToken_171]
    simp only [u_M_putToken_172, u_M_putToken_175, u_M_putToken_176, u_M_putToken_178, u_M_putToken_179, u_M_putToken_180, u_M_putToken_181, u_M_putToken_183, u_M_putToken_184, u_M_putToken_185, u_M_putToken_188, u_M_putToken_189, u_M_putToken_191, u_M_putToken_192, u_M_putToken_193, h1_156, ne_eq, not_false_eq_true, not_true_eq_false, true_and, and_true, true_or, or_true, eq_self, Option.toList_some, Option.toList_none, List.cons_append, List.nil_append, tc_0, tc_I, tc_L, tc_A, Nat.reduceAdd, Nat.reduceLeDiff, Nat.reduceEqDiff, Int.reduceEq, Int.reduceLT, Int.reduceLE, Int.reduceNeg, Int.reduceToNat, Int.cast_ofNat_Int, if_true, if_false, and_self, or_self, ite_self, bI_0, bI_1, bI_01, Bool.false_eq_true, reduceCtorEq, Int.pow_zero, e1, wn, e2, w1, s_M_write (show l.length < 12000 by omega) (dig_b h0), Int.reduceTDiv, show w32 0 = 0 by decide]
    exact last _
  | succ k ih =>
    intro l hk hl
    obtain ⟨p1, p2⟩ := p10 hk
    obtain ⟨p3, p4⟩ := p10 (show k ≤ 8 by omega)
    have hd : (10 : Int) ^ (k + 1) = 10 ^ k * 10 := Int.pow_succ 10 k
    have z0 : 0 ≤ n / 10 ^ (k + 1) := Int.ediv_nonneg h0 (by omega)
    have z1 : n / 10 ^ (k + 1) ≤ n := Int.ediv_le_self _ h0
    have e1 : n.tdiv (10 ^ (k + 1)) = n / 10 ^ (k + 1) := Int.tdiv_eq_ediv_of_nonneg h0
    have e2 : (n / 10 ^ (k + 1)).tmod 10 = n / 10 ^ (k + 1) % 10 := Int.tmod_eq_emod_of_nonneg z0
    have wz : w32 (n / 10 ^ (k + 1)) = n / 10 ^ (k + 1) := w32_id (by omega) (by omega)
    have w1 : w32 (48 + n / 10 ^ (k + 1) % 10) = 48 + n / 10 ^ (k + 1) % 10 := w32_id (by omega) (by omega)
    have e3 : ((10 : Int) ^ (k + 1)).tdiv 10 = 10 ^ k := by
      rw [Int.tdiv_eq_ediv_of_nonneg (by omega), hd]; exact Int.mul_ediv_cancel _ (by decide)
    have w3 : w32 ((10 : Int) ^ k) = 10 ^ k := w32_id (by omega) (by omega)
    rw [u_M_putToken_171]
    simp only [u_M_putToken_172, u_M_putToken_175, u_M_putToken_176, u_M_putToken_178, u_M_putToken_179, u_M_putToken_180, u_M_putToken_181, u_M_putToken_183, u_M_putToken_184, u_M_putToken_185, u_M_putToken_188, u_M_putToken_189, u_M_putToken_191, u_M_putToken_192, u_M_putToken_193, h1_156, ne_eq, not_false_eq_true, not_true_eq_false, true_and, and_true, true_or, or_true, eq_self, Option.toList_some, Option.toList_none, List.cons_append, List.nil_append, tc_0, tc_I, tc_L, tc_A, Nat.reduceAdd, Nat.reduceLeDiff, Nat.reduceEqDiff, Int.reduceEq, Int.reduceLT, Int.reduceLE, Int.reduceNeg, Int.reduceToNat, Int.cast_ofNat_Int, if_true, if_false, and_self, or_self, ite_self, bI_0, bI_1, bI_01, Bool.false_eq_true, reduceCtorEq, (p1n p1).1, (p1n p1).2, e1, wz, e2, w1, s_M_write (show l.length < 12000 by omega) (dig_b z0), e3, w3]
    rw [ih (l ++ [48 + n / 10 ^ (k + 1) % 10]) (by omega) (by rw [List.length_append, List.length_singleton]; omega), List.append_assoc]
    rfl
theorem p9x {x : Int} (h : 10 ≤ x) : ¬ x ≤ 9 := by omega
theorem p9y {x : Int} (h : x < 10) : x ≤ 9 := by omega
theorem l_mn1 (h0 : 0 ≤ n) (h9 : n < 1000000000) {W : Wd} {o4 : Option TV} : ∀ (m j : Nat), j + m = dgt n - 1 → VV L (d + 1) m_M_putToken 155 [some (tA 156), some (tI es), some (tI n), some (tI (10 ^ j)), o4] [] W Q = VV L (d + 1) m_M_putToken 171 [some (tA 156), some (tI es), some (tI n), some (tI (10 ^ (dgt n - 1))), o4] [] W Q := by
  obtain ⟨a1, a2, _, _⟩ := dgt_1 h0 h9
  intro m
  induction m with
  | zero =>
    intro j hj
    obtain rfl : j = dgt n - 1 := by omega
    obtain ⟨p1, p2⟩ := p10 (show dgt n - 1 ≤ 8 by omega)
    have hd := dgt_D h0 h9
    have q0 : 0 ≤ n.tdiv (10 ^ (dgt n - 1)) := Int.tdiv_nonneg h0 (by omega)
    have wq : w32 (n.tdiv (10 ^ (dgt n - 1))) = n.tdiv (10 ^ (dgt n - 1)) := w32_id (by omega) (by omega)
    rw [u_M_putToken_155]
    simp only [u_M_putToken_156, u_M_putToken_157, u_M_putToken_158, u_M_putToken_160, ne_eq, not_false_eq_true, not_true_eq_false, true_and, and_true, true_or, or_true, eq_self, Option.toList_some, Option.toList_none, List.cons_append, List.nil_append, tc_0, tc_I, tc_L, tc_A, Nat.reduceAdd, Nat.reduceLeDiff, Nat.reduceEqDiff, Int.reduceEq, Int.reduceLT, Int.reduceLE, Int.reduceNeg, Int.reduceToNat, Int.cast_ofNat_Int, if_true, if_false, and_self, or_self, ite_self, bI_0, bI_1, bI_01, Bool.false_eq_true, reduceCtorEq, (p1n p1).2, wq, p9y hd]
  | succ m ih =>
    intro j hj
    obtain ⟨p1, p2⟩ := p10 (show j + 1 ≤ 8 by omega)
    obtain ⟨p3, p4⟩ := p10 (show j ≤ 8 by omega)
    have hd : (10 : Int) ^ (j + 1) = 10 ^ j * 10 := Int.pow_succ 10 j
    have hj10 := dgt_j h0 h9 (show j < dgt n - 1 by omega)
    have q1 : n.tdiv (10 ^ j) ≤ n := by rw [Int.tdiv_eq_ediv_of_nonneg h0]; exact Int.ediv_le_self _ h0
    have wq : w32 (n.tdiv (10 ^ j)) = n.tdiv (10 ^ j) := w32_id (by omega) (by omega)
    have wu : w32 (10 ^ j * 10) = 10 ^ (j + 1) := by rw [← hd]; exact w32_id (by omega) (by omega)
    rw [← ih (j + 1) (by omega), u_M_putToken_155]
    simp only [u_M_putToken_156, u_M_putToken_157, u_M_putToken_158, u_M_putToken_160, u_M_putToken_163, u_M_putToken_164, u_M_putToken_166, u_M_putToken_167, u_M_putToken_168, ne_eq, not_false_eq_true, not_true_eq_false, true_and, and_true, true_or, or_true, eq_self, Option.toList_some, Option.toList_none, List.cons_append, List.nil_append, tc_0, tc_I, tc_L, tc_A, Nat.reduceAdd, Nat.reduceLeDiff, Nat.reduceEqDiff, Int.reduceEq, Int.reduceLT, Int.reduceLE, Int.reduceNeg, Int.reduceToNat, Int.cast_ofNat_Int, if_true, if_false, and_self, or_self, ite_self, bI_0, bI_1, bI_01, Bool.false_eq_true, reduceCtorEq, (p1n p3).2, wq, p9x hj10, wu]
theorem kMx (x : Int) : (strs.getD (905 - 901) []).getD x.toNat 0 = KM x := rfl
theorem b_ks {s j k : Nat} (h : s + k ≤ 105) (hj : j ≤ k) : (0 : Int) ≤ ((s + j : Nat) : Int) ∧ ((s + j : Nat) : Int) < 106 := by omega
theorem l_skw {q : Nat} {w left : Int} {W : Wd} (hq : q < 22) (hl : 0 < left ∧ left ≤ 22) : ∀ (m j : Nat), j + m = ksL q → VV L d m_M_putToken 204 [some (tA 156), some (tI es), some (tI w), some (tI ((ksS q + j : Nat) : Int)), some (tI left)] [] W Q = VV L d m_M_putToken 204 [some (tA 156), some (tI es), some (tI w), some (tI ((ksS (q + 1) : Nat) : Int)), some (tI (left - 1))] [] W Q := by
  obtain ⟨h1, h2, h3, h4, h5, h6, h7⟩ := kfact q hq
  have nl : ¬ left ≤ 0 := by omega
  have w0 : w32 (left - 0) = left := by rw [w32_id (by omega) (by omega)]; omega
  have w1' : w32 (left - 1) = left - 1 := w32_id (by omega) (by omega)
  intro m
  induction m with
  | zero =>
    intro j hj
    obtain rfl : j = ksL q := by omega
    have w1 : w32 (((ksS q + ksL q : Nat) : Int) + 1) = ((ksS (q + 1) : Nat) : Int) := by rw [w32_id (by omega) (by omega)]; omega
    have b1 : (0 : Int) ≤ ((ksS q + ksL q : Nat) : Int) := by omega
    have b2 : ((ksS q + ksL q : Nat) : Int) < 106 := by omega
    rw [u_M_putToken_204]
    simp only [u_M_putToken_206, u_M_putToken_209, u_M_putToken_211, u_M_putToken_213, u_M_putToken_214, u_M_putToken_217, u_M_putToken_219, u_M_putToken_222, u_M_putToken_223, u_M_putToken_226, u_M_putToken_227, u_M_putToken_228, u_M_putToken_230, u_M_putToken_233, h1_905, sl_905, ne_eq, not_false_eq_true, not_true_eq_false, true_and, and_true, true_or, or_true, eq_self, Option.toList_some, Option.toList_none, List.cons_append, List.nil_append, tc_0, tc_I, tc_L, tc_A, Nat.reduceAdd, Nat.reduceLeDiff, Nat.reduceEqDiff, Int.reduceEq, Int.reduceLT, Int.reduceLE, Int.reduceNeg, Int.reduceToNat, Int.cast_ofNat_Int, if_true, if_false, and_self, or_self, ite_self, bI_0, bI_1, bI_01, Bool.false_eq_true, reduceCtorEq, nl, kMx, h4, b1, b2, w1, w1']
  | succ m ih =>
    intro j hj
    have w1 : w32 (((ksS q + j : Nat) : Int) + 1) = ((ksS q + (j + 1) : Nat) : Int) := by rw [w32_id (by omega) (by omega)]; omega
    obtain ⟨b1, b2⟩ := b_ks (j := j) h3 (by omega)
    rw [← ih (j + 1) (by omega), u_M_putToken_204]
    simp only [u_M_putToken_206, u_M_putToken_209, u_M_putToken_211, u_M_putToken_213, u_M_putToken_214, u_M_putToken_217, u_M_putToken_219, u_M_putToken_222, u_M_putToken_223, u_M_putToken_226, u_M_putToken_227, u_M_putToken_228, u_M_putToken_230, u_M_putToken_233, h1_905, sl_905, ne_eq, not_false_eq_true, not_true_eq_false, true_and, and_true, true_or, or_true, eq_self, Option.toList_some, Option.toList_none, List.cons_append, List.nil_append, tc_0, tc_I, tc_L, tc_A, Nat.reduceAdd, Nat.reduceLeDiff, Nat.reduceEqDiff, Int.reduceEq, Int.reduceLT, Int.reduceLE, Int.reduceNeg, Int.reduceToNat, Int.cast_ofNat_Int, if_true, if_false, and_self, or_self, ite_self, bI_0, bI_1, bI_01, Bool.false_eq_true, reduceCtorEq, nl, kMx, (h5 j (by omega) (by omega)).1, b1, b2, w1, w0]
theorem l_skq {w : Nat} {W : Wd} (hw : w < 22) : ∀ (m q : Nat), q + m = w → VV L d m_M_putToken 204 [some (tA 156), some (tI es), some (tI w), some (tI ((ksS q : Nat) : Int)), some (tI ((m : Nat) : Int))] [] W Q = VV L d m_M_putToken 236 [some (tA 156), some (tI es), some (tI w), some (tI ((ksS w : Nat) : Int)), some (tI 0)] [] W Q := by
  intro m
  induction m with
  | zero =>
    intro q hq
    obtain rfl : q = w := by omega
    rw [u_M_putToken_204]
    simp only [u_M_putToken_206, ne_eq, not_false_eq_true, not_true_eq_false, true_and, and_true, true_or, or_true, eq_self, Option.toList_some, Option.toList_none, List.cons_append, List.nil_append, tc_0, tc_I, tc_L, tc_A, Nat.reduceAdd, Nat.reduceLeDiff, Nat.reduceEqDiff, Int.reduceEq, Int.reduceLT, Int.reduceLE, Int.reduceNeg, Int.reduceToNat, Int.cast_ofNat_Int, if_true, if_false, and_self, or_self, ite_self, bI_0, bI_1, bI_01, Bool.false_eq_true, reduceCtorEq, show ((0 : Nat) : Int) ≤ 0 by decide]
  | succ m ih =>
    intro q hq
    have := l_skw (L := L) (d := d) (Q := Q) (es := es) (q := q) (w := (w : Int)) (left := ((m + 1 : Nat) : Int)) (W := W) (by omega) (by omega) (ksL q) 0 (by omega)
    rw [Nat.add_zero] at this
    rw [this, show ((m + 1 : Nat) : Int) - 1 = ((m : Nat) : Int) by omega]
    exact ih (q + 1) (by omega)
theorem l_mpk {w : Nat} (hw : w < 22) : ∀ (m j : Nat) (l : List Int), j + m = ksL w → l.length + m ≤ 12000 → VV L (d + 1) m_M_putToken 236 [some (tA 156), some (tI es), some (tI w), some (tI ((ksS w + j : Nat) : Int)), some (tI 0)] [] (WW F t (PSt 158 156 3 g l)) Q = Q none (WW F t (PSt 158 156 3 g (l ++ ((List.range' j m).map (fun (j : Nat) => KM (((ksS w + j : Nat)) : Int)))))) := by
  obtain ⟨h1, h2, h3, h4, h5, h6, h7⟩ := kfact w hw
  have kr : ∀ j, j < ksL w → 32 ≤ KM ((ksS w + j : Nat) : Int) ∧ KM ((ksS w + j : Nat) : Int) ≤ 126 := by
    intro j hj
    have := (ky_w w hw).2.2 (KM ((ksS w + j : Nat) : Int)) (List.mem_map.mpr ⟨j, List.mem_range.mpr hj, rfl⟩)
    exact this
  intro m
  induction m with
  | zero =>
    intro j l hj _
    obtain rfl : j = ksL w := by omega
    have b1 : (0 : Int) ≤ ((ksS w + ksL w : Nat) : Int) := by omega
    have b2 : ((ksS w + ksL w : Nat) : Int) < 106 := by omega
    rw [u_M_putToken_236, List.range'_zero, List.map_nil, List.append_nil]
    simp only [u_M_putToken_238, u_M_putToken_239, u_M_putToken_242, u_M_putToken_244, u_M_putToken_263, h1_905, sl_905, ne_eq, not_false_eq_true, not_true_eq_false, true_and, and_true, true_or, or_true, eq_self, Option.toList_some, Option.toList_none, List.cons_append, List.nil_append, tc_0, tc_I, tc_L, tc_A, Nat.reduceAdd, Nat.reduceLeDiff, Nat.reduceEqDiff, Int.reduceEq, Int.reduceLT, Int.reduceLE, Int.reduceNeg, Int.reduceToNat, Int.cast_ofNat_Int, if_true, if_false, and_self, or_self, ite_self, bI_0, bI_1, bI_01, Bool.false_eq_true, reduceCtorEq, kMx, h4, b1, b2]
  | succ m ih =>
    intro j l hj hl
    have w1 : w32 (((ksS w + j : Nat) : Int) + 1) = ((ksS w + (j + 1) : Nat) : Int) := by rw [w32_id (by omega) (by omega)]; omega
    obtain ⟨b1, b2⟩ := b_ks (j := j) h3 (by omega)
    rw [List.range'_succ, List.map_cons, show l ++ (KM (((ksS w + j : Nat)) : Int) :: List.map (fun (j : Nat) => KM (((ksS w + j : Nat)) : Int)) (List.range' (j + 1) m)) = (l ++ [KM (((ksS w + j : Nat)) : Int)]) ++ List.map (fun (j : Nat) => KM (((ksS w + j : Nat)) : Int)) (List.range' (j + 1) m) by simp, ← ih (j + 1) (l ++ [KM (((ksS w + j : Nat)) : Int)]) (by omega) (by rw [List.length_append, List.length_singleton]; omega), u_M_putToken_236]
    simp only [u_M_putToken_238, u_M_putToken_239, u_M_putToken_242, u_M_putToken_244, u_M_putToken_247, u_M_putToken_248, u_M_putToken_250, u_M_putToken_251, u_M_putToken_254, u_M_putToken_257, u_M_putToken_260, h1_156, h1_905, sl_905, ne_eq, not_false_eq_true, not_true_eq_false, true_and, and_true, true_or, or_true, eq_self, Option.toList_some, Option.toList_none, List.cons_append, List.nil_append, tc_0, tc_I, tc_L, tc_A, Nat.reduceAdd, Nat.reduceLeDiff, Nat.reduceEqDiff, Int.reduceEq, Int.reduceLT, Int.reduceLE, Int.reduceNeg, Int.reduceToNat, Int.cast_ofNat_Int, if_true, if_false, and_self, or_self, ite_self, bI_0, bI_1, bI_01, Bool.false_eq_true, reduceCtorEq, kMx, (h5 j (by omega) (by omega)).1, b1, b2, s_M_write (show l.length < 12000 by omega) (kr j (by omega)), w1]
theorem s_M_putToken {v : Int} {l : List Int} (h : okT v) (hes : es = srt v ∨ (es = 8 ∧ v = 45)) (hl : l.length + 10 ≤ 12000) : VV L (d + 1) m_M_putToken 0 [some (tA 156), some (tI es), some (tI (whc v)), none, none] [] (WW F t (PSt 158 156 3 g l)) Q = Q none (WW F t (PSt 158 156 3 g (l ++ ptk v))) := by
  have hl1 : l.length < 12000 := by omega
  rcases hes with rfl | ⟨rfl, rfl⟩
  · rcases cls h with b | b | b | b | b | b | b
    · obtain ⟨b0, b1, b2⟩ := b
      obtain ⟨a1, a2, _, _⟩ := dgt_1 (n := -1 - v) (by omega) (by omega)
      rw [b1, b2, ptk_num b0.2, ← l_mn2 (L := L) (d := d) (F := F) (t := t) (g := g) (Q := Q) (es := 2) (show 0 ≤ -1 - v by omega) (by omega) (o4 := none) (dgt (-1 - v) - 1) l (by omega) (by omega), ← l_mn1 (show 0 ≤ -1 - v by omega) (by omega) (dgt (-1 - v) - 1) 0 (by omega)]
      simp only [u_M_putToken_0, u_M_putToken_1, u_M_putToken_2, u_M_putToken_16, u_M_putToken_17, u_M_putToken_18, u_M_putToken_32, u_M_putToken_33, u_M_putToken_34, u_M_putToken_48, u_M_putToken_49, u_M_putToken_51, u_M_putToken_54, u_M_putToken_55, u_M_putToken_57, u_M_putToken_68, u_M_putToken_69, u_M_putToken_71, u_M_putToken_148, u_M_putToken_149, u_M_putToken_150, u_M_putToken_153, u_M_putToken_154, ne_eq, not_false_eq_true, not_true_eq_false, true_and, and_true, true_or, or_true, eq_self, Option.toList_some, Option.toList_none, List.cons_append, List.nil_append, tc_0, tc_I, tc_L, tc_A, Nat.reduceAdd, Nat.reduceLeDiff, Nat.reduceEqDiff, Int.reduceEq, Int.reduceLT, Int.reduceLE, Int.reduceNeg, Int.reduceToNat, Int.cast_ofNat_Int, if_true, if_false, and_self, or_self, ite_self, bI_0, bI_1, bI_01, Bool.false_eq_true, reduceCtorEq]
      rfl
    · obtain ⟨b0, b1, b2⟩ := b
      have w1 : w32 (97 + (v - 97)) = v := by rw [w32_id (by omega) (by omega)]; omega
      rw [b1, b2, ptk_one (by omega) (by omega)]
      simp only [u_M_putToken_0, u_M_putToken_1, u_M_putToken_2, u_M_putToken_5, u_M_putToken_6, u_M_putToken_8, u_M_putToken_9, u_M_putToken_10, u_M_putToken_13, u_M_putToken_263, h1_156, ne_eq, not_false_eq_true, not_true_eq_false, true_and, and_true, true_or, or_true, eq_self, Option.toList_some, Option.toList_none, List.cons_append, List.nil_append, tc_0, tc_I, tc_L, tc_A, Nat.reduceAdd, Nat.reduceLeDiff, Nat.reduceEqDiff, Int.reduceEq, Int.reduceLT, Int.reduceLE, Int.reduceNeg, Int.reduceToNat, Int.cast_ofNat_Int, if_true, if_false, and_self, or_self, ite_self, bI_0, bI_1, bI_01, Bool.false_eq_true, reduceCtorEq, w1, s_M_write hl1 (show 32 ≤ v ∧ v ≤ 126 by omega)]
    · obtain ⟨b0, b1, b2⟩ := b
      have w1 : w32 (65 + (v - 65)) = v := by rw [w32_id (by omega) (by omega)]; omega
      rw [b1, b2, ptk_one (by omega) (by omega)]
      simp only [u_M_putToken_0, u_M_putToken_1, u_M_putToken_2, u_M_putToken_5, u_M_putToken_6, u_M_putToken_8, u_M_putToken_9, u_M_putToken_10, u_M_putToken_13, u_M_putToken_16, u_M_putToken_17, u_M_putToken_18, u_M_putToken_21, u_M_putToken_22, u_M_putToken_24, u_M_putToken_25, u_M_putToken_26, u_M_putToken_29, u_M_putToken_263, h1_156, ne_eq, not_false_eq_true, not_true_eq_false, true_and, and_true, true_or, or_true, eq_self, Option.toList_some, Option.toList_none, List.cons_append, List.nil_append, tc_0, tc_I, tc_L, tc_A, Nat.reduceAdd, Nat.reduceLeDiff, Nat.reduceEqDiff, Int.reduceEq, Int.reduceLT, Int.reduceLE, Int.reduceNeg, Int.reduceToNat, Int.cast_ofNat_Int, if_true, if_false, and_self, or_self, ite_self, bI_0, bI_1, bI_01, Bool.false_eq_true, reduceCtorEq, w1, s_M_write hl1 (show 32 ≤ v ∧ v ≤ 126 by omega)]
    · obtain ⟨b0, b1, b2⟩ := b
      have w1 : w32 (83 + (v - 83)) = v := by rw [w32_id (by omega) (by omega)]; omega
      rw [b1, b2, ptk_one (by omega) (by omega)]
      simp only [u_M_putToken_0, u_M_putToken_1, u_M_putToken_2, u_M_putToken_5, u_M_putToken_6, u_M_putToken_8, u_M_putToken_9, u_M_putToken_10, u_M_putToken_13, u_M_putToken_16, u_M_putToken_17, u_M_putToken_18, u_M_putToken_21, u_M_putToken_22, u_M_putToken_24, u_M_putToken_25, u_M_putToken_26, u_M_putToken_29, u_M_putToken_32, u_M_putToken_33, u_M_putToken_34, u_M_putToken_37, u_M_putToken_38, u_M_putToken_40, u_M_putToken_41, u_M_putToken_42, u_M_putToken_45, u_M_putToken_263, h1_156, ne_eq, not_false_eq_true, not_true_eq_false, true_and, and_true, true_or, or_true, eq_self, Option.toList_some, Option.toList_none, List.cons_append, List.nil_append, tc_0, tc_I, tc_L, tc_A, Nat.reduceAdd, Nat.reduceLeDiff, Nat.reduceEqDiff, Int.reduceEq, Int.reduceLT, Int.reduceLE, Int.reduceNeg, Int.reduceToNat, Int.cast_ofNat_Int, if_true, if_false, and_self, or_self, ite_self, bI_0, bI_1, bI_01, Bool.false_eq_true, reduceCtorEq, w1, s_M_write hl1 (show 32 ≤ v ∧ v ≤ 126 by omega)]
    · obtain ⟨b0, b1, b2⟩ := b
      obtain ⟨q, rfl⟩ : ∃ q : Nat, v = 200 + (q : Int) := ⟨(v - 200).toNat, by omega⟩
      have hq : q < 22 := by omega
      have k6 := kf_n q hq
      rw [b1, b2, ptk_key (by omega), show (200 + (q : Int) - 200).toNat = q by omega, show 200 + (q : Int) - 200 = (q : Int) by omega]
      have h3 := l_mpk (L := L) (d := d) (F := F) (t := t) (g := g) (Q := Q) (es := 5) hq (ksL q) 0 l (by omega) (by omega)
      have h3' : VV L (d + 1) m_M_putToken 236 [some (tA 156), some (tI 5), some (tI q), some (tI ((ksS q : Nat) : Int)), some (tI 0)] [] (WW F t (PSt 158 156 3 g l)) Q = _ := h3
      have e : kyL q = (List.range' 0 (ksL q)).map (fun (j : Nat) => KM (((ksS q + j : Nat)) : Int)) := by unfold kyL; rw [List.range_eq_range']
      rw [e, ← h3', ← l_skq hq q 0 (by omega)]
      simp only [u_M_putToken_0, u_M_putToken_1, u_M_putToken_2, u_M_putToken_16, u_M_putToken_17, u_M_putToken_18, u_M_putToken_32, u_M_putToken_33, u_M_putToken_34, u_M_putToken_48, u_M_putToken_49, u_M_putToken_51, u_M_putToken_54, u_M_putToken_55, u_M_putToken_57, u_M_putToken_68, u_M_putToken_69, u_M_putToken_71, u_M_putToken_148, u_M_putToken_149, u_M_putToken_150, u_M_putToken_199, u_M_putToken_200, u_M_putToken_201, u_M_putToken_202, ne_eq, not_false_eq_true, not_true_eq_false, true_and, and_true, true_or, or_true, eq_self, Option.toList_some, Option.toList_none, List.cons_append, List.nil_append, tc_0, tc_I, tc_L, tc_A, Nat.reduceAdd, Nat.reduceLeDiff, Nat.reduceEqDiff, Int.reduceEq, Int.reduceLT, Int.reduceLE, Int.reduceNeg, Int.reduceToNat, Int.cast_ofNat_Int, if_true, if_false, and_self, or_self, ite_self, bI_0, bI_1, bI_01, Bool.false_eq_true, reduceCtorEq]
      rfl
    · obtain ⟨b1, b2⟩ := b
      rw [b1]
      have two : ∀ x y : Int, 32 ≤ x ∧ x ≤ 126 → 32 ≤ y ∧ y ≤ 126 → ∀ Q : Option TV → Wd → Prop, Q none (WW F t (PSt 158 156 3 g (l ++ [x] ++ [y]))) = Q none (WW F t (PSt 158 156 3 g (l ++ [x, y]))) := fun x y _ _ Q => by rw [List.append_assoc]; rfl
      have hl2 : ∀ x : Int, (l ++ [x]).length < 12000 := fun x => by rw [List.length_append, List.length_singleton]; omega
      rcases b2 with ⟨rfl, b2⟩ | ⟨rfl, b2⟩ | ⟨rfl, b2⟩ | ⟨rfl, b2⟩ | ⟨rfl, b2⟩ | ⟨rfl, b2⟩ <;> rw [b2] <;>
        simp only [u_M_putToken_0, u_M_putToken_1, u_M_putToken_2, u_M_putToken_16, u_M_putToken_17, u_M_putToken_18, u_M_putToken_32, u_M_putToken_33, u_M_putToken_34, u_M_putToken_48, u_M_putToken_49, u_M_putToken_51, u_M_putToken_54, u_M_putToken_55, u_M_putToken_57, u_M_putToken_68, u_M_putToken_69, u_M_putToken_71, u_M_putToken_74, u_M_putToken_75, u_M_putToken_76, u_M_putToken_79, u_M_putToken_81, u_M_putToken_84, u_M_putToken_85, u_M_putToken_86, u_M_putToken_89, u_M_putToken_91, u_M_putToken_94, u_M_putToken_95, u_M_putToken_96, u_M_putToken_99, u_M_putToken_101, u_M_putToken_104, u_M_putToken_105, u_M_putToken_106, u_M_putToken_109, u_M_putToken_111, u_M_putToken_114, u_M_putToken_116, u_M_putToken_119, u_M_putToken_120, u_M_putToken_121, u_M_putToken_122, u_M_putToken_125, u_M_putToken_127, u_M_putToken_130, u_M_putToken_131, u_M_putToken_132, u_M_putToken_135, u_M_putToken_137, u_M_putToken_140, u_M_putToken_142, u_M_putToken_145, u_M_putToken_263, h1_156, ne_eq, not_false_eq_true, not_true_eq_false, true_and, and_true, true_or, or_true, eq_self, Option.toList_some, Option.toList_none, List.cons_append, List.nil_append, tc_0, tc_I, tc_L, tc_A, Nat.reduceAdd, Nat.reduceLeDiff, Nat.reduceEqDiff, Int.reduceEq, Int.reduceLT, Int.reduceLE, Int.reduceNeg, Int.reduceToNat, Int.cast_ofNat_Int, if_true, if_false, and_self, or_self, ite_self, bI_0, bI_1, bI_01, Bool.false_eq_true, reduceCtorEq, s_M_write hl1 (show 32 ≤ (43 : Int) ∧ (43 : Int) ≤ 126 by decide), s_M_write hl1 (show 32 ≤ (45 : Int) ∧ (45 : Int) ≤ 126 by decide), s_M_write hl1 (show 32 ≤ (94 : Int) ∧ (94 : Int) ≤ 126 by decide), s_M_write hl1 (show 32 ≤ (62 : Int) ∧ (62 : Int) ≤ 126 by decide), s_M_write hl1 (show 32 ≤ (60 : Int) ∧ (60 : Int) ≤ 126 by decide), s_M_write (hl2 _) (show 32 ≤ (61 : Int) ∧ (61 : Int) ≤ 126 by decide), s_M_write (hl2 _) (show 32 ≤ (60 : Int) ∧ (60 : Int) ≤ 126 by decide), s_M_write (hl2 _) (show 32 ≤ (62 : Int) ∧ (62 : Int) ≤ 126 by decide), List.append_assoc] <;> rfl
    · obtain ⟨b0, b1, b2⟩ := b
      unfold sgT at b0
      rw [b1, b2, ptk_one (by omega) (by omega)]
      simp only [u_M_putToken_0, u_M_putToken_1, u_M_putToken_2, u_M_putToken_16, u_M_putToken_17, u_M_putToken_18, u_M_putToken_32, u_M_putToken_33, u_M_putToken_34, u_M_putToken_48, u_M_putToken_49, u_M_putToken_51, u_M_putToken_54, u_M_putToken_55, u_M_putToken_57, u_M_putToken_60, u_M_putToken_61, u_M_putToken_62, u_M_putToken_65, u_M_putToken_263, h1_156, ne_eq, not_false_eq_true, not_true_eq_false, true_and, and_true, true_or, or_true, eq_self, Option.toList_some, Option.toList_none, List.cons_append, List.nil_append, tc_0, tc_I, tc_L, tc_A, Nat.reduceAdd, Nat.reduceLeDiff, Nat.reduceEqDiff, Int.reduceEq, Int.reduceLT, Int.reduceLE, Int.reduceNeg, Int.reduceToNat, Int.cast_ofNat_Int, if_true, if_false, and_self, or_self, ite_self, bI_0, bI_1, bI_01, Bool.false_eq_true, reduceCtorEq, s_M_write hl1 (show 32 ≤ v ∧ v ≤ 126 by omega)]
  · have e : whc 45 = 45 := by decide
    rw [e, ptk_one (by decide) (by decide)]
    simp only [u_M_putToken_0, u_M_putToken_1, u_M_putToken_2, u_M_putToken_16, u_M_putToken_17, u_M_putToken_18, u_M_putToken_32, u_M_putToken_33, u_M_putToken_34, u_M_putToken_48, u_M_putToken_49, u_M_putToken_51, u_M_putToken_54, u_M_putToken_55, u_M_putToken_57, u_M_putToken_60, u_M_putToken_61, u_M_putToken_62, u_M_putToken_65, u_M_putToken_263, h1_156, ne_eq, not_false_eq_true, not_true_eq_false, true_and, and_true, true_or, or_true, eq_self, Option.toList_some, Option.toList_none, List.cons_append, List.nil_append, tc_0, tc_I, tc_L, tc_A, Nat.reduceAdd, Nat.reduceLeDiff, Nat.reduceEqDiff, Int.reduceEq, Int.reduceLT, Int.reduceLE, Int.reduceNeg, Int.reduceToNat, Int.cast_ofNat_Int, if_true, if_false, and_self, or_self, ite_self, bI_0, bI_1, bI_01, Bool.false_eq_true, reduceCtorEq, s_M_write hl1 (show 32 ≤ (45 : Int) ∧ (45 : Int) ≤ 126 by decide)]
end
