/-! Calls: copy -/
/-- an int of the machine; closed, for what reckons with all that it sees -/
def R32 (n : Int) : Prop := -2147483648 ≤ n ∧ n ≤ 2147483647
theorem R32_add {i n : Int} (h : R32 i) (h' : R32 n) : w64 (i + n) = i + n := by
  unfold R32 at h h'; exact w64_id (by omega) (by omega)
theorem lc_gt {x y : Int} : (0 < zlcmp x y) = (y < x) := by unfold zlcmp; (repeat' split) <;> simp <;> omega
section
variable {L d : Nat} {X : Nat → Tre} {TH : Nat} {f f' t t' g g' : Mem} {Q : Option TV → Wd → Prop} {v : Int}
theorem zc_ww {a b i j n : Nat} (ha : a < 15) (hb : b < 15) : ((WW f t g).1, zcopy (WW f t g).2 (34 + a) i (34 + b) j n) = WW (zcopy f (34 + a) i (34 + b) j n) t g := by
  have e : zcopy (WW f t g).2 (34 + a) i (34 + b) j n = (WW (zcopy f (34 + a) i (34 + b) j n) t g).2 := by
    funext c k
    by_cases hc : c = 34 + b ∧ j ≤ k ∧ k < j + n
    · have h1 : zcopy (WW f t g).2 (34 + a) i (34 + b) j n c k = (WW f t g).2 (34 + a) (i + (k - j)) := by unfold zcopy; rw [if_pos hc]
      rw [h1, y33_r ha]
      obtain ⟨rfl, h2⟩ := hc
      rw [y33_r hb]
      unfold zcopy; rw [if_pos ⟨rfl, h2⟩]
    · have h1 : zcopy (WW f t g).2 (34 + a) i (34 + b) j n c k = (WW f t g).2 c k := by unfold zcopy; rw [if_neg hc]
      rw [h1]
      show ovl f t g c k = ovl (zcopy f (34 + a) i (34 + b) j n) t g c k
      unfold ovl
      have h2 : zcopy f (34 + a) i (34 + b) j n c k = f c k := by unfold zcopy; rw [if_neg hc]
      rw [h2]
  rw [e]; rfl
theorem s_Sf_carry {a b i j n : Nat} (hS : RSt f g' TH) (ha : a < 15) (hb : b < 15) (hi : ((i + n : Nat) : Int) ≤ f 32 a) (hj : ((j + n : Nat) : Int) ≤ f 32 b) : VV L (d + 2) m_Sf_carry 0 [some (tA 28), some (tI a), some (tI i), some (tI b), some (tI j), some (tI n)] [] (WW f t g) Q = Q none (WW (zcopy f (34 + a) i (34 + b) j n) t g) := by
  have ca := hS.cC a ha
  have cb := hS.cC b hb
  have hn : -2147483648 ≤ (n : Int) ∧ (n : Int) ≤ 2147483647 := by omega
  have e1 : 0 ≤ (n : Int) ∧ 0 ≤ (i : Int) ∧ (i : Int) + n ≤ f 32 ((a : Int)).toNat := by rw [Int.toNat_natCast]; omega
  have e2 : 0 ≤ (n : Int) ∧ 0 ≤ (j : Int) ∧ (j : Int) + n ≤ f 32 ((b : Int)).toNat := by rw [Int.toNat_natCast]; omega
  have a15 : 0 ≤ (a : Int) ∧ (a : Int) < 15 := by omega
  have b15 : 0 ≤ (b : Int) ∧ (b : Int) < 15 := by omega
  have i12 : (i : Int) + n ≤ 12 := by omega
  have j12 : (j : Int) + n ≤ 12 := by omega
  have i2 : (i : Int) + n ≤ f 32 a := by omega
  have j2 : (j : Int) + n ≤ f 32 b := by omega
  simp only [u_Sf_carry_0, u_Sf_carry_1, u_Sf_carry_4, u_Sf_carry_7, u_Sf_carry_8, u_Sf_carry_11, u_Sf_carry_14, u_Sf_carry_15, u_Sf_carry_16, u_Sf_carry_17, u_Sf_carry_19, u_Sf_carry_22, u_Sf_carry_25, u_Sf_carry_26, u_Sf_carry_27, u_Sf_carry_29, u_Sf_carry_31, u_Sf_carry_34, u_Sf_carry_37, u_Sf_carry_38, u_Sf_carry_39, u_Sf_carry_42, u_Sf_carry_43, u_Sf_carry_44, u_Sf_carry_45, u_Sf_carry_46, u_Sf_carry_49, u_Sf_carry_50, u_Sf_carry_51, u_Sf_carry_53, h1_28, gt_28_4, h1_33, h2_33, y33_g, y33_h, y33_z, y33_r, y33_w, ne_eq, not_false_eq_true, not_true_eq_false, true_and, and_true, true_or, or_true, eq_self, Option.toList_some, Option.toList_none, List.cons_append, List.nil_append, tc_0, tc_I, tc_L, tc_A, Nat.reduceAdd, Nat.reduceLeDiff, Nat.reduceEqDiff, Int.reduceEq, Int.reduceLT, Int.reduceLE, Int.reduceNeg, Int.reduceToNat, Int.cast_ofNat_Int, if_true, if_false, and_self, or_self, ite_self, bI_0, bI_1, bI_01, Bool.false_eq_true, reduceCtorEq, s_Sf_isNumber, a15, b15, and_self, decide_true, bB_t, s_Sf_spans hS (i := (i : Int)) a15 rfl hn, s_Sf_spans hS (i := (j : Int)) b15 rfl hn, e1, e2, i2, j2, Int.toNat_natCast, y33_g ha, y33_g hb, show ¬ 34 + a = 0 by omega, show ¬ 34 + b = 0 by omega]
  rw [u_Sf_carry_55]
  simp only [u_Sf_carry_58, y33_h ha, y33_h hb, y33_z ha, y33_z hb, e1, e2, i2, j2, decide_true, bB_t, i12, j12, Int.toNat_natCast, ne_eq, not_false_eq_true, not_true_eq_false, true_and, and_true, true_or, or_true, eq_self, Option.toList_some, Option.toList_none, List.cons_append, List.nil_append, tc_0, tc_I, tc_L, tc_A, Nat.reduceAdd, Nat.reduceLeDiff, Nat.reduceEqDiff, Int.reduceEq, Int.reduceLT, Int.reduceLE, Int.reduceNeg, Int.reduceToNat, Int.cast_ofNat_Int, if_true, if_false, and_self, or_self, ite_self, bI_0, bI_1, bI_01, Bool.false_eq_true, reduceCtorEq, zc_ww ha hb]
/-- the reference's two loops -/
def kpM (g : Mem) (s k : Nat) : Mem := fun b j => if b = 184 ∧ j < k then g 178 (s + j) else g b j
def cpM (g : Mem) (s p k : Nat) : Mem := fun b j => if b = 178 ∧ p ≤ j ∧ j < p + k then g 178 (s + (j - p)) else g b j
theorem kpM_s {s k : Nat} : mset (kpM g s k) 184 k (kpM g s k 178 (s + k)) = kpM g s (k + 1) := by
  funext b j; simp only [mset, kpM]; grind
theorem kpM_0 {s : Nat} : kpM g s 0 = g := by funext b j; simp [kpM]
def cqM (g : Mem) (s n p k : Nat) : Mem := fun b j => if b = 178 ∧ p ≤ j ∧ j < p + k then g 178 (s + (j - p)) else kpM g s n b j
theorem cqM_s {s n p k : Nat} (h : k < n) : mset (cqM g s n p k) 178 (p + k) (cqM g s n p k 184 k) = cqM g s n p (k + 1) := by
  funext b j; simp only [mset, cqM, kpM]; grind
theorem cqM_0 {s n p : Nat} : cqM g s n p 0 = kpM g s n := by funext b j; simp only [cqM, kpM]; grind
theorem ar_cp {a i k n : Nat} (hs : 12 * a + i + n ≤ 192) (hn : n ≤ 12) (hk : k < n) : w32 ((k : Int) + 1) = ((k + 1 : Nat) : Int) ∧ w32 (12 * (a : Int)) = 12 * a ∧ w32 (12 * (a : Int) + i) = 12 * a + i ∧ w32 (12 * (a : Int) + i + k) = ((12 * a + i + k : Nat) : Int) ∧ ¬ (n : Int) ≤ k ∧ 0 ≤ (k : Int) ∧ (k : Int) < 12 ∧ (0 : Int) ≤ ((12 * a + i + k : Nat) : Int) ∧ ((12 * a + i + k : Nat) : Int) < 192 := by
  refine ⟨?_, ?_, ?_, ?_, by omega, by omega, by omega, by omega, by omega⟩ <;> rw [w32_id (by omega) (by omega)] <;> omega
theorem l_cp2 {F : Mem} {x1 x2 x3 a b j n s : Nat} {x4 : Int} (hp : 12 * b + j + n ≤ 192) (hn : n ≤ 12) : ∀ (m k : Nat), k + m = n → VV L d m_M_copy 166 [some (tA 156), some (tI x1), some (tI x2), some (tI x3), some (tI j), some (tI n), some (tI a), some (tI b), some (tI k)] [] (WW F t (cqM g s n (12 * b + j) k)) Q = Q (some (tI n)) (WW F t (cqM g s n (12 * b + j) n)) := by
  intro m
  induction m with
  | zero =>
    intro k hk
    obtain rfl : k = n := by omega
    rw [u_M_copy_166]
    simp only [u_M_copy_168, u_M_copy_170, u_M_copy_173, u_M_copy_174, u_M_copy_177, u_M_copy_179, u_M_copy_181, u_M_copy_182, u_M_copy_184, u_M_copy_185, u_M_copy_187, u_M_copy_188, u_M_copy_189, u_M_copy_192, u_M_copy_194, u_M_copy_195, u_M_copy_196, u_M_copy_199, u_M_copy_202, u_M_copy_204, ne_eq, not_false_eq_true, not_true_eq_false, true_and, and_true, true_or, or_true, eq_self, Option.toList_some, Option.toList_none, List.cons_append, List.nil_append, tc_0, tc_I, tc_L, tc_A, Nat.reduceAdd, Nat.reduceLeDiff, Nat.reduceEqDiff, Int.reduceEq, Int.reduceLT, Int.reduceLE, Int.reduceNeg, Int.reduceToNat, Int.cast_ofNat_Int, if_true, if_false, and_self, or_self, ite_self, bI_0, bI_1, bI_01, Bool.false_eq_true, reduceCtorEq, show (k : Int) ≤ (k : Int) by omega]
  | succ m ih =>
    intro k hk
    obtain ⟨wk, w1, w2, w3, k1, k2, k3, k4, k5⟩ := ar_cp (k := k) hp hn (by omega)
    rw [u_M_copy_166]
    simp only [u_M_copy_168, u_M_copy_170, u_M_copy_173, u_M_copy_174, u_M_copy_177, u_M_copy_179, u_M_copy_181, u_M_copy_182, u_M_copy_184, u_M_copy_185, u_M_copy_187, u_M_copy_188, u_M_copy_189, u_M_copy_192, u_M_copy_194, u_M_copy_195, u_M_copy_196, u_M_copy_199, h1_156, gt_156_41, gt_156_65, h1_178, h2_178, gt_178, pt_178, h1_184, h2_184, gt_184, pt_184, ne_eq, not_false_eq_true, not_true_eq_false, true_and, and_true, true_or, or_true, eq_self, Option.toList_some, Option.toList_none, List.cons_append, List.nil_append, tc_0, tc_I, tc_L, tc_A, Nat.reduceAdd, Nat.reduceLeDiff, Nat.reduceEqDiff, Int.reduceEq, Int.reduceLT, Int.reduceLE, Int.reduceNeg, Int.reduceToNat, Int.cast_ofNat_Int, if_true, if_false, and_self, or_self, ite_self, bI_0, bI_1, bI_01, Bool.false_eq_true, reduceCtorEq, k1, k2, k3, w1, w2, w3, k4, k5, Int.toNat_natCast, wk, cqM_s (show k < n by omega)]
    exact ih (k + 1) (by omega)
theorem l_cp1 {F : Mem} {x1 x3 a b i j n : Nat} (hs : 12 * a + i + n ≤ 192) (hp : 12 * b + j + n ≤ 192) (hn : n ≤ 12) : ∀ (m k : Nat), k + m = n → VV L d m_M_copy 128 [some (tA 156), some (tI x1), some (tI i), some (tI x3), some (tI j), some (tI n), some (tI a), some (tI b), some (tI k)] [] (WW F t (kpM g (12 * a + i) k)) Q = Q (some (tI n)) (WW F t (cqM g (12 * a + i) n (12 * b + j) n)) := by
  intro m
  induction m with
  | zero =>
    intro k hk
    obtain rfl : k = n := by omega
    rw [u_M_copy_128]
    simp only [u_M_copy_130, u_M_copy_132, u_M_copy_163, u_M_copy_164, ne_eq, not_false_eq_true, not_true_eq_false, true_and, and_true, true_or, or_true, eq_self, Option.toList_some, Option.toList_none, List.cons_append, List.nil_append, tc_0, tc_I, tc_L, tc_A, Nat.reduceAdd, Nat.reduceLeDiff, Nat.reduceEqDiff, Int.reduceEq, Int.reduceLT, Int.reduceLE, Int.reduceNeg, Int.reduceToNat, Int.cast_ofNat_Int, if_true, if_false, and_self, or_self, ite_self, bI_0, bI_1, bI_01, Bool.false_eq_true, reduceCtorEq, show (k : Int) ≤ (k : Int) by omega]
    have := l_cp2 (L := L) (d := d) (t := t) (g := g) (Q := Q) (F := F) (x1 := x1) (x2 := i) (x3 := x3) (x4 := 0) (a := a) (s := 12 * a + i) hp hn k 0 (by omega)
    rw [cqM_0] at this
    exact this
  | succ m ih =>
    intro k hk
    obtain ⟨wk, w1, w2, w3, k1, k2, k3, k4, k5⟩ := ar_cp (k := k) hs hn (by omega)
    rw [u_M_copy_128]
    simp only [u_M_copy_130, u_M_copy_132, u_M_copy_135, u_M_copy_136, u_M_copy_139, u_M_copy_141, u_M_copy_142, u_M_copy_145, u_M_copy_147, u_M_copy_149, u_M_copy_150, u_M_copy_151, u_M_copy_152, u_M_copy_154, u_M_copy_155, u_M_copy_156, u_M_copy_157, u_M_copy_160, h1_156, gt_156_41, gt_156_65, h1_178, h2_178, gt_178, pt_178, h1_184, h2_184, gt_184, pt_184, ne_eq, not_false_eq_true, not_true_eq_false, true_and, and_true, true_or, or_true, eq_self, Option.toList_some, Option.toList_none, List.cons_append, List.nil_append, tc_0, tc_I, tc_L, tc_A, Nat.reduceAdd, Nat.reduceLeDiff, Nat.reduceEqDiff, Int.reduceEq, Int.reduceLT, Int.reduceLE, Int.reduceNeg, Int.reduceToNat, Int.cast_ofNat_Int, if_true, if_false, and_self, or_self, ite_self, bI_0, bI_1, bI_01, Bool.false_eq_true, reduceCtorEq, k1, k2, k3, w1, w2, w3, k4, k5, Int.toNat_natCast, wk, kpM_s]
    exact ih (k + 1) (by omega)
theorem cq_o {s n p k b j : Nat} (h : ¬ b = 178) (h' : ¬ b = 184) : cqM g s n p k b j = g b j := by
  unfold cqM kpM; rw [if_neg (fun hh => h hh.1), if_neg (fun hh => h' hh.1)]
theorem cq_178 {s n p k j : Nat} : cqM g s n p k 178 j = if p ≤ j ∧ j < p + k then g 178 (s + (j - p)) else g 178 j := by
  unfold cqM kpM
  by_cases h : p ≤ j ∧ j < p + k
  · rw [if_pos ⟨rfl, h⟩, if_pos h]
  · rw [if_neg (fun hh => h hh.2), if_neg h, if_neg (by omega)]
theorem zc_o {s i p j n b k : Nat} (h : ¬ b = p) : zcopy f s i p j n b k = f b k := by unfold zcopy; rw [if_neg (fun hh => h hh.1)]
theorem zc_v {s i p j n k : Nat} : zcopy f s i p j n p k = if j ≤ k ∧ k < j + n then f s (i + (k - j)) else f p k := by
  unfold zcopy
  by_cases h : j ≤ k ∧ k < j + n
  · rw [if_pos ⟨rfl, h⟩, if_pos h]
  · rw [if_neg (fun hh => h hh.2), if_neg h]
theorem ar_cx {a b j n x : Nat} {k : Int} (hn : j + n ≤ 12) (hx : x < 12) (hk : 0 ≤ k) (hne : ¬ k.toNat = b) : ¬ (12 * b + j ≤ 12 * k.toNat + x ∧ 12 * k.toNat + x < 12 * b + j + n) := by omega
theorem RSt_copy {ha hb i j n : Nat} (hS : RSt f g TH) (la : ha < 14) (lb : hb < 14) (a0 : 0 ≤ hC f ha) (b0 : 0 ≤ hC f hb) (hi : ((i + n : Nat) : Int) ≤ f 32 (hC f ha).toNat) (hj : ((j + n : Nat) : Int) ≤ f 32 (hC f hb).toNat) : RSt (zcopy f (34 + (hC f ha).toNat) i (34 + (hC f hb).toNat) j n) (cqM g (12 * (g 175 ha).toNat + i) n (12 * (g 175 hb).toNat + j) n) TH := by
  obtain ⟨A1, A2, A3, A4, A5, A6, A7, A8⟩ := (hS.rw ha la).resolve_left (fun q => by omega)
  obtain ⟨B1, B2, B3, B4, B5, B6, B7, B8⟩ := (hS.rw hb lb).resolve_left (fun q => by omega)
  have cb := hS.cC (hC f hb).toNat (by omega)
  have hn12 : j + n ≤ 12 := by omega
  have ff : ∀ b k, ¬ b = 34 + (hC f hb).toNat → (zcopy f (34 + (hC f ha).toNat) i (34 + (hC f hb).toNat) j n) b k = f b k := fun b k h => zc_o h
  have hCm : ∀ k, hC (zcopy f (34 + (hC f ha).toNat) i (34 + (hC f hb).toNat) j n) k = hC f k := hC_eq (fun k => ff 29 k (by omega)) (fun k => ff 30 k (by omega))
  refine RSt_r hS (fun b k h1 h2 => ff b k (by omega)) (fun b k h => cq_o (by omega) (by omega)) (cq_o (by omega) (by omega)) ?_ ?_ ?_ ?_
  · intro k hk
    rw [hCm, cq_o (b := 175) (by omega) (by omega)]
    rcases hS.rw k hk with q | q
    · exact Or.inl q
    · right
      obtain ⟨q1, q2, q3, q4, q5, q6, q7, q8⟩ := q
      rw [ff 31 _ (by omega), ff 32 _ (by omega), cq_o (b := 176) (by omega) (by omega), cq_o (b := 177) (by omega) (by omega)]
      refine ⟨q1, q2, q3, q4, q5, q6, q7, fun x hx => ?_⟩
      have hij := hS.inj k hb hk lb q1 b0
      have hcc := hS.cC (hC f k).toNat (by omega)
      rw [cq_178]
      by_cases e : hC f k = hC f hb
      · have e2 := hij.mp e
        rw [e, e2, zc_v]
        by_cases ej : j ≤ x ∧ x < j + n
        · rw [if_pos ej, if_pos (by omega), A8 (i + (x - j)) (by omega)]
          congr 1
          omega
        · rw [if_neg ej, if_neg (by omega), ← e, ← e2]; exact q8 x hx
      · have e2 : ¬ g 175 k = g 175 hb := fun hh => e (hij.mpr hh)
        rw [ff _ _ (by omega), if_neg (ar_cx (a := 0) hn12 (by omega) q3 (by omega))]; exact q8 x hx
  · intro a b ha hb h1 h2
    rw [hCm] at h1 h2
    rw [hCm, hCm, cq_o (b := 175) (by omega) (by omega), cq_o (b := 175) (by omega) (by omega)]
    exact hS.inj a b ha hb h1 h2
  · intro n hn; rw [ff 32 n (by omega)]; exact hS.cC n hn
  · intro n hn; rw [cq_o (b := 177) (by omega) (by omega)]; exact hS.cM n hn
theorem RC_copy {ha hb i j n : Nat} (h : RC f) (hr : ∀ k : Nat, k < 14 → hC f k < 15) (la : ha < 14) (lb : hb < 14) (a0 : 0 ≤ hC f ha) (b0 : 0 ≤ hC f hb) (hk : f 31 (hC f ha).toNat = f 31 (hC f hb).toNat) (hi : ((i + n : Nat) : Int) ≤ f 32 (hC f ha).toNat) : RC (zcopy f (34 + (hC f ha).toNat) i (34 + (hC f hb).toNat) j n) := by
  have hb15 := hr hb lb
  have ff : ∀ b k, ¬ b = 34 + (hC f hb).toNat → (zcopy f (34 + (hC f ha).toNat) i (34 + (hC f hb).toNat) j n) b k = f b k := fun b k h => zc_o h
  have hCm : ∀ k, hC (zcopy f (34 + (hC f ha).toNat) i (34 + (hC f hb).toNat) j n) k = hC f k := hC_eq (fun k => ff 29 k (by omega)) (fun k => ff 30 k (by omega))
  refine ⟨fun k hk h1 => ?_, fun s x hs hx => ?_, fun k hk' h0 x hx => ?_⟩
  · rw [ff 20 k (by omega)] at h1
    rw [ff 21 k (by omega)]; exact h.n k hk h1
  · rw [ff 27 s (by omega)] at hx
    rw [ff _ _ (by omega)]; exact h.p s x hs hx
  · have hq15 := hr k hk'
    rw [hCm] at h0 hx ⊢
    rw [ff 32 _ (by omega)] at hx
    rw [ff 31 _ (by omega)]
    by_cases e : hC f k = hC f hb
    · rw [e, zc_v]
      by_cases ej : j ≤ x ∧ x < j + n
      · rw [if_pos ej, ← hk]; exact h.i ha la a0 _ (by omega)
      · rw [if_neg ej, ← e]; exact h.i k hk' h0 x hx
    · rw [ff _ _ (by omega)]; exact h.i k hk' h0 x hx
theorem ar_c3 {a b I J N : Nat} {u v : Int} (h1 : (I : Int) + N ≤ u) (h2 : (J : Int) + N ≤ v) (hu : u ≤ 12) (hv : v ≤ 12) (ha : (a : Int) < 16) (ha2 : (a : Int) < 15) (hb2 : (b : Int) < 15) : 12 * a + I + N ≤ 192 ∧ 12 * b + J + N ≤ 192 ∧ N ≤ 12 ∧ ¬ (N : Int) < 0 ∧ ¬ (I : Int) < 0 ∧ ¬ (J : Int) < 0 ∧ ¬ u < (I : Int) + N ∧ ¬ v < (J : Int) + N := by omega
theorem Rel_st2 {TH' : Nat} (h : RelX X TH f t g) (hf : ∀ b j, b < 20 ∨ 48 < b → ¬ b = 149 → ¬ b = 150 → f' b j = f b j) (hg : ∀ b j, ¬ (b = 178 ∨ b = 184) → g' b j = g b j) (hs : RSt f' g' TH') (hc : RC f') : RelX X TH' f' t g' :=
  RelX_mk ⟨Rtape_fr h.tp (fun b j hh => hf b j (by omega) (by omega) (by omega)) (fun b j hh => hg b j (by omega)), Rtext_fr h.tx (fun b j hh => hf b j (by omega) (by omega) (by omega)) (fun b j hh => hg b j (by omega)), Rout_fr h.ou (fun b j hh => hf b j (by omega) (by omega) (by omega)) (fun b j hh => hg b j (by omega)), hs, hc, Rrun_fr h.rn (fun b j hh => hf b j (by omega) (by omega) (by omega)) (fun b j hh => hg b j (by omega)), Rflt_fr h.fl (fun b j hh => hf b j (by omega) (by omega) (by omega)) (fun b j hh => hg b j (by omega))⟩
theorem B_copy {p i q j n : Int} (ri : R32 i) (rj : R32 j) (rn : R32 n) : Both tI m_T_copy [some (tA 1), some (tI p), some (tI i), some (tI q), some (tI j), some (tI n), none, none] m_M_copy [some (tA 156), some (tI p), some (tI i), some (tI q), some (tI j), some (tI n), none, none, none] := by
  refine Both_of (fun L d X TH f t g Q hR hQ => ?_)
  by_cases hk : (0 ≤ p ∧ p ≤ 7) ∧ (0 ≤ q ∧ q ≤ 7)
  · obtain ⟨hp, hq⟩ := hk
    have hp' : 0 ≤ p ∧ p < 8 := by omega
    have hq' : 0 ≤ q ∧ q < 8 := by omega
    obtain ⟨x, rfl⟩ : ∃ n : Nat, p = (n : Int) := ⟨p.toNat, by omega⟩
    obtain ⟨y, rfl⟩ : ∃ n : Nat, q = (n : Int) := ⟨q.toNat, by omega⟩
    have e1 : plH f x = hC f (6 + x) := by unfold plH; rw [if_pos hp', Int.toNat_natCast, hC_p]
    have e2 : plH f y = hC f (6 + y) := by unfold plH; rw [if_pos hq', Int.toNat_natCast, hC_p]
    have w1 : w32 (6 + (x : Int)) = ((6 + x : Nat) : Int) := by rw [w32_id (by omega) (by omega)]; omega
    have w2 : w32 (6 + (y : Int)) = ((6 + y : Nat) : Int) := by rw [w32_id (by omega) (by omega)]; omega
    have x1 : (0 : Int) ≤ ((6 + x : Nat) : Int) := by omega
    have x2 : ((6 + x : Nat) : Int) < 14 := by omega
    have y1 : (0 : Int) ≤ ((6 + y : Nat) : Int) := by omega
    have y2 : ((6 + y : Nat) : Int) < 14 := by omega
    have rx := hR.st.rw (6 + x) (by omega)
    have ry := hR.st.rw (6 + y) (by omega)
    by_cases hno : hC f (6 + x) = -1 ∨ hC f (6 + y) = -1
    · have hst : VV L (d + 200) m_T_copy 0 [some (tA 1), some (tI x), some (tI i), some (tI y), some (tI j), some (tI n), none, none] [] (WW f t g) Q = Q (some (tI (-11))) (WW f t g) := by
        by_cases h1 : hC f (6 + x) = -1
        · simp only [u_T_copy_0, u_T_copy_1, u_T_copy_4, u_T_copy_7, u_T_copy_8, u_T_copy_11, u_T_copy_14, u_T_copy_15, u_T_copy_16, u_T_copy_17, u_T_copy_20, u_T_copy_21, u_T_copy_24, u_T_copy_26, u_T_copy_27, u_T_copy_30, u_T_copy_31, u_T_copy_34, u_T_copy_36, u_T_copy_38, u_T_copy_39, u_T_copy_42, u_T_copy_44, u_T_copy_45, u_T_copy_48, u_T_copy_50, u_T_copy_51, u_T_copy_52, u_T_copy_55, u_T_copy_57, u_T_copy_60, u_T_copy_61, u_T_copy_64, u_T_copy_66, u_T_copy_69, u_T_copy_72, u_T_copy_74, u_T_copy_75, u_T_copy_76, u_T_copy_79, u_T_copy_81, u_T_copy_82, u_T_copy_84, u_T_copy_87, u_T_copy_90, u_T_copy_91, u_T_copy_94, u_T_copy_96, u_T_copy_98, u_T_copy_100, u_T_copy_103, u_T_copy_106, u_T_copy_108, u_T_copy_109, u_T_copy_110, u_T_copy_113, u_T_copy_115, u_T_copy_116, u_T_copy_118, u_T_copy_120, u_T_copy_122, u_T_copy_125, u_T_copy_127, h1_1, gt_1_8, h1_28, ne_eq, not_false_eq_true, not_true_eq_false, true_and, and_true, true_or, or_true, eq_self, Option.toList_some, Option.toList_none, List.cons_append, List.nil_append, tc_0, tc_I, tc_L, tc_A, Nat.reduceAdd, Nat.reduceLeDiff, Nat.reduceEqDiff, Int.reduceEq, Int.reduceLT, Int.reduceLE, Int.reduceNeg, Int.reduceToNat, Int.cast_ofNat_Int, if_true, if_false, and_self, or_self, ite_self, bI_0, bI_1, bI_01, Bool.false_eq_true, reduceCtorEq, s_Sf_isPlace, hp', hq', and_self, decide_true, bB_t, s_Sf_heldAtPlace, e1, e2, h1]
        · have h2 : hC f (6 + y) = -1 := hno.resolve_left h1
          simp only [u_T_copy_0, u_T_copy_1, u_T_copy_4, u_T_copy_7, u_T_copy_8, u_T_copy_11, u_T_copy_14, u_T_copy_15, u_T_copy_16, u_T_copy_17, u_T_copy_20, u_T_copy_21, u_T_copy_24, u_T_copy_26, u_T_copy_27, u_T_copy_30, u_T_copy_31, u_T_copy_34, u_T_copy_36, u_T_copy_38, u_T_copy_39, u_T_copy_42, u_T_copy_44, u_T_copy_45, u_T_copy_48, u_T_copy_50, u_T_copy_51, u_T_copy_52, u_T_copy_55, u_T_copy_57, u_T_copy_60, u_T_copy_61, u_T_copy_64, u_T_copy_66, u_T_copy_69, u_T_copy_72, u_T_copy_74, u_T_copy_75, u_T_copy_76, u_T_copy_79, u_T_copy_81, u_T_copy_82, u_T_copy_84, u_T_copy_87, u_T_copy_90, u_T_copy_91, u_T_copy_94, u_T_copy_96, u_T_copy_98, u_T_copy_100, u_T_copy_103, u_T_copy_106, u_T_copy_108, u_T_copy_109, u_T_copy_110, u_T_copy_113, u_T_copy_115, u_T_copy_116, u_T_copy_118, u_T_copy_120, u_T_copy_122, u_T_copy_125, u_T_copy_127, h1_1, gt_1_8, h1_28, ne_eq, not_false_eq_true, not_true_eq_false, true_and, and_true, true_or, or_true, eq_self, Option.toList_some, Option.toList_none, List.cons_append, List.nil_append, tc_0, tc_I, tc_L, tc_A, Nat.reduceAdd, Nat.reduceLeDiff, Nat.reduceEqDiff, Int.reduceEq, Int.reduceLT, Int.reduceLE, Int.reduceNeg, Int.reduceToNat, Int.cast_ofNat_Int, if_true, if_false, and_self, or_self, ite_self, bI_0, bI_1, bI_01, Bool.false_eq_true, reduceCtorEq, s_Sf_isPlace, hp', hq', and_self, decide_true, bB_t, s_Sf_heldAtPlace, e1, e2, h1, h2]
      rw [hst]
      refine hQ _ f t (RefP_0 hR (fun L d Q => ?_))
      by_cases h1 : g 175 (6 + x) < 0
      · simp only [u_M_copy_0, u_M_copy_1, u_M_copy_4, u_M_copy_7, u_M_copy_8, u_M_copy_11, u_M_copy_14, u_M_copy_15, u_M_copy_16, u_M_copy_17, u_M_copy_20, u_M_copy_22, u_M_copy_23, u_M_copy_24, u_M_copy_25, u_M_copy_27, u_M_copy_28, u_M_copy_31, u_M_copy_33, u_M_copy_34, u_M_copy_35, u_M_copy_36, u_M_copy_38, u_M_copy_40, u_M_copy_43, u_M_copy_45, u_M_copy_48, u_M_copy_50, h1_156, gt_156_37, h1_175, h2_175, gt_175, pt_175, ne_eq, not_false_eq_true, not_true_eq_false, true_and, and_true, true_or, or_true, eq_self, Option.toList_some, Option.toList_none, List.cons_append, List.nil_append, tc_0, tc_I, tc_L, tc_A, Nat.reduceAdd, Nat.reduceLeDiff, Nat.reduceEqDiff, Int.reduceEq, Int.reduceLT, Int.reduceLE, Int.reduceNeg, Int.reduceToNat, Int.cast_ofNat_Int, if_true, if_false, and_self, or_self, ite_self, bI_0, bI_1, bI_01, Bool.false_eq_true, reduceCtorEq, s_M_isPlace, hp, hq, and_self, decide_true, bB_t, w1, w2, x1, x2, y1, y2, Int.toNat_natCast, h1]
      · have h2 : g 175 (6 + y) = -1 := by omega
        simp only [u_M_copy_0, u_M_copy_1, u_M_copy_4, u_M_copy_7, u_M_copy_8, u_M_copy_11, u_M_copy_14, u_M_copy_15, u_M_copy_16, u_M_copy_17, u_M_copy_20, u_M_copy_22, u_M_copy_23, u_M_copy_24, u_M_copy_25, u_M_copy_27, u_M_copy_28, u_M_copy_31, u_M_copy_33, u_M_copy_34, u_M_copy_35, u_M_copy_36, u_M_copy_38, u_M_copy_40, u_M_copy_43, u_M_copy_45, u_M_copy_48, u_M_copy_50, h1_156, gt_156_37, h1_175, h2_175, gt_175, pt_175, ne_eq, not_false_eq_true, not_true_eq_false, true_and, and_true, true_or, or_true, eq_self, Option.toList_some, Option.toList_none, List.cons_append, List.nil_append, tc_0, tc_I, tc_L, tc_A, Nat.reduceAdd, Nat.reduceLeDiff, Nat.reduceEqDiff, Int.reduceEq, Int.reduceLT, Int.reduceLE, Int.reduceNeg, Int.reduceToNat, Int.cast_ofNat_Int, if_true, if_false, and_self, or_self, ite_self, bI_0, bI_1, bI_01, Bool.false_eq_true, reduceCtorEq, s_M_isPlace, hp, hq, and_self, decide_true, bB_t, w1, w2, x1, x2, y1, y2, Int.toNat_natCast, h1, h2]
    · have nx : ¬ hC f (6 + x) = -1 := fun h => hno (Or.inl h)
      have ny : ¬ hC f (6 + y) = -1 := fun h => hno (Or.inr h)
      obtain ⟨A1, A2, A3, A4, A5, A6, A7, A8⟩ := rx.resolve_left (fun q => nx q.1)
      obtain ⟨B1, B2, B3, B4, B5, B6, B7, B8⟩ := ry.resolve_left (fun q => ny q.1)
      clear rx ry hno
      obtain ⟨A, hA⟩ : ∃ A : Nat, hC f (6 + x) = (A : Int) := ⟨(hC f (6 + x)).toNat, by omega⟩
      obtain ⟨B, hB⟩ : ∃ B : Nat, hC f (6 + y) = (B : Int) := ⟨(hC f (6 + y)).toNat, by omega⟩
      obtain ⟨a, hga⟩ : ∃ a : Nat, g 175 (6 + x) = (a : Int) := ⟨(g 175 (6 + x)).toNat, by omega⟩
      obtain ⟨b, hgb⟩ : ∃ b : Nat, g 175 (6 + y) = (b : Int) := ⟨(g 175 (6 + y)).toNat, by omega⟩
      have lA : A < 15 := by omega
      have lB : B < 15 := by omega
      rw [hA, hga, Int.toNat_natCast, Int.toNat_natCast] at A5 A6
      rw [hB, hgb, Int.toNat_natCast, Int.toNat_natCast] at B5 B6
      have ekA : kdS f A = f 31 A := by unfold kdS; rw [if_pos (by omega), Int.toNat_natCast]
      have ekB : kdS f B = f 31 B := by unfold kdS; rw [if_pos (by omega), Int.toNat_natCast]
      have nA : ¬ (A : Int) = -1 := by omega
      have nB' : ¬ (B : Int) = -1 := by omega
      have ga0 : ¬ (a : Int) < 0 := by omega
      have gb0 : (0 : Int) ≤ b := by omega
      have ga1 : (0 : Int) ≤ a := by omega
      have ga16 : (a : Int) < 16 := by omega
      have gb16 : (b : Int) < 16 := by omega
      by_cases hkd : f 31 A = f 31 B
      · have hkd' : g 176 a = g 176 b := by rw [← A5, ← B5]; exact hkd
        have A15 : 0 ≤ (A : Int) ∧ (A : Int) < 15 := by omega
        have B15 : 0 ≤ (B : Int) ∧ (B : Int) < 15 := by omega
        have cA := hR.st.cC A lA
        have cB := hR.st.cC B lB
        by_cases hsp : (0 ≤ n ∧ 0 ≤ i ∧ i + n ≤ f 32 A) ∧ (0 ≤ n ∧ 0 ≤ j ∧ j + n ≤ f 32 B)
        · obtain ⟨N, rfl⟩ : ∃ m : Nat, n = (m : Int) := ⟨n.toNat, by omega⟩
          obtain ⟨I, rfl⟩ : ∃ m : Nat, i = (m : Int) := ⟨i.toNat, by omega⟩
          obtain ⟨J, rfl⟩ : ∃ m : Nat, j = (m : Int) := ⟨j.toNat, by omega⟩
          obtain ⟨s1, s2⟩ := hsp
          have hI : ((I + N : Nat) : Int) ≤ f 32 A := by omega
          have hJ : ((J + N : Nat) : Int) ≤ f 32 B := by omega
          have s1' : 0 ≤ (N : Int) ∧ 0 ≤ (I : Int) ∧ (I : Int) + N ≤ f 32 ((A : Int)).toNat := by rw [Int.toNat_natCast]; exact s1
          have s2' : 0 ≤ (N : Int) ∧ 0 ≤ (J : Int) ∧ (J : Int) + N ≤ f 32 ((B : Int)).toNat := by rw [Int.toNat_natCast]; exact s2
          have d1 : decide (0 ≤ (N : Int) ∧ 0 ≤ (I : Int) ∧ (I : Int) + N ≤ f 32 ((A : Int)).toNat) = true := decide_eq_true s1'
          have d2 : decide (0 ≤ (N : Int) ∧ 0 ≤ (J : Int) ∧ (J : Int) + N ≤ f 32 ((B : Int)).toNat) = true := decide_eq_true s2'
          have sp1 : ∀ D Q, VV L (D + 1) m_Sf_spans 0 [some (tA 28), some (tI A), some (tI I), some (tI N)] [] (WW f t g) Q = Q (some (tI 1)) (WW f t g) := fun D Q => by rw [s_Sf_spans hR.st A15 rfl rn, d1]; rfl
          have sp2 : ∀ D Q, VV L (D + 1) m_Sf_spans 0 [some (tA 28), some (tI B), some (tI J), some (tI N)] [] (WW f t g) Q = Q (some (tI 1)) (WW f t g) := fun D Q => by rw [s_Sf_spans hR.st B15 rfl rn, d2]; rfl
          simp only [u_T_copy_0, u_T_copy_1, u_T_copy_4, u_T_copy_7, u_T_copy_8, u_T_copy_11, u_T_copy_14, u_T_copy_15, u_T_copy_16, u_T_copy_17, u_T_copy_20, u_T_copy_21, u_T_copy_24, u_T_copy_26, u_T_copy_27, u_T_copy_30, u_T_copy_31, u_T_copy_34, u_T_copy_36, u_T_copy_38, u_T_copy_39, u_T_copy_42, u_T_copy_44, u_T_copy_45, u_T_copy_48, u_T_copy_50, u_T_copy_51, u_T_copy_52, u_T_copy_55, u_T_copy_57, u_T_copy_60, u_T_copy_61, u_T_copy_64, u_T_copy_66, u_T_copy_69, u_T_copy_72, u_T_copy_74, u_T_copy_75, u_T_copy_76, u_T_copy_79, u_T_copy_81, u_T_copy_82, u_T_copy_84, u_T_copy_87, u_T_copy_90, u_T_copy_91, u_T_copy_94, u_T_copy_96, u_T_copy_98, u_T_copy_100, u_T_copy_103, u_T_copy_106, u_T_copy_108, u_T_copy_109, u_T_copy_110, u_T_copy_113, u_T_copy_115, u_T_copy_116, u_T_copy_118, u_T_copy_120, u_T_copy_122, u_T_copy_125, u_T_copy_127, h1_1, gt_1_8, h1_28, ne_eq, not_false_eq_true, not_true_eq_false, true_and, and_true, true_or, or_true, eq_self, Option.toList_some, Option.toList_none, List.cons_append, List.nil_append, tc_0, tc_I, tc_L, tc_A, Nat.reduceAdd, Nat.reduceLeDiff, Nat.reduceEqDiff, Int.reduceEq, Int.reduceLT, Int.reduceLE, Int.reduceNeg, Int.reduceToNat, Int.cast_ofNat_Int, if_true, if_false, and_self, or_self, ite_self, bI_0, bI_1, bI_01, Bool.false_eq_true, reduceCtorEq, s_Sf_isPlace, hp', hq', and_self, decide_true, bB_t, s_Sf_heldAtPlace, e1, e2, hA, hB, nA, nB', s_Sf_kindOf, ekA, ekB, hkd, sp1, sp2, s_Sf_carry hR.st lA lB hI hJ]
          refine hQ _ _ t (fun L d Q hq2 => ?_)
          have g1 : g 177 a = f 32 A := A6.symm
          have g2 : g 177 b = f 32 B := B6.symm
          have v1 : w64 ((I : Int) + N) = I + N := R32_add ri rn
          have v2 : w64 ((J : Int) + N) = J + N := R32_add rj rn
          have u1 : (I : Int) + N ≤ f 32 A := s1.2.2
          have u2 : (J : Int) + N ≤ f 32 B := s2.2.2
          obtain ⟨z1, z2, z3, z4, z5, z6, z7, z8⟩ := ar_c3 (a := a) (b := b) u1 u2 cA.2 cB.2 ga16 (by rw [← hga]; exact A4) (by rw [← hgb]; exact B4)
          have hl := l_cp1 (L := L) (d := d + 200) (t := t) (g := g) (Q := Q) (F := zcopy f (34 + A) I (34 + B) J N) (x1 := x) (x3 := y) (a := a) (b := b) (i := I) (j := J) (n := N) z1 z2 z3 N 0 (Nat.zero_add N)
          rw [kpM_0] at hl
          have hst : VV L (d + 200) m_M_copy 0 [some (tA 156), some (tI x), some (tI I), some (tI y), some (tI J), some (tI N), none, none, none] [] (WW (zcopy f (34 + A) I (34 + B) J N) t g) Q = VV L (d + 200) m_M_copy 128 [some (tA 156), some (tI x), some (tI I), some (tI y), some (tI J), some (tI N), some (tI a), some (tI b), some (tI ((0 : Nat) : Int))] [] (WW (zcopy f (34 + A) I (34 + B) J N) t g) Q := by
            simp only [u_M_copy_0, u_M_copy_1, u_M_copy_4, u_M_copy_7, u_M_copy_8, u_M_copy_11, u_M_copy_14, u_M_copy_15, u_M_copy_16, u_M_copy_17, u_M_copy_20, u_M_copy_22, u_M_copy_23, u_M_copy_24, u_M_copy_25, u_M_copy_27, u_M_copy_28, u_M_copy_31, u_M_copy_33, u_M_copy_34, u_M_copy_35, u_M_copy_36, u_M_copy_38, u_M_copy_40, u_M_copy_43, u_M_copy_45, u_M_copy_48, u_M_copy_50, u_M_copy_51, u_M_copy_52, u_M_copy_55, u_M_copy_57, u_M_copy_58, u_M_copy_59, u_M_copy_62, u_M_copy_64, u_M_copy_65, u_M_copy_68, u_M_copy_70, u_M_copy_71, u_M_copy_73, u_M_copy_76, u_M_copy_77, u_M_copy_80, u_M_copy_82, u_M_copy_85, u_M_copy_86, u_M_copy_87, u_M_copy_89, u_M_copy_90, u_M_copy_91, u_M_copy_92, u_M_copy_95, u_M_copy_97, u_M_copy_98, u_M_copy_99, u_M_copy_100, u_M_copy_103, u_M_copy_105, u_M_copy_106, u_M_copy_108, u_M_copy_109, u_M_copy_110, u_M_copy_111, u_M_copy_114, u_M_copy_116, u_M_copy_117, u_M_copy_118, u_M_copy_119, u_M_copy_122, u_M_copy_124, u_M_copy_125, u_M_copy_126, h1_156, gt_156_37, gt_156_39, gt_156_40, h1_175, h2_175, gt_175, pt_175, h1_176, h2_176, gt_176, pt_176, h1_177, h2_177, gt_177, pt_177, ne_eq, not_false_eq_true, not_true_eq_false, true_and, and_true, true_or, or_true, eq_self, Option.toList_some, Option.toList_none, List.cons_append, List.nil_append, tc_0, tc_I, tc_L, tc_A, Nat.reduceAdd, Nat.reduceLeDiff, Nat.reduceEqDiff, Int.reduceEq, Int.reduceLT, Int.reduceLE, Int.reduceNeg, Int.reduceToNat, Int.cast_ofNat_Int, if_true, if_false, and_self, or_self, ite_self, bI_0, bI_1, bI_01, Bool.false_eq_true, reduceCtorEq, s_M_isPlace, hp, hq, and_self, decide_true, bB_t, w1, w2, x1, x2, y1, y2, Int.toNat_natCast, hga, hgb, ga0, ga1, gb0, ga16, gb16, hkd', lc_le, v1, v2, g1, g2, u1, u2, z4, z5, z6, lc_gt, z7, z8]
          rw [hst, hl]
          have hs := RSt_copy (i := I) (j := J) (n := N) hR.st (show 6 + x < 14 by omega) (show 6 + y < 14 by omega) A1 B1 (by rw [hA, Int.toNat_natCast]; exact hI) (by rw [hB, Int.toNat_natCast]; exact hJ)
          have hc := RC_copy (i := I) (j := J) (n := N) hR.rc (hC_15 hR.st) (show 6 + x < 14 by omega) (show 6 + y < 14 by omega) A1 B1 (by rw [hA, hB, Int.toNat_natCast, Int.toNat_natCast]; exact hkd) (by rw [hA, Int.toNat_natCast]; exact hI)
          rw [hA, hB, hga, hgb] at hs
          rw [hA, hB] at hc
          simp only [Int.toNat_natCast] at hs hc
          refine hq2 _ ⟨X, TH, Rel_st2 hR (fun b' j' h1 h2 h3 => zc_o (by omega)) (fun b' j' hh => cq_o (by omega) (by omega)) hs hc⟩ (fun j' => cq_o (by omega) (by omega))
        · have hst : VV L (d + 200) m_T_copy 0 [some (tA 1), some (tI x), some (tI i), some (tI y), some (tI j), some (tI n), none, none] [] (WW f t g) Q = Q (some (tI (-13))) (WW f t g) := by
            by_cases s1 : 0 ≤ n ∧ 0 ≤ i ∧ i + n ≤ f 32 A
            · have s2 : ¬ (0 ≤ n ∧ 0 ≤ j ∧ j + n ≤ f 32 B) := fun h => hsp ⟨s1, h⟩
              have d1 : decide (0 ≤ n ∧ 0 ≤ i ∧ i + n ≤ f 32 ((A : Int)).toNat) = true := decide_eq_true (by rw [Int.toNat_natCast]; exact s1)
              have d2 : decide (0 ≤ n ∧ 0 ≤ j ∧ j + n ≤ f 32 ((B : Int)).toNat) = false := decide_eq_false (by rw [Int.toNat_natCast]; exact s2)
              have sp1 : ∀ D Q, VV L (D + 1) m_Sf_spans 0 [some (tA 28), some (tI A), some (tI i), some (tI n)] [] (WW f t g) Q = Q (some (tI 1)) (WW f t g) := fun D Q => by rw [s_Sf_spans hR.st A15 rfl rn, d1]; rfl
              have sp2 : ∀ D Q, VV L (D + 1) m_Sf_spans 0 [some (tA 28), some (tI B), some (tI j), some (tI n)] [] (WW f t g) Q = Q (some (tI 0)) (WW f t g) := fun D Q => by rw [s_Sf_spans hR.st B15 rfl rn, d2]; rfl
              simp only [u_T_copy_0, u_T_copy_1, u_T_copy_4, u_T_copy_7, u_T_copy_8, u_T_copy_11, u_T_copy_14, u_T_copy_15, u_T_copy_16, u_T_copy_17, u_T_copy_20, u_T_copy_21, u_T_copy_24, u_T_copy_26, u_T_copy_27, u_T_copy_30, u_T_copy_31, u_T_copy_34, u_T_copy_36, u_T_copy_38, u_T_copy_39, u_T_copy_42, u_T_copy_44, u_T_copy_45, u_T_copy_48, u_T_copy_50, u_T_copy_51, u_T_copy_52, u_T_copy_55, u_T_copy_57, u_T_copy_60, u_T_copy_61, u_T_copy_64, u_T_copy_66, u_T_copy_69, u_T_copy_72, u_T_copy_74, u_T_copy_75, u_T_copy_76, u_T_copy_79, u_T_copy_81, u_T_copy_82, u_T_copy_84, u_T_copy_87, u_T_copy_90, u_T_copy_91, u_T_copy_94, u_T_copy_96, u_T_copy_98, u_T_copy_100, u_T_copy_103, u_T_copy_106, u_T_copy_108, u_T_copy_109, u_T_copy_110, u_T_copy_113, u_T_copy_115, u_T_copy_116, u_T_copy_118, u_T_copy_120, u_T_copy_122, u_T_copy_125, u_T_copy_127, h1_1, gt_1_8, h1_28, ne_eq, not_false_eq_true, not_true_eq_false, true_and, and_true, true_or, or_true, eq_self, Option.toList_some, Option.toList_none, List.cons_append, List.nil_append, tc_0, tc_I, tc_L, tc_A, Nat.reduceAdd, Nat.reduceLeDiff, Nat.reduceEqDiff, Int.reduceEq, Int.reduceLT, Int.reduceLE, Int.reduceNeg, Int.reduceToNat, Int.cast_ofNat_Int, if_true, if_false, and_self, or_self, ite_self, bI_0, bI_1, bI_01, Bool.false_eq_true, reduceCtorEq, s_Sf_isPlace, hp', hq', and_self, decide_true, bB_t, s_Sf_heldAtPlace, e1, e2, hA, hB, nA, nB', s_Sf_kindOf, ekA, ekB, hkd, sp1, sp2]
            · have d1 : decide (0 ≤ n ∧ 0 ≤ i ∧ i + n ≤ f 32 ((A : Int)).toNat) = false := decide_eq_false (by rw [Int.toNat_natCast]; exact s1)
              have sp1 : ∀ D Q, VV L (D + 1) m_Sf_spans 0 [some (tA 28), some (tI A), some (tI i), some (tI n)] [] (WW f t g) Q = Q (some (tI 0)) (WW f t g) := fun D Q => by rw [s_Sf_spans hR.st A15 rfl rn, d1]; rfl
              simp only [u_T_copy_0, u_T_copy_1, u_T_copy_4, u_T_copy_7, u_T_copy_8, u_T_copy_11, u_T_copy_14, u_T_copy_15, u_T_copy_16, u_T_copy_17, u_T_copy_20, u_T_copy_21, u_T_copy_24, u_T_copy_26, u_T_copy_27, u_T_copy_30, u_T_copy_31, u_T_copy_34, u_T_copy_36, u_T_copy_38, u_T_copy_39, u_T_copy_42, u_T_copy_44, u_T_copy_45, u_T_copy_48, u_T_copy_50, u_T_copy_51, u_T_copy_52, u_T_copy_55, u_T_copy_57, u_T_copy_60, u_T_copy_61, u_T_copy_64, u_T_copy_66, u_T_copy_69, u_T_copy_72, u_T_copy_74, u_T_copy_75, u_T_copy_76, u_T_copy_79, u_T_copy_81, u_T_copy_82, u_T_copy_84, u_T_copy_87, u_T_copy_90, u_T_copy_91, u_T_copy_94, u_T_copy_96, u_T_copy_98, u_T_copy_100, u_T_copy_103, u_T_copy_106, u_T_copy_108, u_T_copy_109, u_T_copy_110, u_T_copy_113, u_T_copy_115, u_T_copy_116, u_T_copy_118, u_T_copy_120, u_T_copy_122, u_T_copy_125, u_T_copy_127, h1_1, gt_1_8, h1_28, ne_eq, not_false_eq_true, not_true_eq_false, true_and, and_true, true_or, or_true, eq_self, Option.toList_some, Option.toList_none, List.cons_append, List.nil_append, tc_0, tc_I, tc_L, tc_A, Nat.reduceAdd, Nat.reduceLeDiff, Nat.reduceEqDiff, Int.reduceEq, Int.reduceLT, Int.reduceLE, Int.reduceNeg, Int.reduceToNat, Int.cast_ofNat_Int, if_true, if_false, and_self, or_self, ite_self, bI_0, bI_1, bI_01, Bool.false_eq_true, reduceCtorEq, s_Sf_isPlace, hp', hq', and_self, decide_true, bB_t, s_Sf_heldAtPlace, e1, e2, hA, hB, nA, nB', s_Sf_kindOf, ekA, ekB, hkd, sp1]
          rw [hst]
          refine hQ _ f t (RefP_0 hR (fun L d Q => ?_))
          have g1 : g 177 a = f 32 A := A6.symm
          have g2 : g 177 b = f 32 B := B6.symm
          have v1 : w64 (i + n) = i + n := R32_add ri rn
          have v2 : w64 (j + n) = j + n := R32_add rj rn
          have hst0 : VV L (d + 200) m_M_copy 0 [some (tA 156), some (tI x), some (tI i), some (tI y), some (tI j), some (tI n), none, none, none] [] (WW f t g) Q = VV L (d + 200) m_M_copy 71 [some (tA 156), some (tI x), some (tI i), some (tI y), some (tI j), some (tI n), some (tI a), some (tI b), none] [] (WW f t g) Q := by
            simp only [u_M_copy_0, u_M_copy_1, u_M_copy_4, u_M_copy_7, u_M_copy_8, u_M_copy_11, u_M_copy_14, u_M_copy_15, u_M_copy_16, u_M_copy_17, u_M_copy_20, u_M_copy_22, u_M_copy_23, u_M_copy_24, u_M_copy_25, u_M_copy_27, u_M_copy_28, u_M_copy_31, u_M_copy_33, u_M_copy_34, u_M_copy_35, u_M_copy_36, u_M_copy_38, u_M_copy_40, u_M_copy_43, u_M_copy_45, u_M_copy_48, u_M_copy_50, u_M_copy_51, u_M_copy_52, u_M_copy_55, u_M_copy_57, u_M_copy_58, u_M_copy_59, u_M_copy_62, u_M_copy_64, u_M_copy_65, h1_156, gt_156_37, gt_156_39, h1_175, h2_175, gt_175, pt_175, h1_176, h2_176, gt_176, pt_176, ne_eq, not_false_eq_true, not_true_eq_false, true_and, and_true, true_or, or_true, eq_self, Option.toList_some, Option.toList_none, List.cons_append, List.nil_append, tc_0, tc_I, tc_L, tc_A, Nat.reduceAdd, Nat.reduceLeDiff, Nat.reduceEqDiff, Int.reduceEq, Int.reduceLT, Int.reduceLE, Int.reduceNeg, Int.reduceToNat, Int.cast_ofNat_Int, if_true, if_false, and_self, or_self, ite_self, bI_0, bI_1, bI_01, Bool.false_eq_true, reduceCtorEq, s_M_isPlace, hp, hq, and_self, decide_true, bB_t, w1, w2, x1, x2, y1, y2, Int.toNat_natCast, hga, hgb, ga0, ga1, gb0, ga16, gb16, hkd']
          rw [hst0]
          by_cases h1 : n < 0
          · simp only [u_M_copy_71, u_M_copy_73, u_M_copy_76, u_M_copy_77, u_M_copy_80, u_M_copy_82, u_M_copy_85, u_M_copy_86, u_M_copy_87, u_M_copy_89, u_M_copy_90, u_M_copy_91, u_M_copy_92, u_M_copy_95, u_M_copy_97, u_M_copy_98, u_M_copy_99, u_M_copy_100, u_M_copy_103, u_M_copy_105, u_M_copy_106, u_M_copy_108, u_M_copy_109, u_M_copy_110, u_M_copy_111, u_M_copy_114, u_M_copy_116, u_M_copy_117, u_M_copy_118, u_M_copy_119, u_M_copy_122, u_M_copy_124, ne_eq, not_false_eq_true, not_true_eq_false, true_and, and_true, true_or, or_true, eq_self, Option.toList_some, Option.toList_none, List.cons_append, List.nil_append, tc_0, tc_I, tc_L, tc_A, Nat.reduceAdd, Nat.reduceLeDiff, Nat.reduceEqDiff, Int.reduceEq, Int.reduceLT, Int.reduceLE, Int.reduceNeg, Int.reduceToNat, Int.cast_ofNat_Int, if_true, if_false, and_self, or_self, ite_self, bI_0, bI_1, bI_01, Bool.false_eq_true, reduceCtorEq, h1]
          · by_cases h2 : i < 0
            · simp only [u_M_copy_71, u_M_copy_73, u_M_copy_76, u_M_copy_77, u_M_copy_80, u_M_copy_82, u_M_copy_85, u_M_copy_86, u_M_copy_87, u_M_copy_89, u_M_copy_90, u_M_copy_91, u_M_copy_92, u_M_copy_95, u_M_copy_97, u_M_copy_98, u_M_copy_99, u_M_copy_100, u_M_copy_103, u_M_copy_105, u_M_copy_106, u_M_copy_108, u_M_copy_109, u_M_copy_110, u_M_copy_111, u_M_copy_114, u_M_copy_116, u_M_copy_117, u_M_copy_118, u_M_copy_119, u_M_copy_122, u_M_copy_124, ne_eq, not_false_eq_true, not_true_eq_false, true_and, and_true, true_or, or_true, eq_self, Option.toList_some, Option.toList_none, List.cons_append, List.nil_append, tc_0, tc_I, tc_L, tc_A, Nat.reduceAdd, Nat.reduceLeDiff, Nat.reduceEqDiff, Int.reduceEq, Int.reduceLT, Int.reduceLE, Int.reduceNeg, Int.reduceToNat, Int.cast_ofNat_Int, if_true, if_false, and_self, or_self, ite_self, bI_0, bI_1, bI_01, Bool.false_eq_true, reduceCtorEq, h1, h2]
            · by_cases h3 : j < 0
              · simp only [u_M_copy_71, u_M_copy_73, u_M_copy_76, u_M_copy_77, u_M_copy_80, u_M_copy_82, u_M_copy_85, u_M_copy_86, u_M_copy_87, u_M_copy_89, u_M_copy_90, u_M_copy_91, u_M_copy_92, u_M_copy_95, u_M_copy_97, u_M_copy_98, u_M_copy_99, u_M_copy_100, u_M_copy_103, u_M_copy_105, u_M_copy_106, u_M_copy_108, u_M_copy_109, u_M_copy_110, u_M_copy_111, u_M_copy_114, u_M_copy_116, u_M_copy_117, u_M_copy_118, u_M_copy_119, u_M_copy_122, u_M_copy_124, ne_eq, not_false_eq_true, not_true_eq_false, true_and, and_true, true_or, or_true, eq_self, Option.toList_some, Option.toList_none, List.cons_append, List.nil_append, tc_0, tc_I, tc_L, tc_A, Nat.reduceAdd, Nat.reduceLeDiff, Nat.reduceEqDiff, Int.reduceEq, Int.reduceLT, Int.reduceLE, Int.reduceNeg, Int.reduceToNat, Int.cast_ofNat_Int, if_true, if_false, and_self, or_self, ite_self, bI_0, bI_1, bI_01, Bool.false_eq_true, reduceCtorEq, h1, h2, h3]
              · by_cases h4 : f 32 A < i + n
                · simp only [u_M_copy_71, u_M_copy_73, u_M_copy_76, u_M_copy_77, u_M_copy_80, u_M_copy_82, u_M_copy_85, u_M_copy_86, u_M_copy_87, u_M_copy_89, u_M_copy_90, u_M_copy_91, u_M_copy_92, u_M_copy_95, u_M_copy_97, u_M_copy_98, u_M_copy_99, u_M_copy_100, u_M_copy_103, u_M_copy_105, u_M_copy_106, u_M_copy_108, u_M_copy_109, u_M_copy_110, u_M_copy_111, u_M_copy_114, u_M_copy_116, u_M_copy_117, u_M_copy_118, u_M_copy_119, u_M_copy_122, u_M_copy_124, h1_156, gt_156_40, h1_177, h2_177, gt_177, pt_177, ne_eq, not_false_eq_true, not_true_eq_false, true_and, and_true, true_or, or_true, eq_self, Option.toList_some, Option.toList_none, List.cons_append, List.nil_append, tc_0, tc_I, tc_L, tc_A, Nat.reduceAdd, Nat.reduceLeDiff, Nat.reduceEqDiff, Int.reduceEq, Int.reduceLT, Int.reduceLE, Int.reduceNeg, Int.reduceToNat, Int.cast_ofNat_Int, if_true, if_false, and_self, or_self, ite_self, bI_0, bI_1, bI_01, Bool.false_eq_true, reduceCtorEq, h1, h2, h3, lc_gt, v1, Int.toNat_natCast, ga1, ga16, g1, h4]
                · have h5 : ¬ j + n ≤ f 32 B := fun h => hsp ⟨⟨by omega, by omega, by omega⟩, by omega, by omega, h⟩
                  simp only [u_M_copy_71, u_M_copy_73, u_M_copy_76, u_M_copy_77, u_M_copy_80, u_M_copy_82, u_M_copy_85, u_M_copy_86, u_M_copy_87, u_M_copy_89, u_M_copy_90, u_M_copy_91, u_M_copy_92, u_M_copy_95, u_M_copy_97, u_M_copy_98, u_M_copy_99, u_M_copy_100, u_M_copy_103, u_M_copy_105, u_M_copy_106, u_M_copy_108, u_M_copy_109, u_M_copy_110, u_M_copy_111, u_M_copy_114, u_M_copy_116, u_M_copy_117, u_M_copy_118, u_M_copy_119, u_M_copy_122, u_M_copy_124, h1_156, gt_156_40, h1_177, h2_177, gt_177, pt_177, ne_eq, not_false_eq_true, not_true_eq_false, true_and, and_true, true_or, or_true, eq_self, Option.toList_some, Option.toList_none, List.cons_append, List.nil_append, tc_0, tc_I, tc_L, tc_A, Nat.reduceAdd, Nat.reduceLeDiff, Nat.reduceEqDiff, Int.reduceEq, Int.reduceLT, Int.reduceLE, Int.reduceNeg, Int.reduceToNat, Int.cast_ofNat_Int, if_true, if_false, and_self, or_self, ite_self, bI_0, bI_1, bI_01, Bool.false_eq_true, reduceCtorEq, h1, h2, h3, lc_gt, lc_le, v1, v2, Int.toNat_natCast, ga1, ga16, gb0, gb16, g1, g2, h4, h5]
      · have hkd' : ¬ g 176 a = g 176 b := by rw [← A5, ← B5]; exact hkd
        simp only [u_T_copy_0, u_T_copy_1, u_T_copy_4, u_T_copy_7, u_T_copy_8, u_T_copy_11, u_T_copy_14, u_T_copy_15, u_T_copy_16, u_T_copy_17, u_T_copy_20, u_T_copy_21, u_T_copy_24, u_T_copy_26, u_T_copy_27, u_T_copy_30, u_T_copy_31, u_T_copy_34, u_T_copy_36, u_T_copy_38, u_T_copy_39, u_T_copy_42, u_T_copy_44, u_T_copy_45, u_T_copy_48, u_T_copy_50, u_T_copy_51, u_T_copy_52, u_T_copy_55, u_T_copy_57, u_T_copy_60, u_T_copy_61, u_T_copy_64, u_T_copy_66, u_T_copy_69, u_T_copy_72, u_T_copy_74, u_T_copy_75, u_T_copy_76, u_T_copy_79, u_T_copy_81, u_T_copy_82, u_T_copy_84, u_T_copy_87, u_T_copy_90, u_T_copy_91, u_T_copy_94, u_T_copy_96, u_T_copy_98, u_T_copy_100, u_T_copy_103, u_T_copy_106, u_T_copy_108, u_T_copy_109, u_T_copy_110, u_T_copy_113, u_T_copy_115, u_T_copy_116, u_T_copy_118, u_T_copy_120, u_T_copy_122, u_T_copy_125, u_T_copy_127, h1_1, gt_1_8, h1_28, ne_eq, not_false_eq_true, not_true_eq_false, true_and, and_true, true_or, or_true, eq_self, Option.toList_some, Option.toList_none, List.cons_append, List.nil_append, tc_0, tc_I, tc_L, tc_A, Nat.reduceAdd, Nat.reduceLeDiff, Nat.reduceEqDiff, Int.reduceEq, Int.reduceLT, Int.reduceLE, Int.reduceNeg, Int.reduceToNat, Int.cast_ofNat_Int, if_true, if_false, and_self, or_self, ite_self, bI_0, bI_1, bI_01, Bool.false_eq_true, reduceCtorEq, s_Sf_isPlace, hp', hq', and_self, decide_true, bB_t, s_Sf_heldAtPlace, e1, e2, hA, hB, nA, nB', s_Sf_kindOf, ekA, ekB, hkd]
        refine hQ _ f t (RefP_0 hR (fun L d Q => ?_))
        simp only [u_M_copy_0, u_M_copy_1, u_M_copy_4, u_M_copy_7, u_M_copy_8, u_M_copy_11, u_M_copy_14, u_M_copy_15, u_M_copy_16, u_M_copy_17, u_M_copy_20, u_M_copy_22, u_M_copy_23, u_M_copy_24, u_M_copy_25, u_M_copy_27, u_M_copy_28, u_M_copy_31, u_M_copy_33, u_M_copy_34, u_M_copy_35, u_M_copy_36, u_M_copy_38, u_M_copy_40, u_M_copy_43, u_M_copy_45, u_M_copy_48, u_M_copy_50, u_M_copy_51, u_M_copy_52, u_M_copy_55, u_M_copy_57, u_M_copy_58, u_M_copy_59, u_M_copy_62, u_M_copy_64, u_M_copy_65, u_M_copy_68, u_M_copy_70, h1_156, gt_156_37, gt_156_39, h1_175, h2_175, gt_175, pt_175, h1_176, h2_176, gt_176, pt_176, ne_eq, not_false_eq_true, not_true_eq_false, true_and, and_true, true_or, or_true, eq_self, Option.toList_some, Option.toList_none, List.cons_append, List.nil_append, tc_0, tc_I, tc_L, tc_A, Nat.reduceAdd, Nat.reduceLeDiff, Nat.reduceEqDiff, Int.reduceEq, Int.reduceLT, Int.reduceLE, Int.reduceNeg, Int.reduceToNat, Int.cast_ofNat_Int, if_true, if_false, and_self, or_self, ite_self, bI_0, bI_1, bI_01, Bool.false_eq_true, reduceCtorEq, s_M_isPlace, hp, hq, and_self, decide_true, bB_t, w1, w2, x1, x2, y1, y2, Int.toNat_natCast, hga, hgb, ga0, ga1, gb0, ga16, gb16, hkd']
  · have hst : VV L (d + 200) m_T_copy 0 [some (tA 1), some (tI p), some (tI i), some (tI q), some (tI j), some (tI n), none, none] [] (WW f t g) Q = Q (some (tI (-1))) (WW f t g) := by
      by_cases h1 : 0 ≤ p ∧ p < 8
      · have h2 : ¬ (0 ≤ q ∧ q < 8) := by omega
        simp only [u_T_copy_0, u_T_copy_1, u_T_copy_4, u_T_copy_7, u_T_copy_8, u_T_copy_11, u_T_copy_14, u_T_copy_15, u_T_copy_16, u_T_copy_17, u_T_copy_20, u_T_copy_21, u_T_copy_24, u_T_copy_26, u_T_copy_27, u_T_copy_30, u_T_copy_31, u_T_copy_34, u_T_copy_36, u_T_copy_38, u_T_copy_39, u_T_copy_42, u_T_copy_44, u_T_copy_45, u_T_copy_48, u_T_copy_50, u_T_copy_51, u_T_copy_52, u_T_copy_55, u_T_copy_57, u_T_copy_60, u_T_copy_61, u_T_copy_64, u_T_copy_66, u_T_copy_69, u_T_copy_72, u_T_copy_74, u_T_copy_75, u_T_copy_76, u_T_copy_79, u_T_copy_81, u_T_copy_82, u_T_copy_84, u_T_copy_87, u_T_copy_90, u_T_copy_91, u_T_copy_94, u_T_copy_96, u_T_copy_98, u_T_copy_100, u_T_copy_103, u_T_copy_106, u_T_copy_108, u_T_copy_109, u_T_copy_110, u_T_copy_113, u_T_copy_115, u_T_copy_116, u_T_copy_118, u_T_copy_120, u_T_copy_122, u_T_copy_125, u_T_copy_127, ne_eq, not_false_eq_true, not_true_eq_false, true_and, and_true, true_or, or_true, eq_self, Option.toList_some, Option.toList_none, List.cons_append, List.nil_append, tc_0, tc_I, tc_L, tc_A, Nat.reduceAdd, Nat.reduceLeDiff, Nat.reduceEqDiff, Int.reduceEq, Int.reduceLT, Int.reduceLE, Int.reduceNeg, Int.reduceToNat, Int.cast_ofNat_Int, if_true, if_false, and_self, or_self, ite_self, bI_0, bI_1, bI_01, Bool.false_eq_true, reduceCtorEq, s_Sf_isPlace, h1, h2, and_self, decide_true, decide_false, bB_t, bB_f]
      · simp only [u_T_copy_0, u_T_copy_1, u_T_copy_4, u_T_copy_7, u_T_copy_8, u_T_copy_11, u_T_copy_14, u_T_copy_15, u_T_copy_16, u_T_copy_17, u_T_copy_20, u_T_copy_21, u_T_copy_24, u_T_copy_26, u_T_copy_27, u_T_copy_30, u_T_copy_31, u_T_copy_34, u_T_copy_36, u_T_copy_38, u_T_copy_39, u_T_copy_42, u_T_copy_44, u_T_copy_45, u_T_copy_48, u_T_copy_50, u_T_copy_51, u_T_copy_52, u_T_copy_55, u_T_copy_57, u_T_copy_60, u_T_copy_61, u_T_copy_64, u_T_copy_66, u_T_copy_69, u_T_copy_72, u_T_copy_74, u_T_copy_75, u_T_copy_76, u_T_copy_79, u_T_copy_81, u_T_copy_82, u_T_copy_84, u_T_copy_87, u_T_copy_90, u_T_copy_91, u_T_copy_94, u_T_copy_96, u_T_copy_98, u_T_copy_100, u_T_copy_103, u_T_copy_106, u_T_copy_108, u_T_copy_109, u_T_copy_110, u_T_copy_113, u_T_copy_115, u_T_copy_116, u_T_copy_118, u_T_copy_120, u_T_copy_122, u_T_copy_125, u_T_copy_127, ne_eq, not_false_eq_true, not_true_eq_false, true_and, and_true, true_or, or_true, eq_self, Option.toList_some, Option.toList_none, List.cons_append, List.nil_append, tc_0, tc_I, tc_L, tc_A, Nat.reduceAdd, Nat.reduceLeDiff, Nat.reduceEqDiff, Int.reduceEq, Int.reduceLT, Int.reduceLE, Int.reduceNeg, Int.reduceToNat, Int.cast_ofNat_Int, if_true, if_false, and_self, or_self, ite_self, bI_0, bI_1, bI_01, Bool.false_eq_true, reduceCtorEq, s_Sf_isPlace, h1, decide_false, bB_f]
    rw [hst]
    refine hQ _ f t (RefP_0 hR (fun L d Q => ?_))
    by_cases h1 : 0 ≤ p ∧ p ≤ 7
    · have h2 : ¬ (0 ≤ q ∧ q ≤ 7) := by omega
      simp only [u_M_copy_0, u_M_copy_1, u_M_copy_4, u_M_copy_7, u_M_copy_8, u_M_copy_11, u_M_copy_14, u_M_copy_15, ne_eq, not_false_eq_true, not_true_eq_false, true_and, and_true, true_or, or_true, eq_self, Option.toList_some, Option.toList_none, List.cons_append, List.nil_append, tc_0, tc_I, tc_L, tc_A, Nat.reduceAdd, Nat.reduceLeDiff, Nat.reduceEqDiff, Int.reduceEq, Int.reduceLT, Int.reduceLE, Int.reduceNeg, Int.reduceToNat, Int.cast_ofNat_Int, if_true, if_false, and_self, or_self, ite_self, bI_0, bI_1, bI_01, Bool.false_eq_true, reduceCtorEq, s_M_isPlace, h1, h2, and_self, decide_true, decide_false, bB_t, bB_f]
    · simp only [u_M_copy_0, u_M_copy_1, u_M_copy_4, u_M_copy_7, u_M_copy_8, u_M_copy_11, u_M_copy_14, u_M_copy_15, ne_eq, not_false_eq_true, not_true_eq_false, true_and, and_true, true_or, or_true, eq_self, Option.toList_some, Option.toList_none, List.cons_append, List.nil_append, tc_0, tc_I, tc_L, tc_A, Nat.reduceAdd, Nat.reduceLeDiff, Nat.reduceEqDiff, Int.reduceEq, Int.reduceLT, Int.reduceLE, Int.reduceNeg, Int.reduceToNat, Int.cast_ofNat_Int, if_true, if_false, and_self, or_self, ite_self, bI_0, bI_1, bI_01, Bool.false_eq_true, reduceCtorEq, s_M_isPlace, h1, decide_false, bB_f]
end
