/-! The reference lays its table -/
section
variable {L d r len : Nat} {f t g : Mem} {T : Int → Int} {Q : Option TV → Wd → Prop} {wt of e x y i j k : Int}
def ad3 (g : Mem) (r : Nat) (wt of e : Int) : Mem := mset (mset (mset (mset g 167 (40 * (r : Int) + g 166 r).toNat wt) 168 (40 * (r : Int) + g 166 r).toNat of) 169 (40 * (r : Int) + g 166 r).toNat e) 166 r (g 166 r + 1)
theorem AdP_ad3 (h0 : 0 ≤ g 166 r) : AdP r g (ad3 g r wt of e) wt of e := by
  have ei : (40 * (r : Int) + g 166 r).toNat = 40 * r + (g 166 r).toNat := by omega
  refine ⟨?_, ?_, ?_, ?_, ?_, ?_, ?_⟩
  · intro c k hc; simp only [ad3, rd]; rw [if_neg (by omega), if_neg (by omega), if_neg (by omega), if_neg (by omega)]
  · intro k hk; simp only [ad3, rd]; rw [if_neg (by omega), if_neg (by omega), if_neg (by omega), if_neg (by omega)]
  · simp only [ad3, rd]; rw [if_pos (by simp)]
  · intro c k c1 c2 hk; simp only [ad3, rd]; rw [if_neg (by omega), if_neg (by omega), if_neg (by omega), if_neg (by omega)]
  · simp only [ad3, rd]; rw [if_neg (by omega), if_neg (by omega), if_neg (by omega), if_pos ⟨trivial, ei.symm⟩]
  · simp only [ad3, rd]; rw [if_neg (by omega), if_neg (by omega), if_pos ⟨trivial, ei.symm⟩]
  · simp only [ad3, rd]; rw [if_neg (by omega), if_pos ⟨trivial, ei.symm⟩]
theorem s_M_adds (hr : r < 10) (h0 : 0 ≤ g 166 r) (h1 : g 166 r < 40) : VV L d m_M_adds 0 [some (tA 156), some (tI r), some (tI wt), some (tI of), some (tI e), none] [] (WW f t g) Q = Q (some (tI (g 166 r))) (WW f t (ad3 g r wt of e)) := by
  have x1 : w32 (40 * (r : Int)) = 40 * r := w32_id (by omega) (by omega)
  have x2 : w32 (40 * (r : Int) + g 166 r) = 40 * r + g 166 r := w32_id (by omega) (by omega)
  have x3 : w32 (g 166 r + 1) = g 166 r + 1 := w32_id (by omega) (by omega)
  have x4 : w32 (g 166 r + 1 - 1) = g 166 r := by rw [w32_id (by omega) (by omega)]; omega
  simp only [u_M_adds_0, u_M_adds_2, u_M_adds_3, u_M_adds_4, u_M_adds_5, u_M_adds_8, u_M_adds_9, u_M_adds_10, u_M_adds_11, u_M_adds_13, u_M_adds_14, u_M_adds_17, u_M_adds_19, u_M_adds_20, u_M_adds_21, u_M_adds_22, u_M_adds_25, u_M_adds_27, u_M_adds_28, u_M_adds_29, u_M_adds_30, u_M_adds_33, u_M_adds_35, u_M_adds_37, u_M_adds_38, u_M_adds_39, u_M_adds_42, u_M_adds_43, u_M_adds_44, u_M_adds_45, u_M_adds_46, u_M_adds_47, u_M_adds_48, u_M_adds_49, u_M_adds_52, u_M_adds_53, u_M_adds_54, u_M_adds_55, u_M_adds_56, h1_156, gt_156_27, h1_166, h2_166, gt_166, pt_166, gt_156_28, h1_167, h2_167, gt_167, pt_167, gt_156_29, h1_168, h2_168, gt_168, pt_168, gt_156_30, h1_169, h2_169, gt_169, pt_169, ne_eq, not_false_eq_true, not_true_eq_false, true_and, and_true, true_or, or_true, eq_self, Option.toList_some, Option.toList_none, List.cons_append, List.nil_append, tc_0, tc_I, tc_L, tc_A, Nat.reduceAdd, Nat.reduceLeDiff, Nat.reduceEqDiff, Int.reduceEq, Int.reduceLT, Int.reduceLE, Int.reduceNeg, Int.reduceToNat, Int.cast_ofNat_Int, if_true, if_false, and_self, or_self, ite_self, bI_0, bI_1, bI_01, Bool.false_eq_true, reduceCtorEq, Int.toNat_natCast, show 0 ≤ (r : Int) by omega, show (r : Int) < 10 by omega, x1, x2, show 0 ≤ 40 * (r : Int) + g 166 r by omega, show 40 * (r : Int) + g 166 r < 400 by omega, rd, false_and, and_false, x3, x4]
  rfl
def jn1 (g : Mem) (z : Nat) (x y i j k : Int) : Mem := mset (mset (mset (mset (mset g 169 z x) 170 z y) 171 z i) 172 z j) 173 z k
theorem s_M_joins (hr : r < 10) (hi : 0 ≤ i ∧ i < 40) (hj : 0 ≤ j ∧ j < 40) (hk : 0 ≤ k ∧ k < 40) : VV L d m_M_joins 0 [some (tA 156), some (tI r), some (tI i), some (tI j), some (tI k), some (tI x), some (tI y), none, none] [] (WW f t g) Q = Q none (WW f t (jn1 (jn1 (jn1 g (40 * (r : Int) + i).toNat x y i j k) (40 * (r : Int) + j).toNat x y i j k) (40 * (r : Int) + k).toNat x y i j k)) := by
  have x1 : w32 (40 * (r : Int)) = 40 * r := w32_id (by omega) (by omega)
  have xi : w32 (40 * (r : Int) + i) = 40 * r + i := w32_id (by omega) (by omega)
  have xj : w32 (40 * (r : Int) + j) = 40 * r + j := w32_id (by omega) (by omega)
  have xk : w32 (40 * (r : Int) + k) = 40 * r + k := w32_id (by omega) (by omega)
  have y0 : w32 ((0 : Int) + 1) = 1 := by rw [w32_id (by omega) (by omega)]; omega
  have y1 : w32 ((1 : Int) + 1) = 2 := by rw [w32_id (by omega) (by omega)]; omega
  have y2 : w32 ((2 : Int) + 1) = 3 := by rw [w32_id (by omega) (by omega)]; omega
  simp only [u_M_joins_0, u_M_joins_1, ne_eq, not_false_eq_true, not_true_eq_false, true_and, and_true, true_or, or_true, eq_self, Option.toList_some, Option.toList_none, List.cons_append, List.nil_append, tc_0, tc_I, tc_L, tc_A, Nat.reduceAdd, Nat.reduceLeDiff, Nat.reduceEqDiff, Int.reduceEq, Int.reduceLT, Int.reduceLE, Int.reduceNeg, Int.reduceToNat, Int.cast_ofNat_Int, if_true, if_false, and_self, or_self, ite_self, bI_0, bI_1, bI_01, Bool.false_eq_true, reduceCtorEq]
  rw [u_M_joins_3]
  simp only [u_M_joins_0, u_M_joins_1, u_M_joins_5, u_M_joins_6, u_M_joins_9, u_M_joins_11, u_M_joins_12, u_M_joins_13, u_M_joins_15, u_M_joins_18, u_M_joins_19, u_M_joins_22, u_M_joins_24, u_M_joins_25, u_M_joins_28, u_M_joins_29, u_M_joins_32, u_M_joins_34, u_M_joins_35, u_M_joins_37, u_M_joins_38, u_M_joins_41, u_M_joins_43, u_M_joins_45, u_M_joins_46, u_M_joins_47, u_M_joins_50, u_M_joins_52, u_M_joins_54, u_M_joins_55, u_M_joins_56, u_M_joins_59, u_M_joins_61, u_M_joins_62, u_M_joins_63, u_M_joins_64, u_M_joins_67, u_M_joins_69, u_M_joins_70, u_M_joins_71, u_M_joins_72, u_M_joins_75, u_M_joins_77, u_M_joins_79, u_M_joins_80, u_M_joins_83, u_M_joins_86, h1_156, gt_156_30, h1_169, h2_169, gt_169, pt_169, gt_156_31, h1_170, h2_170, gt_170, pt_170, gt_156_32, h1_171, h2_171, gt_171, pt_171, gt_156_33, h1_172, h2_172, gt_172, pt_172, gt_156_34, h1_173, h2_173, gt_173, pt_173, ne_eq, not_false_eq_true, not_true_eq_false, true_and, and_true, true_or, or_true, eq_self, Option.toList_some, Option.toList_none, List.cons_append, List.nil_append, tc_0, tc_I, tc_L, tc_A, Nat.reduceAdd, Nat.reduceLeDiff, Nat.reduceEqDiff, Int.reduceEq, Int.reduceLT, Int.reduceLE, Int.reduceNeg, Int.reduceToNat, Int.cast_ofNat_Int, if_true, if_false, and_self, or_self, ite_self, bI_0, bI_1, bI_01, Bool.false_eq_true, reduceCtorEq, x1, xi, show 0 ≤ 40 * (r : Int) + i by omega, show 40 * (r : Int) + i < 400 by omega, y0]
  rw [u_M_joins_3]
  simp only [u_M_joins_0, u_M_joins_1, u_M_joins_5, u_M_joins_6, u_M_joins_9, u_M_joins_11, u_M_joins_12, u_M_joins_13, u_M_joins_15, u_M_joins_18, u_M_joins_19, u_M_joins_22, u_M_joins_24, u_M_joins_25, u_M_joins_28, u_M_joins_29, u_M_joins_32, u_M_joins_34, u_M_joins_35, u_M_joins_37, u_M_joins_38, u_M_joins_41, u_M_joins_43, u_M_joins_45, u_M_joins_46, u_M_joins_47, u_M_joins_50, u_M_joins_52, u_M_joins_54, u_M_joins_55, u_M_joins_56, u_M_joins_59, u_M_joins_61, u_M_joins_62, u_M_joins_63, u_M_joins_64, u_M_joins_67, u_M_joins_69, u_M_joins_70, u_M_joins_71, u_M_joins_72, u_M_joins_75, u_M_joins_77, u_M_joins_79, u_M_joins_80, u_M_joins_83, u_M_joins_86, h1_156, gt_156_30, h1_169, h2_169, gt_169, pt_169, gt_156_31, h1_170, h2_170, gt_170, pt_170, gt_156_32, h1_171, h2_171, gt_171, pt_171, gt_156_33, h1_172, h2_172, gt_172, pt_172, gt_156_34, h1_173, h2_173, gt_173, pt_173, ne_eq, not_false_eq_true, not_true_eq_false, true_and, and_true, true_or, or_true, eq_self, Option.toList_some, Option.toList_none, List.cons_append, List.nil_append, tc_0, tc_I, tc_L, tc_A, Nat.reduceAdd, Nat.reduceLeDiff, Nat.reduceEqDiff, Int.reduceEq, Int.reduceLT, Int.reduceLE, Int.reduceNeg, Int.reduceToNat, Int.cast_ofNat_Int, if_true, if_false, and_self, or_self, ite_self, bI_0, bI_1, bI_01, Bool.false_eq_true, reduceCtorEq, x1, xj, show 0 ≤ 40 * (r : Int) + j by omega, show 40 * (r : Int) + j < 400 by omega, y1]
  rw [u_M_joins_3]
  simp only [u_M_joins_0, u_M_joins_1, u_M_joins_5, u_M_joins_6, u_M_joins_9, u_M_joins_11, u_M_joins_12, u_M_joins_13, u_M_joins_15, u_M_joins_18, u_M_joins_19, u_M_joins_22, u_M_joins_24, u_M_joins_25, u_M_joins_28, u_M_joins_29, u_M_joins_32, u_M_joins_34, u_M_joins_35, u_M_joins_37, u_M_joins_38, u_M_joins_41, u_M_joins_43, u_M_joins_45, u_M_joins_46, u_M_joins_47, u_M_joins_50, u_M_joins_52, u_M_joins_54, u_M_joins_55, u_M_joins_56, u_M_joins_59, u_M_joins_61, u_M_joins_62, u_M_joins_63, u_M_joins_64, u_M_joins_67, u_M_joins_69, u_M_joins_70, u_M_joins_71, u_M_joins_72, u_M_joins_75, u_M_joins_77, u_M_joins_79, u_M_joins_80, u_M_joins_83, u_M_joins_86, h1_156, gt_156_30, h1_169, h2_169, gt_169, pt_169, gt_156_31, h1_170, h2_170, gt_170, pt_170, gt_156_32, h1_171, h2_171, gt_171, pt_171, gt_156_33, h1_172, h2_172, gt_172, pt_172, gt_156_34, h1_173, h2_173, gt_173, pt_173, ne_eq, not_false_eq_true, not_true_eq_false, true_and, and_true, true_or, or_true, eq_self, Option.toList_some, Option.toList_none, List.cons_append, List.nil_append, tc_0, tc_I, tc_L, tc_A, Nat.reduceAdd, Nat.reduceLeDiff, Nat.reduceEqDiff, Int.reduceEq, Int.reduceLT, Int.reduceLE, Int.reduceNeg, Int.reduceToNat, Int.cast_ofNat_Int, if_true, if_false, and_self, or_self, ite_self, bI_0, bI_1, bI_01, Bool.false_eq_true, reduceCtorEq, x1, xk, show 0 ≤ 40 * (r : Int) + k by omega, show 40 * (r : Int) + k < 400 by omega, y2]
  rw [u_M_joins_3]
  simp only [u_M_joins_0, u_M_joins_1, u_M_joins_5, u_M_joins_6, u_M_joins_9, u_M_joins_11, u_M_joins_12, u_M_joins_13, u_M_joins_15, u_M_joins_18, u_M_joins_19, u_M_joins_22, u_M_joins_24, u_M_joins_25, u_M_joins_28, u_M_joins_29, u_M_joins_32, u_M_joins_34, u_M_joins_35, u_M_joins_37, u_M_joins_38, u_M_joins_41, u_M_joins_43, u_M_joins_45, u_M_joins_46, u_M_joins_47, u_M_joins_50, u_M_joins_52, u_M_joins_54, u_M_joins_55, u_M_joins_56, u_M_joins_59, u_M_joins_61, u_M_joins_62, u_M_joins_63, u_M_joins_64, u_M_joins_67, u_M_joins_69, u_M_joins_70, u_M_joins_71, u_M_joins_72, u_M_joins_75, u_M_joins_77, u_M_joins_79, u_M_joins_80, u_M_joins_83, u_M_joins_86, h1_156, gt_156_30, h1_169, h2_169, gt_169, pt_169, gt_156_31, h1_170, h2_170, gt_170, pt_170, gt_156_32, h1_171, h2_171, gt_171, pt_171, gt_156_33, h1_172, h2_172, gt_172, pt_172, gt_156_34, h1_173, h2_173, gt_173, pt_173, ne_eq, not_false_eq_true, not_true_eq_false, true_and, and_true, true_or, or_true, eq_self, Option.toList_some, Option.toList_none, List.cons_append, List.nil_append, tc_0, tc_I, tc_L, tc_A, Nat.reduceAdd, Nat.reduceLeDiff, Nat.reduceEqDiff, Int.reduceEq, Int.reduceLT, Int.reduceLE, Int.reduceNeg, Int.reduceToNat, Int.cast_ofNat_Int, if_true, if_false, and_self, or_self, ite_self, bI_0, bI_1, bI_01, Bool.false_eq_true, reduceCtorEq]
  rfl
theorem jn1_o {z : Nat} {c q : Nat} (h : c < 169 ∨ 173 < c ∨ ¬ q = z) : jn1 g z x y i j k c q = g c q := by
  simp only [jn1, rd]; rw [if_neg (by omega), if_neg (by omega), if_neg (by omega), if_neg (by omega), if_neg (by omega)]
theorem jn1_v {z : Nat} : jn1 g z x y i j k 169 z = x ∧ jn1 g z x y i j k 170 z = y ∧ jn1 g z x y i j k 171 z = i ∧ jn1 g z x y i j k 172 z = j ∧ jn1 g z x y i j k 173 z = k := by
  refine ⟨?_, ?_, ?_, ?_, ?_⟩
  · simp only [jn1, rd]; rw [if_neg (by omega), if_neg (by omega), if_neg (by omega), if_neg (by omega), if_pos (by simp)]
  · simp only [jn1, rd]; rw [if_neg (by omega), if_neg (by omega), if_neg (by omega), if_pos (by simp)]
  · simp only [jn1, rd]; rw [if_neg (by omega), if_neg (by omega), if_pos (by simp)]
  · simp only [jn1, rd]; rw [if_neg (by omega), if_pos (by simp)]
  · simp only [jn1, rd]; rw [if_pos (by simp)]
theorem JnP_jn (hi : 0 ≤ i) (hj : 0 ≤ j) (hk : 0 ≤ k) : JnP r g (jn1 (jn1 (jn1 g (40 * (r : Int) + i).toNat x y i j k) (40 * (r : Int) + j).toNat x y i j k) (40 * (r : Int) + k).toNat x y i j k) i.toNat j.toNat k.toNat x y := by
  have ei : (40 * (r : Int) + i).toNat = 40 * r + i.toNat := by omega
  have ej : (40 * (r : Int) + j).toNat = 40 * r + j.toNat := by omega
  have ek : (40 * (r : Int) + k).toNat = 40 * r + k.toNat := by omega
  have ni : (i.toNat : Int) = i := by omega
  have nj : (j.toNat : Int) = j := by omega
  have nk : (k.toNat : Int) = k := by omega
  rw [ei, ej, ek]
  refine ⟨fun c q hc => ?_, fun c q c1 c2 h1 h2 h3 => ?_, fun z hz => ?_⟩
  · rw [jn1_o (by omega), jn1_o (by omega), jn1_o (by omega)]
  · rw [jn1_o (by omega), jn1_o (by omega), jn1_o (by omega)]
  · rw [ni, nj, nk]
    by_cases z3 : z = k.toNat
    · subst z3; exact jn1_v
    · have o : ∀ g : Mem, ∀ c, jn1 g (40 * r + k.toNat) x y i j k c (40 * r + z) = g c (40 * r + z) := fun g c => jn1_o (by omega)
      rw [o, o, o, o, o]
      by_cases z2 : z = j.toNat
      · subst z2; exact jn1_v
      · have o : ∀ g : Mem, ∀ c, jn1 g (40 * r + j.toNat) x y i j k c (40 * r + z) = g c (40 * r + z) := fun g c => jn1_o (by omega)
        rw [o, o, o, o, o]
        have : z = i.toNat := by omega
        subst this; exact jn1_v
theorem RT_fr {g' : Mem} (h : RT g r T len) (hf : ∀ c k, c < 166 → g' c k = g c k) : RT g' r T len :=
  ⟨by rw [hf _ _ (by omega)]; exact h.l, fun q hq => by rw [hf _ _ (by omega)]; exact h.s q hq, fun q hq => by rw [hf _ _ (by omega)]; exact h.w q hq, h.z, h.r10, h.l1⟩
theorem RT_fr2 {g' : Mem} (h : RT g r T len) (hf : ∀ c k, 163 ≤ c → c < 166 → g' c k = g c k) : RT g' r T len :=
  ⟨by rw [hf _ _ (by omega) (by omega)]; exact h.l, fun q hq => by rw [hf _ _ (by omega) (by omega)]; exact h.s q hq, fun q hq => by rw [hf _ _ (by omega) (by omega)]; exact h.w q hq, h.z, h.r10, h.l1⟩
theorem key_w {x : Int} (h0 : 200 ≤ x) (h1 : x ≤ 221) : srt x = 5 ∧ whc x = x - 200 := (key_iff (x := x) (w := x - 200) (by omega) (by omega)).mpr (by omega)
theorem eS_key {q : Int} (h0 : 200 ≤ T q) (h1 : T q ≤ 221) : eS T q = 5 := by
  unfold eS; rw [if_neg (by omega)]; exact (key_w h0 h1).1
/-- one step is laid -/
def LsP (L D r : Nat) (f t : Mem) (T : Int → Int) (len : Nat) (k : List Int) (m : Nat) (tb : Int → Int → List En9) : Prop :=
  ∀ (g : Mem) (i j : Int) (Q : Option TV → Wd → Prop), RT g r T len → 0 ≤ g 166 r → g 166 r + m ≤ 40 → seg T i j k → 0 ≤ i → j ≤ len → (∀ g', SetR r g g' m (tb i (g 166 r)) → Q (some (tI j)) (WW f t g')) → VV L D m_M_layStep 0 [some (tA 156), some (tI r), some (tI i), none, none, none, none, none, none, none] [] (WW f t g) Q
def LyP (L D r : Nat) (f t : Mem) (T : Int → Int) (len : Nat) (k : List Int) (m : Nat) (tb : Int → Int → List En9) : Prop :=
  ∀ (g : Mem) (i j : Int) (Q : Option TV → Wd → Prop), RT g r T len → 0 ≤ g 166 r → g 166 r + m ≤ 40 → seg T i j k → 0 ≤ i → j ≤ len → (T j = 125 ∨ j = len) → (∀ g', SetR r g g' m (tb i (g 166 r)) → Q (some (tI j)) (WW f t g')) → VV L D m_M_laySteps 0 [some (tA 156), some (tI r), some (tI i), none] [] (WW f t g) Q
theorem LsP_S {c : Nat} {o : Bool} (s : SS c) (hw : wS o s) : LsP L (d + 2) r f t T len (kS s) 1 (fun i p => [((opS1 s, 0, i, i + boS1 s, p, 0, 0), 0, 0)]) := by
  intro g i j Q hR h0 h1 hs hi hj hQ
  have hr := hR.r10
  have hl1 := hR.l1
  obtain ⟨_, hij, h59⟩ := kS_nxt s hw hs hj
  have hs0 := hs
  rw [kS_0] at hs0
  have hz := (seg_split hs0).1
  have hzl : i + ((kS0 s).length : Int) = j - 1 := by have := seg_len hs0; rw [List.length_append] at this; simp at this; omega
  rw [hzl] at hz
  have hfind : ∀ (g' : Mem) (Q : Option TV → Wd → Prop), RT g' r T len → VV L (d + 1) m_M_find 0 [some (tA 156), some (tI r), some (tI i), some (tI 59), none, none] [] (WW f t g') Q = Q (some (tI (j - 1))) (WW f t g') := fun g' Q hR' =>
    s_M_find hR' (by decide) (by omega) (by omega) h59 (Skp_0 _ (fun v hv => ⟨kS0_s s hw v hv, (kS0_s s hw v hv).1⟩)) hz hi
  have hRa : ∀ wt of e, RT (ad3 g r wt of e) r T len := fun wt of e => RT_fr hR (fun c k hc => (AdP_ad3 h0).fr c k (by omega))
  have wj : w32 (j - 1 + 1) = j := by rw [w32_id (by omega) (by omega)]; omega
  have w1 : w32 (i + 1) = i + 1 := w32_id (by omega) (by omega)
  have w3 : w32 (i + 3) = i + 3 := w32_id (by omega) (by omega)
  obtain ⟨x1, x2, x3, x4, x5, x6⟩ := hR.ix hi (show i < len by omega)
  have hkey : ∀ (v : Int), T i = v → (200 ≤ v ∧ v ≤ 207) ∨ v = 214 → opS1 s = v → boS1 s = 3 → VV L (d + 2) m_M_layStep 0 [some (tA 156), some (tI r), some (tI i), none, none, none, none, none, none, none] [] (WW f t g) Q := by
    intro v hv hr1 e1 e2
    have k5 : eS T i = 5 := eS_key (by omega) (by omega)
    have kw : whc (T i) = v - 200 := by rw [hv]; exact (key_w (by omega) (by omega)).2
    simp only [u_M_layStep_0, u_M_layStep_1, u_M_layStep_4, u_M_layStep_7, u_M_layStep_8, u_M_layStep_9, u_M_layStep_10, u_M_layStep_11, u_M_layStep_12, u_M_layStep_13, u_M_layStep_16, u_M_layStep_17, u_M_layStep_18, u_M_layStep_19, u_M_layStep_22, u_M_layStep_23, u_M_layStep_24, u_M_layStep_25, u_M_layStep_27, u_M_layStep_28, u_M_layStep_31, u_M_layStep_34, u_M_layStep_35, u_M_layStep_36, u_M_layStep_37, u_M_layStep_38, u_M_layStep_39, u_M_layStep_40, u_M_layStep_41, u_M_layStep_42, u_M_layStep_43, u_M_layStep_44, u_M_layStep_47, u_M_layStep_49, u_M_layStep_50, u_M_layStep_51, u_M_layStep_52, u_M_layStep_54, u_M_layStep_57, u_M_layStep_58, u_M_layStep_59, u_M_layStep_60, u_M_layStep_61, u_M_layStep_64, u_M_layStep_67, u_M_layStep_68, u_M_layStep_69, u_M_layStep_70, u_M_layStep_71, u_M_layStep_72, u_M_layStep_73, u_M_layStep_74, u_M_layStep_76, u_M_layStep_79, u_M_layStep_80, u_M_layStep_82, u_M_layStep_85, u_M_layStep_86, u_M_layStep_88, u_M_layStep_91, u_M_layStep_92, u_M_layStep_93, u_M_layStep_94, u_M_layStep_95, u_M_layStep_96, u_M_layStep_97, u_M_layStep_98, u_M_layStep_101, u_M_layStep_103, u_M_layStep_104, u_M_layStep_105, u_M_layStep_106, u_M_layStep_108, u_M_layStep_111, u_M_layStep_113, u_M_layStep_114, u_M_layStep_115, u_M_layStep_117, u_M_layStep_118, u_M_layStep_119, u_M_layStep_122, u_M_layStep_124, u_M_layStep_125, u_M_layStep_126, u_M_layStep_127, u_M_layStep_129, u_M_layStep_132, u_M_layStep_134, u_M_layStep_137, u_M_layStep_138, u_M_layStep_140, u_M_layStep_143, u_M_layStep_145, u_M_layStep_148, u_M_layStep_150, u_M_layStep_151, u_M_layStep_152, u_M_layStep_153, u_M_layStep_154, u_M_layStep_157, u_M_layStep_159, u_M_layStep_160, u_M_layStep_161, u_M_layStep_163, u_M_layStep_164, u_M_layStep_165, u_M_layStep_168, u_M_layStep_170, u_M_layStep_171, u_M_layStep_172, u_M_layStep_173, u_M_layStep_175, u_M_layStep_178, u_M_layStep_180, u_M_layStep_183, u_M_layStep_184, u_M_layStep_186, u_M_layStep_189, u_M_layStep_191, u_M_layStep_194, u_M_layStep_196, u_M_layStep_197, u_M_layStep_198, u_M_layStep_199, u_M_layStep_200, u_M_layStep_203, u_M_layStep_205, u_M_layStep_206, u_M_layStep_207, u_M_layStep_209, u_M_layStep_211, u_M_layStep_213, u_M_layStep_214, u_M_layStep_215, u_M_layStep_216, u_M_layStep_217, u_M_layStep_219, u_M_layStep_222, u_M_layStep_223, u_M_layStep_224, u_M_layStep_225, u_M_layStep_228, u_M_layStep_230, u_M_layStep_231, u_M_layStep_232, u_M_layStep_235, u_M_layStep_236, u_M_layStep_237, u_M_layStep_239, u_M_layStep_240, u_M_layStep_241, u_M_layStep_243, u_M_layStep_246, u_M_layStep_247, u_M_layStep_248, u_M_layStep_249, u_M_layStep_250, u_M_layStep_252, u_M_layStep_255, u_M_layStep_256, u_M_layStep_257, u_M_layStep_259, u_M_layStep_260, u_M_layStep_261, u_M_layStep_262, u_M_layStep_263, u_M_layStep_266, u_M_layStep_268, u_M_layStep_269, u_M_layStep_270, u_M_layStep_271, u_M_layStep_273, u_M_layStep_276, u_M_layStep_278, u_M_layStep_279, u_M_layStep_280, u_M_layStep_282, u_M_layStep_283, u_M_layStep_284, u_M_layStep_287, u_M_layStep_289, u_M_layStep_290, u_M_layStep_291, u_M_layStep_293, u_M_layStep_294, u_M_layStep_295, u_M_layStep_296, u_M_layStep_297, u_M_layStep_300, u_M_layStep_302, u_M_layStep_303, u_M_layStep_304, u_M_layStep_306, u_M_layStep_308, u_M_layStep_310, u_M_layStep_311, u_M_layStep_312, u_M_layStep_313, u_M_layStep_314, u_M_layStep_315, u_M_layStep_316, u_M_layStep_319, u_M_layStep_321, u_M_layStep_322, u_M_layStep_323, u_M_layStep_324, u_M_layStep_325, u_M_layStep_326, u_M_layStep_327, u_M_layStep_328, u_M_layStep_329, u_M_layStep_330, u_M_layStep_331, u_M_layStep_332, u_M_layStep_333, u_M_layStep_336, u_M_layStep_338, u_M_layStep_339, u_M_layStep_340, u_M_layStep_341, u_M_layStep_343, u_M_layStep_346, u_M_layStep_347, u_M_layStep_348, h1_156, gt_156_25, h1_164, h2_164, gt_164, pt_164, gt_156_26, h1_165, h2_165, gt_165, pt_165, ne_eq, not_false_eq_true, not_true_eq_false, true_and, and_true, true_or, or_true, eq_self, Option.toList_some, Option.toList_none, List.cons_append, List.nil_append, tc_0, tc_I, tc_L, tc_A, Nat.reduceAdd, Nat.reduceLeDiff, Nat.reduceEqDiff, Int.reduceEq, Int.reduceLT, Int.reduceLE, Int.reduceNeg, Int.reduceToNat, Int.cast_ofNat_Int, if_true, if_false, and_self, or_self, ite_self, bI_0, bI_1, bI_01, Bool.false_eq_true, reduceCtorEq, x1, x2, x3, x4, x5, x6, k5, kw, show ¬ v - 200 = 8 by omega, show ¬ v - 200 = 11 by omega, show ¬ v - 200 = 16 by omega, show ¬ v - 200 = 15 by omega, w1, w3, s_M_adds hr h0 (show g 166 r < 40 by omega), hfind _ _ (hRa _ _ _), wj]
    refine hQ _ (SetR_0 h0 (by omega) (AdP_ad3 h0) ?_ ?_ ?_)
    · rw [e1]; unfold dzS; rw [if_neg (by omega)]
    · rw [e1, if_neg (by omega)]
    · rw [e2]; rfl
  have hplc : ∀ (p : PP c) (op : Int) (rest : List Int), wP p → 128 ≤ op ∧ op ≤ 133 → kS s = kP p ++ op :: rest → opS1 s = op → boS1 s = (kP p).length + 1 → VV L (d + 2) m_M_layStep 0 [some (tA 156), some (tI r), some (tI i), none, none, none, none, none, none, none] [] (WW f t g) Q := by
    intro p op rest hp hop hk e1 e2
    rw [hk] at hs
    have q := seg_split hs
    have q2 := seg_hd q.2
    have hlen := seg_len hs
    rw [List.length_append, List.length_cons] at hlen
    have k5 : ¬ eS T i = 5 := by
      match p, hp, q with
      | .inl n, hp, q => have := (seg_hd q.1).1; have := eS_name (T := T) (x := i) (by rw [this]; exact hp); omega
      | .inr (rr, e), hp, q => have := (seg_hd q.1).1; have := (eS_row (T := T) (x := i) (by rw [this]; exact hp.1)).1; omega
    have hbp := fun Q => s_M_behindP (L := L) (d := d) (f := f) (t := t) (Q := Q) hR p hp hi (show i + ((kP p).length : Int) < len by omega) q.1
    obtain ⟨y1, y2, y3, y4, y5, y6⟩ := hR.ix (show 0 ≤ i + ((kP p).length : Int) by omega) (show i + ((kP p).length : Int) < len by omega)
    rw [q2.1] at y6
    have hwo : 0 ≤ whc op ∧ whc op ≤ 5 := by
      have : op = 128 ∨ op = 129 ∨ op = 130 ∨ op = 131 ∨ op = 132 ∨ op = 133 := by omega
      rcases this with h | h | h | h | h | h <;> subst h <;> decide
    have wq : w32 (20 + whc op) = 20 + whc op := w32_id (by omega) (by omega)
    have ws : w32 (i + ((kP p).length : Int) + 1) = i + (kP p).length + 1 := w32_id (by omega) (by omega)
    simp only [u_M_layStep_0, u_M_layStep_1, u_M_layStep_4, u_M_layStep_7, u_M_layStep_8, u_M_layStep_9, u_M_layStep_10, u_M_layStep_11, u_M_layStep_12, u_M_layStep_13, u_M_layStep_16, u_M_layStep_17, u_M_layStep_18, u_M_layStep_19, u_M_layStep_22, u_M_layStep_23, u_M_layStep_24, u_M_layStep_25, u_M_layStep_27, u_M_layStep_28, u_M_layStep_31, u_M_layStep_34, u_M_layStep_35, u_M_layStep_36, u_M_layStep_37, u_M_layStep_38, u_M_layStep_39, u_M_layStep_40, u_M_layStep_41, u_M_layStep_42, u_M_layStep_43, u_M_layStep_44, u_M_layStep_47, u_M_layStep_49, u_M_layStep_50, u_M_layStep_51, u_M_layStep_52, u_M_layStep_54, u_M_layStep_57, u_M_layStep_58, u_M_layStep_59, u_M_layStep_60, u_M_layStep_61, u_M_layStep_64, u_M_layStep_67, u_M_layStep_68, u_M_layStep_69, u_M_layStep_70, u_M_layStep_71, u_M_layStep_72, u_M_layStep_73, u_M_layStep_74, u_M_layStep_76, u_M_layStep_79, u_M_layStep_80, u_M_layStep_82, u_M_layStep_85, u_M_layStep_86, u_M_layStep_88, u_M_layStep_91, u_M_layStep_92, u_M_layStep_93, u_M_layStep_94, u_M_layStep_95, u_M_layStep_96, u_M_layStep_97, u_M_layStep_98, u_M_layStep_101, u_M_layStep_103, u_M_layStep_104, u_M_layStep_105, u_M_layStep_106, u_M_layStep_108, u_M_layStep_111, u_M_layStep_113, u_M_layStep_114, u_M_layStep_115, u_M_layStep_117, u_M_layStep_118, u_M_layStep_119, u_M_layStep_122, u_M_layStep_124, u_M_layStep_125, u_M_layStep_126, u_M_layStep_127, u_M_layStep_129, u_M_layStep_132, u_M_layStep_134, u_M_layStep_137, u_M_layStep_138, u_M_layStep_140, u_M_layStep_143, u_M_layStep_145, u_M_layStep_148, u_M_layStep_150, u_M_layStep_151, u_M_layStep_152, u_M_layStep_153, u_M_layStep_154, u_M_layStep_157, u_M_layStep_159, u_M_layStep_160, u_M_layStep_161, u_M_layStep_163, u_M_layStep_164, u_M_layStep_165, u_M_layStep_168, u_M_layStep_170, u_M_layStep_171, u_M_layStep_172, u_M_layStep_173, u_M_layStep_175, u_M_layStep_178, u_M_layStep_180, u_M_layStep_183, u_M_layStep_184, u_M_layStep_186, u_M_layStep_189, u_M_layStep_191, u_M_layStep_194, u_M_layStep_196, u_M_layStep_197, u_M_layStep_198, u_M_layStep_199, u_M_layStep_200, u_M_layStep_203, u_M_layStep_205, u_M_layStep_206, u_M_layStep_207, u_M_layStep_209, u_M_layStep_211, u_M_layStep_213, u_M_layStep_214, u_M_layStep_215, u_M_layStep_216, u_M_layStep_217, u_M_layStep_219, u_M_layStep_222, u_M_layStep_223, u_M_layStep_224, u_M_layStep_225, u_M_layStep_228, u_M_layStep_230, u_M_layStep_231, u_M_layStep_232, u_M_layStep_235, u_M_layStep_236, u_M_layStep_237, u_M_layStep_239, u_M_layStep_240, u_M_layStep_241, u_M_layStep_243, u_M_layStep_246, u_M_layStep_247, u_M_layStep_248, u_M_layStep_249, u_M_layStep_250, u_M_layStep_252, u_M_layStep_255, u_M_layStep_256, u_M_layStep_257, u_M_layStep_259, u_M_layStep_260, u_M_layStep_261, u_M_layStep_262, u_M_layStep_263, u_M_layStep_266, u_M_layStep_268, u_M_layStep_269, u_M_layStep_270, u_M_layStep_271, u_M_layStep_273, u_M_layStep_276, u_M_layStep_278, u_M_layStep_279, u_M_layStep_280, u_M_layStep_282, u_M_layStep_283, u_M_layStep_284, u_M_layStep_287, u_M_layStep_289, u_M_layStep_290, u_M_layStep_291, u_M_layStep_293, u_M_layStep_294, u_M_layStep_295, u_M_layStep_296, u_M_layStep_297, u_M_layStep_300, u_M_layStep_302, u_M_layStep_303, u_M_layStep_304, u_M_layStep_306, u_M_layStep_308, u_M_layStep_310, u_M_layStep_311, u_M_layStep_312, u_M_layStep_313, u_M_layStep_314, u_M_layStep_315, u_M_layStep_316, u_M_layStep_319, u_M_layStep_321, u_M_layStep_322, u_M_layStep_323, u_M_layStep_324, u_M_layStep_325, u_M_layStep_326, u_M_layStep_327, u_M_layStep_328, u_M_layStep_329, u_M_layStep_330, u_M_layStep_331, u_M_layStep_332, u_M_layStep_333, u_M_layStep_336, u_M_layStep_338, u_M_layStep_339, u_M_layStep_340, u_M_layStep_341, u_M_layStep_343, u_M_layStep_346, u_M_layStep_347, u_M_layStep_348, h1_156, gt_156_25, h1_164, h2_164, gt_164, pt_164, gt_156_26, h1_165, h2_165, gt_165, pt_165, ne_eq, not_false_eq_true, not_true_eq_false, true_and, and_true, true_or, or_true, eq_self, Option.toList_some, Option.toList_none, List.cons_append, List.nil_append, tc_0, tc_I, tc_L, tc_A, Nat.reduceAdd, Nat.reduceLeDiff, Nat.reduceEqDiff, Int.reduceEq, Int.reduceLT, Int.reduceLE, Int.reduceNeg, Int.reduceToNat, Int.cast_ofNat_Int, if_true, if_false, and_self, or_self, ite_self, bI_0, bI_1, bI_01, Bool.false_eq_true, reduceCtorEq, x1, x2, x3, x4, x5, k5, hbp, y2, y3, y4, y6, wq, ws, s_M_adds hr h0 (show g 166 r < 40 by omega), hfind _ _ (hRa _ _ _), wj]
    refine hQ _ (SetR_0 h0 (by omega) (AdP_ad3 h0) ?_ ?_ ?_)
    · rw [e1]; unfold dzS; rw [if_pos (by omega)]
    · rw [e1, if_pos (by omega)]
    · rw [e2]; omega
  match s, hw, hs, hkey, hplc with
  | .inl (k, n, e), hw, hs, hkey, hplc =>
    refine hkey k (seg_hd hs).1 ?_ rfl rfl
    have := hw.1; cases o <;> simp at this <;> omega
  | .inr (.inl (p, op, e)), hw, hs, hkey, hplc => exact hplc p op _ hw.2.1 (by have := hw.2.2.1; omega) rfl rfl rfl
  | .inr (.inr (.inl (p, q))), hw, hs, hkey, hplc => exact hplc p 133 _ hw.2.1 (by omega) rfl rfl rfl
  | .inr (.inr (.inr (.inl (k, n, x)))), hw, hs, hkey, hplc => exact hkey k (seg_hd hs).1 (by have := hw.2.1; omega) rfl rfl
  | .inr (.inr (.inr (.inr (.inl (k, rr, x, e))))), hw, hs, hkey, hplc => exact hkey k (seg_hd hs).1 (by have := hw.2.1; omega) rfl rfl
  | .inr (.inr (.inr (.inr (.inr (k, n))))), hw, hs, hkey, hplc => exact hkey k (seg_hd hs).1 (by have := hw.2.1; omega) rfl rfl
end
