/-! The reference's becomes -/
def cpF (g : Mem) (r : Nat) : Nat → Mem
  | 0 => g
  | k + 1 => mset (mset (cpF g r k) 164 (1600 * r + k) (g 159 k)) 165 (1600 * r + k) (g 160 k)
theorem cpF_o {g : Mem} {r c q : Nat} : ∀ k, (c < 164 ∨ 165 < c ∨ q < 1600 * r ∨ 1600 * r + k ≤ q) → cpF g r k c q = g c q := by
  intro k
  induction k with
  | zero => intro _; rfl
  | succ k ih =>
    intro h
    simp only [cpF, rd]
    rw [if_neg (by omega), if_neg (by omega)]
    exact ih (by omega)
theorem cpF_v {g : Mem} {r q : Nat} : ∀ k, q < k → cpF g r k 164 (1600 * r + q) = g 159 q ∧ cpF g r k 165 (1600 * r + q) = g 160 q := by
  intro k
  induction k with
  | zero => intro h; omega
  | succ k ih =>
    intro h
    simp only [cpF, rd]
    by_cases e : q = k
    · subst e
      rw [if_neg (by omega), if_pos (by simp), if_pos (by simp)]
      exact ⟨rfl, rfl⟩
    · have := ih (by omega)
      rw [if_neg (by omega), if_neg (by omega), if_neg (by omega), if_neg (by omega)]
      exact this
/-- what the reference's becomes leaves -/
abbrev Bec (r : Nat) (g g' : Mem) (T : Int → Int) (len n : Nat) (l : List En9) (o : Int) : Prop := (RT g' r T len) ∧ (g' 161 r = 1) ∧ (g' 162 r = o) ∧ (g' 166 r = n) ∧ (RLt g' r 0 l) ∧ (g' 156 54 = 0) ∧ (∀ k, ¬ k = 54 → g' 156 k = g 156 k) ∧ (∀ c k, (c < 156 ∨ (156 < c ∧ c < 161) ∨ 173 < c) → g' c k = g c k) ∧ (∀ c k, (c = 161 ∨ c = 162 ∨ c = 163 ∨ c = 166) → ¬ k = r → g' c k = g c k) ∧ (∀ c k, (c = 164 ∨ c = 165) → (k < 1600 * r ∨ 1600 * r + 1600 ≤ k) → g' c k = g c k) ∧ (∀ c k, 167 ≤ c → c ≤ 173 → (k < 40 * r ∨ 40 * r + 40 ≤ k) → g' c k = g c k)
theorem Bec.rt {r : Nat} {g g' : Mem} {T : Int → Int} {len n : Nat} {l : List En9} {o : Int} (hSelf : Bec r g g' T len n l o) : RT g' r T len := hSelf.1
theorem Bec.th {r : Nat} {g g' : Mem} {T : Int → Int} {len n : Nat} {l : List En9} {o : Int} (hSelf : Bec r g g' T len n l o) : g' 161 r = 1 := hSelf.2.1
theorem Bec.od {r : Nat} {g g' : Mem} {T : Int → Int} {len n : Nat} {l : List En9} {o : Int} (hSelf : Bec r g g' T len n l o) : g' 162 r = o := hSelf.2.2.1
theorem Bec.nn {r : Nat} {g g' : Mem} {T : Int → Int} {len n : Nat} {l : List En9} {o : Int} (hSelf : Bec r g g' T len n l o) : g' 166 r = n := hSelf.2.2.2.1
theorem Bec.tb {r : Nat} {g g' : Mem} {T : Int → Int} {len n : Nat} {l : List En9} {o : Int} (hSelf : Bec r g g' T len n l o) : RLt g' r 0 l := hSelf.2.2.2.2.1
theorem Bec.run {r : Nat} {g g' : Mem} {T : Int → Int} {len n : Nat} {l : List En9} {o : Int} (hSelf : Bec r g g' T len n l o) : g' 156 54 = 0 := hSelf.2.2.2.2.2.1
theorem Bec.fa {r : Nat} {g g' : Mem} {T : Int → Int} {len n : Nat} {l : List En9} {o : Int} (hSelf : Bec r g g' T len n l o) : ∀ k, ¬ k = 54 → g' 156 k = g 156 k := hSelf.2.2.2.2.2.2.1
theorem Bec.fr {r : Nat} {g g' : Mem} {T : Int → Int} {len n : Nat} {l : List En9} {o : Int} (hSelf : Bec r g g' T len n l o) : ∀ c k, (c < 156 ∨ (156 < c ∧ c < 161) ∨ 173 < c) → g' c k = g c k := hSelf.2.2.2.2.2.2.2.1
theorem Bec.f1 {r : Nat} {g g' : Mem} {T : Int → Int} {len n : Nat} {l : List En9} {o : Int} (hSelf : Bec r g g' T len n l o) : ∀ c k, (c = 161 ∨ c = 162 ∨ c = 163 ∨ c = 166) → ¬ k = r → g' c k = g c k := hSelf.2.2.2.2.2.2.2.2.1
theorem Bec.f2 {r : Nat} {g g' : Mem} {T : Int → Int} {len n : Nat} {l : List En9} {o : Int} (hSelf : Bec r g g' T len n l o) : ∀ c k, (c = 164 ∨ c = 165) → (k < 1600 * r ∨ 1600 * r + 1600 ≤ k) → g' c k = g c k := hSelf.2.2.2.2.2.2.2.2.2.1
theorem Bec.f3 {r : Nat} {g g' : Mem} {T : Int → Int} {len n : Nat} {l : List En9} {o : Int} (hSelf : Bec r g g' T len n l o) : ∀ c k, 167 ≤ c → c ≤ 173 → (k < 40 * r ∨ 40 * r + 40 ≤ k) → g' c k = g c k := hSelf.2.2.2.2.2.2.2.2.2.2
section
variable {L d r len : Nat} {f t g : Mem} {T : Int → Int} {Q : Option TV → Wd → Prop} {o : Int}
theorem l_M_becomes (hr : r < 10) (hl : len ≤ 1000) (hm : g 156 11 = len) : ∀ (m k : Nat), k + m = len → VV L d m_M_becomes 26 [some (tA 156), some (tI r), some (tI o), some (tI k)] [] (WW f t (cpF g r k)) Q = VV L d m_M_becomes 76 [some (tA 156), some (tI r), some (tI o), some (tI len)] [] (WW f t (cpF g r len)) Q := by
  have x1 : w32 (1600 * (r : Int)) = 1600 * r := w32_id (by omega) (by omega)
  have hm' : ∀ k, cpF g r k 156 11 = len := fun k => by rw [cpF_o k (by omega)]; exact hm
  intro m
  induction m with
  | zero =>
    intro k hk
    have : k = len := by omega
    subst this
    rw [u_M_becomes_26]
    simp only [u_M_becomes_27, u_M_becomes_28, u_M_becomes_31, u_M_becomes_34, u_M_becomes_35, u_M_becomes_38, u_M_becomes_41, u_M_becomes_42, u_M_becomes_43, u_M_becomes_44, u_M_becomes_45, u_M_becomes_46, u_M_becomes_49, u_M_becomes_50, u_M_becomes_51, u_M_becomes_52, u_M_becomes_53, u_M_becomes_56, u_M_becomes_59, u_M_becomes_60, u_M_becomes_61, u_M_becomes_62, u_M_becomes_63, u_M_becomes_64, u_M_becomes_67, u_M_becomes_68, u_M_becomes_69, u_M_becomes_70, u_M_becomes_73, h1_156, gt_156_11, ne_eq, not_false_eq_true, not_true_eq_false, true_and, and_true, true_or, or_true, eq_self, Option.toList_some, Option.toList_none, List.cons_append, List.nil_append, tc_0, tc_I, tc_L, tc_A, Nat.reduceAdd, Nat.reduceLeDiff, Nat.reduceEqDiff, Int.reduceEq, Int.reduceLT, Int.reduceLE, Int.reduceNeg, Int.reduceToNat, Int.cast_ofNat_Int, if_true, if_false, and_self, or_self, ite_self, bI_0, bI_1, bI_01, Bool.false_eq_true, reduceCtorEq, hm', Int.le_refl]
  | succ m ih =>
    intro k hk
    rw [u_M_becomes_26]
    have x2 : w32 (1600 * (r : Int) + k) = 1600 * r + k := w32_id (by omega) (by omega)
    have x3 : (1600 * (r : Int) + k).toNat = 1600 * r + k := by omega
    have xk : w32 ((k : Int) + 1) = ((k + 1 : Nat) : Int) := by rw [w32_id (by omega) (by omega)]; omega
    have e1 : cpF g r k 159 k = g 159 k := cpF_o k (by omega)
    have e2 : cpF g r k 160 k = g 160 k := cpF_o k (by omega)
    simp only [u_M_becomes_27, u_M_becomes_28, u_M_becomes_31, u_M_becomes_34, u_M_becomes_35, u_M_becomes_38, u_M_becomes_41, u_M_becomes_42, u_M_becomes_43, u_M_becomes_44, u_M_becomes_45, u_M_becomes_46, u_M_becomes_49, u_M_becomes_50, u_M_becomes_51, u_M_becomes_52, u_M_becomes_53, u_M_becomes_56, u_M_becomes_59, u_M_becomes_60, u_M_becomes_61, u_M_becomes_62, u_M_becomes_63, u_M_becomes_64, u_M_becomes_67, u_M_becomes_68, u_M_becomes_69, u_M_becomes_70, u_M_becomes_73, h1_156, gt_156_11, gt_156_25, gt_156_26, gt_156_9, gt_156_10, h1_159, h2_159, gt_159, pt_159, h1_160, h2_160, gt_160, pt_160, h1_164, h2_164, gt_164, pt_164, h1_165, h2_165, gt_165, pt_165, ne_eq, not_false_eq_true, not_true_eq_false, true_and, and_true, true_or, or_true, eq_self, Option.toList_some, Option.toList_none, List.cons_append, List.nil_append, tc_0, tc_I, tc_L, tc_A, Nat.reduceAdd, Nat.reduceLeDiff, Nat.reduceEqDiff, Int.reduceEq, Int.reduceLT, Int.reduceLE, Int.reduceNeg, Int.reduceToNat, Int.cast_ofNat_Int, if_true, if_false, and_self, or_self, ite_self, bI_0, bI_1, bI_01, Bool.false_eq_true, reduceCtorEq, hm', show ¬ (len : Int) ≤ k by omega, x1, x2, x3, show 0 ≤ 1600 * (r : Int) + k by omega, show 1600 * (r : Int) + k < 16000 by omega, show 0 ≤ (k : Int) by omega, show (k : Int) < 1600 by omega, Int.toNat_natCast, rd, false_and, e1, e2, xk]
    exact ih (k + 1) (by omega)
def bec0 (g : Mem) (r : Nat) (o : Int) (len : Nat) : Mem := mset (mset (mset g 161 r 1) 162 r o) 163 r len
theorem p_M_becomes {c : Nat} {od : Bool} (hr : r < 10) (hl : len ≤ 1000) (hm : g 156 11 = len) (hT : ∀ q : Nat, q < len → g 159 q = eS T q ∧ g 160 q = whc (T q)) (hz : ∀ q : Int, q < 0 ∨ (len : Int) ≤ q → T q = 0) (ho : o = 0 ∨ o = 1) (x : TB c 6) (hw : wB od 6 x) (hs : seg T 0 len (kB 6 x)) (hn : nB 6 x ≤ 40) (hQ : ∀ g', Bec r g g' T len (nB 6 x) (t9B 6 x 0 0) o → Q (some (tI (nB 6 x))) (WW f t g')) : VV L (d + 14) m_M_becomes 0 [some (tA 156), some (tI r), some (tI o), none] [] (WW f t g) Q := by
  have b0 : ∀ c k, (c < 161 ∨ 163 < c ∨ ¬ k = r) → bec0 g r o len c k = g c k := fun c k h => by
    simp only [bec0, rd]; rw [if_neg (by omega), if_neg (by omega), if_neg (by omega)]
  have b1 : bec0 g r o len 161 r = 1 := by simp only [bec0, rd]; rw [if_neg (by omega), if_neg (by omega), if_pos (by simp)]
  have b2 : bec0 g r o len 162 r = o := by simp only [bec0, rd]; rw [if_neg (by omega), if_pos (by simp)]
  have b3 : bec0 g r o len 163 r = len := by simp only [bec0, rd]; rw [if_pos (by simp)]
  have h1 : VV L (d + 14) m_M_becomes 0 [some (tA 156), some (tI r), some (tI o), none] [] (WW f t g) Q = VV L (d + 14) m_M_becomes 26 [some (tA 156), some (tI r), some (tI o), some (tI (0 : Nat))] [] (WW f t (cpF (bec0 g r o len) r 0)) Q := by
    simp only [u_M_becomes_0, u_M_becomes_1, u_M_becomes_4, u_M_becomes_5, u_M_becomes_6z h1_161, u_M_becomes_6z h1_162, u_M_becomes_7, u_M_becomes_8, u_M_becomes_11, u_M_becomes_12, u_M_becomes_13z h1_161, u_M_becomes_13z h1_162, u_M_becomes_14, u_M_becomes_15, u_M_becomes_18, u_M_becomes_19, u_M_becomes_20, u_M_becomes_23, u_M_becomes_24, u_M_becomes_25, h1_156, gt_156_11, gt_156_22, gt_156_23, gt_156_24, h1_161, h2_161, gt_161, pt_161, h1_162, h2_162, gt_162, pt_162, h1_163, h2_163, gt_163, pt_163, ne_eq, not_false_eq_true, not_true_eq_false, true_and, and_true, true_or, or_true, eq_self, Option.toList_some, Option.toList_none, List.cons_append, List.nil_append, tc_0, tc_I, tc_L, tc_A, Nat.reduceAdd, Nat.reduceLeDiff, Nat.reduceEqDiff, Int.reduceEq, Int.reduceLT, Int.reduceLE, Int.reduceNeg, Int.reduceToNat, Int.cast_ofNat_Int, if_true, if_false, and_self, or_self, ite_self, bI_0, bI_1, bI_01, Bool.false_eq_true, reduceCtorEq, show 0 ≤ (r : Int) by omega, show (r : Int) < 10 by omega, Int.toNat_natCast, rd, false_and, hm, ho]
    rfl
  rw [h1, l_M_becomes hr hl (by rw [b0 _ _ (by omega)]; exact hm) len 0 (by omega)]
  generalize hg1 : cpF (bec0 g r o len) r len = g1
  have c1 : ∀ c k, (c < 161 ∨ 165 < c ∨ (c ≤ 163 ∧ ¬ k = r) ∨ (164 ≤ c ∧ (k < 1600 * r ∨ 1600 * r + 1600 ≤ k))) → g1 c k = g c k := fun c k h => by
    rw [← hg1, cpF_o len (by omega), b0 c k (by omega)]
  have c2 : ∀ c, 161 ≤ c → c ≤ 163 → g1 c r = bec0 g r o len c r := fun c _ _ => by rw [← hg1, cpF_o len (by omega)]
  have hR1 : RT (mset g1 166 r 0) r T len := by
    refine ⟨?_, fun q hq => ?_, fun q hq => ?_, hz, hr, hl⟩
    · rw [rd, if_neg (by omega), c2 163 (by omega) (by omega), b3]
    · rw [rd, if_neg (by omega), ← hg1, (cpF_v len hq).1, b0 _ _ (by omega)]; exact (hT q hq).1
    · rw [rd, if_neg (by omega), ← hg1, (cpF_v len hq).2, b0 _ _ (by omega)]; exact (hT q hq).2
  have e6 : (mset g1 166 r 0) 166 r = 0 := by rw [rd, if_pos (by simp)]
  simp only [u_M_becomes_76, u_M_becomes_77, u_M_becomes_80, u_M_becomes_81, u_M_becomes_82, u_M_becomes_83, u_M_becomes_84, u_M_becomes_85, u_M_becomes_86, h1_156, gt_156_27, h1_166, h2_166, gt_166, pt_166, ne_eq, not_false_eq_true, not_true_eq_false, true_and, and_true, true_or, or_true, eq_self, Option.toList_some, Option.toList_none, List.cons_append, List.nil_append, tc_0, tc_I, tc_L, tc_A, Nat.reduceAdd, Nat.reduceLeDiff, Nat.reduceEqDiff, Int.reduceEq, Int.reduceLT, Int.reduceLE, Int.reduceNeg, Int.reduceToNat, Int.cast_ofNat_Int, if_true, if_false, and_self, or_self, ite_self, bI_0, bI_1, bI_01, Bool.false_eq_true, reduceCtorEq, show 0 ≤ (r : Int) by omega, show (r : Int) < 10 by omega, Int.toNat_natCast]
  refine LyP_B (d := d) (o := od) 6 x hw (mset g1 166 r 0) 0 len _ hR1 (by omega) (by omega) hs (by omega) (by omega) (Or.inr rfl) (fun g2 S => ?_)
  have n2 := S.n6
  rw [e6] at n2
  simp only [u_M_becomes_89, u_M_becomes_90, u_M_becomes_91, u_M_becomes_92, u_M_becomes_95, u_M_becomes_96, u_M_becomes_99, u_M_becomes_100, u_M_becomes_101, h1_156, pt_156_54, gt_156_27, h1_166, h2_166, gt_166, pt_166, ne_eq, not_false_eq_true, not_true_eq_false, true_and, and_true, true_or, or_true, eq_self, Option.toList_some, Option.toList_none, List.cons_append, List.nil_append, tc_0, tc_I, tc_L, tc_A, Nat.reduceAdd, Nat.reduceLeDiff, Nat.reduceEqDiff, Int.reduceEq, Int.reduceLT, Int.reduceLE, Int.reduceNeg, Int.reduceToNat, Int.cast_ofNat_Int, if_true, if_false, and_self, or_self, ite_self, bI_0, bI_1, bI_01, Bool.false_eq_true, reduceCtorEq, show 0 ≤ (r : Int) by omega, show (r : Int) < 10 by omega, Int.toNat_natCast, rd, false_and, n2, Int.zero_add]
  have sf : ∀ c k, c < 166 ∨ 173 < c → g2 c k = g1 c k := fun c k h => by rw [S.fr c k h, rd, if_neg (by omega)]
  refine hQ _ ⟨?_, ?_, ?_, ?_, ?_, ?_, ?_, ?_, ?_, ?_, ?_⟩
  · exact RT_fr2 (RT_fr hR1 (fun c k hc => S.fr c k (by omega))) (fun c k hc hc2 => by rw [rd, if_neg (by omega)])
  · rw [rd, if_neg (by omega), sf _ _ (by omega), c2 161 (by omega) (by omega), b1]
  · rw [rd, if_neg (by omega), sf _ _ (by omega), c2 162 (by omega) (by omega), b2]
  · rw [rd, if_neg (by omega), n2]; omega
  · have q := S.tb
    rw [e6] at q
    exact RLt_mono _ _ q (fun c k c1 c2 _ _ => by rw [rd, if_neg (by omega)])
  · rw [rd, if_pos (by simp)]
  · intro k hk; rw [rd, if_neg (by omega), sf _ _ (by omega), c1 _ _ (by omega)]
  · intro c k hc; rw [rd, if_neg (by omega), sf _ _ (by omega), c1 _ _ (by omega)]
  · intro c k hc hk
    rw [rd, if_neg (by omega)]
    by_cases h6 : c = 166
    · subst h6; rw [S.f6 k hk, rd, if_neg (by omega), c1 _ _ (by omega)]
    · rw [sf _ _ (by omega), c1 _ _ (by omega)]
  · intro c k hc hk; rw [rd, if_neg (by omega), sf _ _ (by omega), c1 _ _ (by omega)]
  · intro c k c1' c2' hk
    rw [rd, if_neg (by omega), S.en c k c1' c2' (by rw [e6]; omega), rd, if_neg (by omega), c1 _ _ (by omega)]
end
