/-! The run, the reference: leaves, enters -/
abbrev TMo {c : Nat} (g : Mem) (r : Nat) (T : Int → Int) (o : Bool) (x : TB c 6) : Prop := (RT g r T (kB 6 x).length) ∧ (RLt g r 0 (t9B 6 x 0 0)) ∧ (g 166 r = (nB 6 x : Int)) ∧ (g 162 r = bB o)
theorem TMo.rt {c : Nat} {g : Mem} {r : Nat} {T : Int → Int} {o : Bool} {x : TB c 6} (hSelf : TMo g r T o x) : RT g r T (kB 6 x).length := hSelf.1
theorem TMo.ro {c : Nat} {g : Mem} {r : Nat} {T : Int → Int} {o : Bool} {x : TB c 6} (hSelf : TMo g r T o x) : RLt g r 0 (t9B 6 x 0 0) := hSelf.2.1
theorem TMo.nn {c : Nat} {g : Mem} {r : Nat} {T : Int → Int} {o : Bool} {x : TB c 6} (hSelf : TMo g r T o x) : g 166 r = (nB 6 x : Int) := hSelf.2.2.1
theorem TMo.od {c : Nat} {g : Mem} {r : Nat} {T : Int → Int} {o : Bool} {x : TB c 6} (hSelf : TMo g r T o x) : g 162 r = bB o := hSelf.2.2.2
abbrev TM (X : Nat → Tre) (f t g : Mem) : Prop := (∀ r, r < 10 → t (aT f r) 15 = g 161 r) ∧ (∀ r, r < 10 → t (aT f r) 15 = 1 → TMo g r (tok t (aT f r)) (X r).2.1 (X r).2.2)
theorem TM.th {X : Nat → Tre} {f t g : Mem} (hSelf : TM X f t g) : ∀ r, r < 10 → t (aT f r) 15 = g 161 r := hSelf.1
theorem TM.ok {X : Nat → Tre} {f t g : Mem} (hSelf : TM X f t g) : ∀ r, r < 10 → t (aT f r) 15 = 1 → TMo g r (tok t (aT f r)) (X r).2.1 (X r).2.2 := hSelf.2
abbrev RnM (sg : Int) (f g : Mem) : Prop := (g 156 55 = f 151 6) ∧ (g 156 56 = f 151 7) ∧ (g 156 57 = sg * f 151 8) ∧ (g 156 58 = f 151 9) ∧ (g 156 59 = f 151 5) ∧ (∀ k : Nat, (k : Int) < f 151 5 → g 182 k = f 153 k ∧ g 183 k = f 154 k)
theorem RnM.r6 {sg : Int} {f g : Mem} (hSelf : RnM sg f g) : g 156 55 = f 151 6 := hSelf.1
theorem RnM.r7 {sg : Int} {f g : Mem} (hSelf : RnM sg f g) : g 156 56 = f 151 7 := hSelf.2.1
theorem RnM.r8 {sg : Int} {f g : Mem} (hSelf : RnM sg f g) : g 156 57 = sg * f 151 8 := hSelf.2.2.1
theorem RnM.r9 {sg : Int} {f g : Mem} (hSelf : RnM sg f g) : g 156 58 = f 151 9 := hSelf.2.2.2.1
theorem RnM.r5 {sg : Int} {f g : Mem} (hSelf : RnM sg f g) : g 156 59 = f 151 5 := hSelf.2.2.2.2.1
theorem RnM.fr {sg : Int} {f g : Mem} (hSelf : RnM sg f g) : ∀ k : Nat, (k : Int) < f 151 5 → g 182 k = f 153 k ∧ g 183 k = f 154 k := hSelf.2.2.2.2.2
/-- what a GO leaves as it was -/
def FG (g g' : Mem) : Prop := ∀ b j, ¬ ((174 ≤ b ∧ b ≤ 183) ∨ (b = 156 ∧ (j = 35 ∨ (44 ≤ j ∧ j ≤ 53) ∨ (55 ≤ j ∧ j ≤ 62)))) → g' b j = g b j
def FR (f f' : Mem) : Prop := ∀ b j, b < 20 ∨ 48 < b → ¬ b = 149 → ¬ b = 150 → ¬ (b = 151 ∧ 5 ≤ j ∧ j ≤ 10) → ¬ b = 153 → ¬ b = 154 → f' b j = f b j
theorem FG_refl {g : Mem} : FG g g := fun _ _ _ => rfl
theorem FG_tr {f f1 f2 : Mem} (h : FG f f1) (h' : FG f1 f2) : FG f f2 := fun b j hh => (h' b j hh).trans (h b j hh)
theorem FG_Z {g g' : Mem} (h : FZ g g') : FG g g' := fun b j hh => h b j (by omega)
theorem FG_m {g : Mem} {j : Nat} {v : Int} (h : 55 ≤ j ∧ j ≤ 62) : FG g (mset g 156 j v) := fun b k hh => by rw [rd, if_neg (by omega)]
theorem FG_m3 {g : Mem} {a j : Nat} {v : Int} (h : a = 182 ∨ a = 183) : FG g (mset g a j v) := fun b k hh => by rw [rd, if_neg (by omega)]
/-- what leaving and entering leave as it was -/
def FH (g g' : Mem) : Prop := ∀ b j, ¬ (b = 182 ∨ b = 183 ∨ (b = 156 ∧ 55 ≤ j ∧ j ≤ 62)) → g' b j = g b j
theorem FG_H {g g' : Mem} (h : FH g g') : FG g g' := fun b j hh => h b j (by omega)
theorem FH_tr {f f1 f2 : Mem} (h : FH f f1) (h' : FH f1 f2) : FH f f2 := fun b j hh => (h' b j hh).trans (h b j hh)
theorem FH_m {g : Mem} {j : Nat} {v : Int} (h : 55 ≤ j ∧ j ≤ 62) : FH g (mset g 156 j v) := fun b k hh => by rw [rd, if_neg (by omega)]
theorem FH_m3 {g : Mem} {a j : Nat} {v : Int} (h : a = 182 ∨ a = 183) : FH g (mset g a j v) := fun b k hh => by rw [rd, if_neg (by omega)]
theorem FR_refl {g : Mem} : FR g g := fun _ _ _ _ _ _ _ _ => rfl
theorem FR_tr {f f1 f2 : Mem} (h : FR f f1) (h' : FR f1 f2) : FR f f2 := fun b j h1 h2 h3 h4 h5 h6 => (h' b j h1 h2 h3 h4 h5 h6).trans (h b j h1 h2 h3 h4 h5 h6)
theorem FR_Q {g g' : Mem} (h : FQ g g') : FR g g' := fun b j h1 h2 h3 _ _ _ => h b j h1 h2 h3
theorem FR_m {f : Mem} {j : Nat} {v : Int} (h : 5 ≤ j ∧ j ≤ 10) : FR f (mset f 151 j v) := fun b k _ _ _ hh _ _ => by rw [rd, if_neg (by omega)]
theorem FR_m3 {f : Mem} {a j : Nat} {v : Int} (h : a = 153 ∨ a = 154) : FR f (mset f a j v) := fun b k _ _ _ _ h1 h2 => by rw [rd, if_neg (by omega)]
theorem aT_FR {f f' : Mem} (h : FR f f') (r : Nat) : aT f' r = aT f r := by unfold aT; rw [h 3 r (by omega) (by omega) (by omega) (by omega) (by omega) (by omega)]
section
variable {L d c r m : Nat} {X : Nat → Tre} {F f t g : Mem} {Q : Option TV → Wd → Prop} {fw op sg p : Int}
theorem FR_lv : FR f (lvC f op fw) := by
  unfold lvC
  refine FR_tr ?_ (FR_m (by omega))
  split
  · exact FR_tr (FR_m (by omega)) (FR_m (by omega))
  · exact FR_tr (FR_tr (FR_m (by omega)) (FR_m (by omega))) (FR_m (by omega))
theorem FR_en {n q sz : Int} : FR f (enC f op fw n q sz) := by
  unfold enC
  have h1 : FR f (mset (mset (mset (mset f 153 (f 151 5).toNat (f 151 6)) 154 (f 151 5).toNat q) 151 5 (f 151 5 + 1)) 151 6 n) := FR_tr (FR_tr (FR_tr (FR_m3 (by omega)) (FR_m3 (by omega))) (FR_m (by omega))) (FR_m (by omega))
  dsimp only
  split
  · exact FR_tr h1 (FR_m (by omega))
  · exact FR_tr (FR_tr h1 (FR_m (by omega))) (FR_m (by omega))
theorem lvC_st {b j : Nat} (h : ¬ b = 151) : lvC f op fw b j = f b j := by
  unfold lvC
  rw [rd, if_neg (fun hh => h hh.1)]
  split
  · rw [rd, if_neg (fun hh => h hh.1), rd, if_neg (fun hh => h hh.1)]
  · rw [rd, if_neg (fun hh => h hh.1), rd, if_neg (fun hh => h hh.1), rd, if_neg (fun hh => h hh.1)]
theorem enC_st {n q sz : Int} {b j : Nat} (h : ¬ b = 151) (h3 : ¬ b = 153) (h4 : ¬ b = 154) : enC f op fw n q sz b j = f b j := by
  have k : ∀ z, (mset (mset (mset (mset (mset f 153 (f 151 5).toNat (f 151 6)) 154 (f 151 5).toNat q) 151 5 (f 151 5 + 1)) 151 6 n) 151 7 z) b j = f b j := fun z => by
    rw [rd, if_neg (fun hh => h hh.1), rd, if_neg (fun hh => h hh.1), rd, if_neg (fun hh => h hh.1), rd, if_neg (fun hh => h4 hh.1), rd, if_neg (fun hh => h3 hh.1)]
  unfold enC
  split
  · exact k _
  · rw [rd, if_neg (fun hh => h hh.1)]; exact k _
theorem lvC_v : lvC f op fw 151 5 = f 151 5 - 1 ∧ lvC f op fw 151 6 = f 153 (f 151 5 - 1).toNat ∧ lvC f op fw 151 7 = (if (if op = 206 then (1 : Int) else 0) = fw then f 154 (f 151 5 - 1).toNat + 1 else f 154 (f 151 5 - 1).toNat) ∧ lvC f op fw 151 8 = (if op = 206 then f 151 8 else - f 151 8) ∧ lvC f op fw 151 9 = f 151 9 ∧ (∀ k, lvC f op fw 153 k = f 153 k ∧ lvC f op fw 154 k = f 154 k) := by
  unfold lvC
  split <;> refine ⟨?_, ?_, ?_, ?_, ?_, fun k => ⟨?_, ?_⟩⟩ <;> simp only [rd, Nat.reduceEqDiff, and_false, false_and, if_false, and_self, if_true]
theorem enC_v {n q sz : Int} : enC f op fw n q sz 151 5 = f 151 5 + 1 ∧ enC f op fw n q sz 151 6 = n ∧ enC f op fw n q sz 151 7 = (if (if op = 206 then (1 : Int) else 0) = fw then 0 else sz) ∧ enC f op fw n q sz 151 8 = (if op = 206 then f 151 8 else - f 151 8) ∧ enC f op fw n q sz 151 9 = f 151 9 ∧ (∀ k, enC f op fw n q sz 153 k = (if k = (f 151 5).toNat then f 151 6 else f 153 k) ∧ enC f op fw n q sz 154 k = (if k = (f 151 5).toNat then q else f 154 k)) := by
  unfold enC
  split <;> refine ⟨?_, ?_, ?_, ?_, ?_, fun k => ⟨?_, ?_⟩⟩ <;> simp only [rd, Nat.reduceEqDiff, and_false, false_and, if_false, and_self, if_true, true_and]
theorem ar_lv {x y : Int} {r q h : Nat} (e : x = y) (hh : y - 1 = (h : Int)) (h12 : y ≤ 12) (h0 : 0 < y) (hr : r < 10) (hq : (q : Int) < 40) : w32 (x - 1) = (h : Int) ∧ w32 (40 * (r : Int)) = 40 * r ∧ w32 (40 * (r : Int) + q) = 40 * r + q ∧ (40 * (r : Int) + q).toNat = 40 * r + q ∧ w32 ((q : Int) + 1) = q + 1 ∧ (0 : Int) ≤ h ∧ (h : Int) < 12 ∧ (0 : Int) ≤ 40 * r + q ∧ (40 : Int) * r + q < 400 ∧ ¬ x = 0 := by
  refine ⟨by rw [w32_id (by omega) (by omega)]; omega, w32_id (by omega) (by omega), w32_id (by omega) (by omega), by omega, w32_id (by omega) (by omega), by omega, by omega, by omega, by omega, by omega⟩
theorem ar_k {k h : Nat} {y : Int} (hk : (k : Int) < y + 1) (hy : y = (h : Int)) (hkh : ¬ k = h) : (k : Int) < y := by omega
theorem ar_en {h m : Nat} (h12 : (h : Int) < 12) (hm : m < 10) : w32 ((h : Int) + 1) = h + 1 ∧ (0 : Int) ≤ h ∧ (0 : Int) ≤ m ∧ (m : Int) < 10 ∧ ¬ (h : Int) = 12 := ⟨w32_id (by omega) (by omega), by omega, by omega, by omega, by omega⟩
theorem s_M_leaves0 (h : g 156 59 = 0) : VV L d m_M_leaves 0 [some (tA 156), none, none, none] [] (WW F t g) Q = Q (some (tI 12)) (WW F t g) := by
  simp only [u_M_leaves_0, u_M_leaves_1, u_M_leaves_4, u_M_leaves_7, u_M_leaves_9, h1_156, gt_156_59, ne_eq, not_false_eq_true, not_true_eq_false, true_and, and_true, true_or, or_true, eq_self, Option.toList_some, Option.toList_none, List.cons_append, List.nil_append, tc_0, tc_I, tc_L, tc_A, Nat.reduceAdd, Nat.reduceLeDiff, Nat.reduceEqDiff, Int.reduceEq, Int.reduceLT, Int.reduceLE, Int.reduceNeg, Int.reduceToNat, Int.cast_ofNat_Int, if_true, if_false, and_self, or_self, ite_self, bI_0, bI_1, bI_01, Bool.false_eq_true, reduceCtorEq, h]
theorem p_M_leaves (hM : RnM sg f g) (h0 : 0 < f 151 5) (h12 : f 151 5 ≤ 12) (hr : f 153 (f 151 5 - 1).toNat = (r : Int)) (hr10 : r < 10) (hp : 0 ≤ f 154 (f 151 5 - 1).toNat ∧ f 154 (f 151 5 - 1).toNat < 40) (hop : op = 206 ∨ op = 207) (hdo : g 167 (40 * r + (f 154 (f 151 5 - 1).toNat).toNat) = op - 200) (hfw : (fw = 1 ∧ g 156 57 = 1) ∨ (fw = 0 ∧ g 156 57 = -1)) (hQ : ∀ g', RnM sg (lvC f op fw) g' → FH g g' → Q (some (tI 0)) (WW F t g')) : VV L (d + 1) m_M_leaves 0 [some (tA 156), none, none, none] [] (WW F t g) Q := by
  obtain ⟨q, hq⟩ : ∃ q : Nat, f 154 (f 151 5 - 1).toNat = (q : Int) := ⟨_, (Int.toNat_of_nonneg hp.1).symm⟩
  obtain ⟨h, hh⟩ : ∃ h : Nat, f 151 5 - 1 = (h : Int) := ⟨_, (Int.toNat_of_nonneg (by omega)).symm⟩
  obtain ⟨k1, k2⟩ := hM.fr h (by omega)
  have e5 := hM.r5
  have hh' : (f 151 5 - 1).toNat = h := by omega
  rw [hh'] at hr hq hp hdo
  rw [hr] at k1
  rw [hq] at k2 hp hdo
  obtain ⟨w1, w40, w40q, i40, wq, n1, n2, n3, n4, hz⟩ := ar_lv e5 hh h12 h0 hr10 hp.2
  have hdo' : g 167 (40 * r + q) = op - 200 := by rw [← hdo]; rfl
  obtain ⟨v5, v6, v7, v8, v9, vf⟩ := lvC_v (f := f) (op := op) (fw := fw)
  rw [hh', hr] at v6
  rw [hh', hq] at v7
  have fin : ∀ (pl wy : Int), pl = (if (if op = 206 then (1 : Int) else 0) = fw then (q : Int) + 1 else q) → wy = (if op = 206 then g 156 57 else - g 156 57) → Q (some (tI 0)) (WW F t (mset (mset (mset (mset g 156 59 h) 156 55 r) 156 56 pl) 156 57 wy)) := by
    intro pl wy e1 e2
    refine hQ _ ⟨?_, ?_, ?_, ?_, ?_, ?_⟩ (FH_tr (FH_tr (FH_tr (FH_m (by omega)) (FH_m (by omega))) (FH_m (by omega))) (FH_m (by omega)))
    · simp only [rd, Nat.reduceEqDiff, and_false, if_false, and_self, if_true]; exact v6.symm
    · simp only [rd, Nat.reduceEqDiff, and_false, if_false, and_self, if_true]; rw [v7]; exact e1
    · simp only [rd, and_self, if_true]
      rw [v8, e2, hM.r8]
      split
      · rfl
      · rw [Int.mul_neg]
    · simp only [rd, Nat.reduceEqDiff, and_false, if_false]; rw [v9]; exact hM.r9
    · simp only [rd, Nat.reduceEqDiff, and_false, if_false, and_self, if_true]; rw [v5]; exact hh.symm
    · intro k hk
      rw [v5] at hk
      simp only [rd, Nat.reduceEqDiff, false_and, if_false]
      rw [(vf k).1, (vf k).2]
      exact hM.fr k (by omega)
  rcases hfw with ⟨rfl, h57⟩ | ⟨rfl, h57⟩ <;> rcases hop with rfl | rfl <;>
    simp only [u_M_leaves_0, u_M_leaves_1, u_M_leaves_4, u_M_leaves_7, u_M_leaves_9, u_M_leaves_10, u_M_leaves_11, u_M_leaves_14, u_M_leaves_15, u_M_leaves_18, u_M_leaves_19, u_M_leaves_22, u_M_leaves_23, u_M_leaves_24, u_M_leaves_25, u_M_leaves_26, u_M_leaves_29, u_M_leaves_30, u_M_leaves_31, u_M_leaves_34, u_M_leaves_35, u_M_leaves_36, u_M_leaves_39, u_M_leaves_40, u_M_leaves_43, u_M_leaves_44, u_M_leaves_47, u_M_leaves_48, u_M_leaves_51, u_M_leaves_52, u_M_leaves_55, u_M_leaves_56, u_M_leaves_57, u_M_leaves_58, u_M_leaves_61, u_M_leaves_63, u_M_leaves_64, u_M_leaves_67, u_M_leaves_68, u_M_leaves_69, u_M_leaves_70, u_M_leaves_71, u_M_leaves_73, u_M_leaves_76, u_M_leaves_77, u_M_leaves_80, u_M_leaves_81, u_M_leaves_82, u_M_leaves_83, u_M_leaves_84, u_M_leaves_85, u_M_leaves_88, u_M_leaves_89, u_M_leaves_90, u_M_leaves_91, u_M_leaves_94, u_M_leaves_95, u_M_leaves_98, u_M_leaves_99, u_M_leaves_100, u_M_leaves_103, u_M_leaves_104, u_M_leaves_105, u_M_leaves_108, u_M_leaves_109, u_M_leaves_112, u_M_leaves_113, u_M_leaves_116, u_M_leaves_119, u_M_leaves_120, h1_156, gt_156_28, gt_156_55, pt_156_55, pt_156_56, gt_156_57, pt_156_57, gt_156_59, pt_156_59, gt_156_60, gt_156_61, h1_182, h2_182, gt_182, pt_182, h1_183, h2_183, gt_183, pt_183, h1_167, h2_167, gt_167, pt_167, ne_eq, not_false_eq_true, not_true_eq_false, true_and, and_true, true_or, or_true, eq_self, Option.toList_some, Option.toList_none, List.cons_append, List.nil_append, tc_0, tc_I, tc_L, tc_A, Nat.reduceAdd, Nat.reduceLeDiff, Nat.reduceEqDiff, Int.reduceEq, Int.reduceLT, Int.reduceLE, Int.reduceNeg, Int.reduceToNat, Int.cast_ofNat_Int, if_true, if_false, and_self, or_self, ite_self, bI_0, bI_1, bI_01, Bool.false_eq_true, reduceCtorEq, rd, Nat.reduceEqDiff, and_false, false_and, if_false, and_self, if_true, hz, w1, k1, k2, w40, w40q, i40, wq, hdo', h57, n1, n2, n3, n4, Int.toNat_natCast, Int.reduceSub] <;>
    exact fin _ _ (by simp) (by rw [h57]; rfl)
theorem p_M_enters {b : Nat} {sz : Int} (hM : RnM sg f g) (hg : 0 ≤ f 151 5 ∧ f 151 5 ≤ 12) (hm : m < 10) (hth : t b 15 = g 161 m) (h15 : t b 15 = 0 ∨ t b 15 = 1) (hod : t b 15 = 1 → g 162 m = bB (kOrd (tok t b 0))) (hnn : t b 15 = 1 → g 166 m = sz) (hop : op = 206 ∨ op = 207) (hfw : (fw = 1 ∧ g 156 57 = 1) ∨ (fw = 0 ∧ g 156 57 = -1)) (hQ : ∀ g', ¬ (t b 15 = 0 ∨ kOrd (tok t b 0) = true) → ¬ 12 ≤ f 151 5 → FH g g' → (RnM sg (enC f op fw m p sz) g') → Q (some (tI 0)) (WW F t g')) (hQ13 : t b 15 = 0 ∨ kOrd (tok t b 0) = true → Q (some (tI 13)) (WW F t g)) (hQ11 : ¬ (t b 15 = 0 ∨ kOrd (tok t b 0) = true) → 12 ≤ f 151 5 → Q (some (tI 11)) (WW F t g)) : VV L (d + 1) m_M_enters 0 [some (tA 156), some (tI m), some (tI p), some (tI (if op = 207 then 1 else 0))] [] (WW F t g) Q := by
  by_cases c1 : t b 15 = 0
  · have hz : g 161 m = 0 := by omega
    simp only [u_M_enters_0, u_M_enters_1, u_M_enters_4, u_M_enters_5, u_M_enters_6, u_M_enters_9, u_M_enters_10, u_M_enters_13, u_M_enters_14, u_M_enters_15, u_M_enters_18, u_M_enters_20, h1_156, gt_156_22, h1_161, h2_161, gt_161, pt_161, ne_eq, not_false_eq_true, not_true_eq_false, true_and, and_true, true_or, or_true, eq_self, Option.toList_some, Option.toList_none, List.cons_append, List.nil_append, tc_0, tc_I, tc_L, tc_A, Nat.reduceAdd, Nat.reduceLeDiff, Nat.reduceEqDiff, Int.reduceEq, Int.reduceLT, Int.reduceLE, Int.reduceNeg, Int.reduceToNat, Int.cast_ofNat_Int, if_true, if_false, and_self, or_self, ite_self, bI_0, bI_1, bI_01, Bool.false_eq_true, reduceCtorEq, hz, show (0 : Int) ≤ m by omega, show (m : Int) < 10 by omega, Int.toNat_natCast]
    exact hQ13 (Or.inl c1)
  · have c1' : t b 15 = 1 := by omega
    have hz : g 161 m = 1 := by omega
    have hod' := hod c1'
    by_cases c2 : kOrd (tok t b 0) = true
    · rw [c2] at hod'
      have hod2 : g 162 m = 1 := hod'
      simp only [u_M_enters_0, u_M_enters_1, u_M_enters_4, u_M_enters_5, u_M_enters_6, u_M_enters_9, u_M_enters_10, u_M_enters_13, u_M_enters_14, u_M_enters_15, u_M_enters_18, u_M_enters_20, h1_156, gt_156_22, gt_156_23, h1_161, h2_161, gt_161, pt_161, h1_162, h2_162, gt_162, pt_162, ne_eq, not_false_eq_true, not_true_eq_false, true_and, and_true, true_or, or_true, eq_self, Option.toList_some, Option.toList_none, List.cons_append, List.nil_append, tc_0, tc_I, tc_L, tc_A, Nat.reduceAdd, Nat.reduceLeDiff, Nat.reduceEqDiff, Int.reduceEq, Int.reduceLT, Int.reduceLE, Int.reduceNeg, Int.reduceToNat, Int.cast_ofNat_Int, if_true, if_false, and_self, or_self, ite_self, bI_0, bI_1, bI_01, Bool.false_eq_true, reduceCtorEq, hz, hod2, show (0 : Int) ≤ m by omega, show (m : Int) < 10 by omega, Int.toNat_natCast]
      exact hQ13 (Or.inr c2)
    · have c2' : kOrd (tok t b 0) = false := by simpa using c2
      rw [c2'] at hod'
      have hod2 : g 162 m = 0 := hod'
      have e5 := hM.r5
      by_cases c3 : 12 ≤ f 151 5
      · have h59 : g 156 59 = 12 := by omega
        simp only [u_M_enters_0, u_M_enters_1, u_M_enters_4, u_M_enters_5, u_M_enters_6, u_M_enters_9, u_M_enters_10, u_M_enters_13, u_M_enters_14, u_M_enters_15, u_M_enters_18, u_M_enters_20, u_M_enters_21, u_M_enters_22, u_M_enters_25, u_M_enters_27, u_M_enters_30, u_M_enters_32, h1_156, gt_156_22, gt_156_23, gt_156_59, h1_161, h2_161, gt_161, pt_161, h1_162, h2_162, gt_162, pt_162, ne_eq, not_false_eq_true, not_true_eq_false, true_and, and_true, true_or, or_true, eq_self, Option.toList_some, Option.toList_none, List.cons_append, List.nil_append, tc_0, tc_I, tc_L, tc_A, Nat.reduceAdd, Nat.reduceLeDiff, Nat.reduceEqDiff, Int.reduceEq, Int.reduceLT, Int.reduceLE, Int.reduceNeg, Int.reduceToNat, Int.cast_ofNat_Int, if_true, if_false, and_self, or_self, ite_self, bI_0, bI_1, bI_01, Bool.false_eq_true, reduceCtorEq, hz, hod2, h59, show (0 : Int) ≤ m by omega, show (m : Int) < 10 by omega, Int.toNat_natCast]
        exact hQ11 (fun hh => hh.elim c1 c2) c3
      · obtain ⟨h, hh⟩ : ∃ h : Nat, f 151 5 = (h : Int) := ⟨_, (Int.toNat_of_nonneg (by omega)).symm⟩
        have h59 : g 156 59 = (h : Int) := by omega
        have n4 : (h : Int) < 12 := by rw [← hh]; exact Int.not_le.mp c3
        obtain ⟨wh, n1, n2, n3, hn12⟩ := ar_en n4 hm
        have hsz := hnn c1'
        obtain ⟨v5, v6, v7, v8, v9, vf⟩ := enC_v (f := f) (op := op) (fw := fw) (n := (m : Int)) (q := p) (sz := sz)
        have hh' : (f 151 5).toNat = h := by rw [hh]; exact Int.toNat_natCast h
        rw [hh'] at vf
        have fin : ∀ (pl wy : Int), pl = (if (if op = 206 then (1 : Int) else 0) = fw then 0 else sz) → wy = (if op = 206 then g 156 57 else - g 156 57) → Q (some (tI 0)) (WW F t (mset (mset (mset (mset (mset (mset g 182 h (g 156 55)) 183 h p) 156 59 (h + 1)) 156 55 m) 156 56 pl) 156 57 wy)) := by
          intro pl wy e1 e2
          refine hQ _ (fun hh => hh.elim c1 c2) c3 (FH_tr (FH_tr (FH_tr (FH_tr (FH_tr (FH_m3 (Or.inl rfl)) (FH_m3 (Or.inr rfl))) (FH_m ⟨by decide, by decide⟩)) (FH_m ⟨by decide, by decide⟩)) (FH_m ⟨by decide, by decide⟩)) (FH_m ⟨by decide, by decide⟩)) ⟨?_, ?_, ?_, ?_, ?_, ?_⟩
          · simp only [rd, Nat.reduceEqDiff, and_false, if_false, and_self, if_true]; exact v6.symm
          · simp only [rd, Nat.reduceEqDiff, and_false, if_false, and_self, if_true]; rw [v7]; exact e1
          · simp only [rd, and_self, if_true]
            rw [v8, e2, hM.r8]
            split
            · rfl
            · rw [Int.mul_neg]
          · simp only [rd, Nat.reduceEqDiff, and_false, false_and, if_false]; rw [v9]; exact hM.r9
          · simp only [rd, Nat.reduceEqDiff, and_false, if_false, and_self, if_true]; rw [v5, hh]
          · intro k hk
            rw [v5] at hk
            simp only [rd, Nat.reduceEqDiff, false_and, if_false, true_and]
            rw [(vf k).1, (vf k).2]
            by_cases hkh : k = h
            · rw [if_pos hkh, if_pos hkh, if_pos hkh, if_pos hkh]; exact ⟨hM.r6, rfl⟩
            · rw [if_neg hkh, if_neg hkh, if_neg hkh, if_neg hkh]; exact hM.fr k (ar_k hk hh hkh)
        rcases hfw with ⟨rfl, h57⟩ | ⟨rfl, h57⟩ <;> rcases hop with rfl | rfl <;>
          simp only [u_M_enters_0, u_M_enters_1, u_M_enters_4, u_M_enters_5, u_M_enters_6, u_M_enters_9, u_M_enters_10, u_M_enters_13, u_M_enters_14, u_M_enters_15, u_M_enters_18, u_M_enters_20, u_M_enters_21, u_M_enters_22, u_M_enters_25, u_M_enters_27, u_M_enters_30, u_M_enters_32, u_M_enters_33, u_M_enters_34, u_M_enters_37, u_M_enters_38, u_M_enters_41, u_M_enters_42, u_M_enters_45, u_M_enters_46, u_M_enters_47, u_M_enters_50, u_M_enters_51, u_M_enters_54, u_M_enters_55, u_M_enters_56, u_M_enters_57, u_M_enters_58, u_M_enters_61, u_M_enters_62, u_M_enters_63, u_M_enters_66, u_M_enters_67, u_M_enters_68, u_M_enters_71, u_M_enters_72, u_M_enters_73, u_M_enters_74, u_M_enters_77, u_M_enters_78, u_M_enters_81, u_M_enters_82, u_M_enters_85, u_M_enters_86, u_M_enters_89, u_M_enters_90, u_M_enters_93, u_M_enters_94, u_M_enters_97, u_M_enters_98, u_M_enters_99, u_M_enters_102, u_M_enters_103, u_M_enters_104, u_M_enters_107, u_M_enters_108, u_M_enters_109, u_M_enters_112, u_M_enters_113, u_M_enters_116, u_M_enters_117, u_M_enters_120, u_M_enters_123, u_M_enters_124, h1_156, gt_156_22, gt_156_23, gt_156_27, gt_156_55, pt_156_55, pt_156_56, gt_156_57, pt_156_57, gt_156_59, pt_156_59, gt_156_60, gt_156_61, h1_161, h2_161, gt_161, pt_161, h1_162, h2_162, gt_162, pt_162, h1_166, h2_166, gt_166, pt_166, h1_182, h2_182, gt_182, pt_182, h1_183, h2_183, gt_183, pt_183, ne_eq, not_false_eq_true, not_true_eq_false, true_and, and_true, true_or, or_true, eq_self, Option.toList_some, Option.toList_none, List.cons_append, List.nil_append, tc_0, tc_I, tc_L, tc_A, Nat.reduceAdd, Nat.reduceLeDiff, Nat.reduceEqDiff, Int.reduceEq, Int.reduceLT, Int.reduceLE, Int.reduceNeg, Int.reduceToNat, Int.cast_ofNat_Int, if_true, if_false, and_self, or_self, ite_self, bI_0, bI_1, bI_01, Bool.false_eq_true, reduceCtorEq, rd, Nat.reduceEqDiff, and_false, false_and, if_false, and_self, if_true, hz, hod2, h59, hn12, wh, h57, hsz, n1, n2, n3, n4, Int.toNat_natCast] <;>
          exact fin _ _ (by simp) (by rw [h57]; rfl)
end
