/-! Doing a step, the reference: doStep -/
section
variable {L d r len c q : Nat} {F f f' t g : Mem} {T : Int → Int} {Q : Option TV → Wd → Prop} {TH : Nat} {i j code x : Int}
theorem s_M_back {w : Wd} {s : Int} : VV L d m_M_back 0 [some (tI s)] [] w Q = Q (some (tI (if s = 0 then 1 else if s = 1 then 0 else if s = 4 then 5 else if s = 5 then 4 else s))) w := by
  simp only [u_M_back_0, u_M_back_1, u_M_back_4, u_M_back_5, u_M_back_8, u_M_back_9, u_M_back_10, u_M_back_13, u_M_back_14, u_M_back_17, u_M_back_18, u_M_back_19, u_M_back_22, u_M_back_23, u_M_back_26, u_M_back_27, u_M_back_28, u_M_back_31, u_M_back_32, u_M_back_35, u_M_back_36, h1_156, ne_eq, not_false_eq_true, not_true_eq_false, true_and, and_true, true_or, or_true, eq_self, Option.toList_some, Option.toList_none, List.cons_append, List.nil_append, tc_0, tc_I, tc_L, tc_A, Nat.reduceAdd, Nat.reduceLeDiff, Nat.reduceEqDiff, Int.reduceEq, Int.reduceLT, Int.reduceLE, Int.reduceNeg, Int.reduceToNat, Int.cast_ofNat_Int, if_true, if_false, and_self, or_self, ite_self, bI_0, bI_1, bI_01, Bool.false_eq_true, reduceCtorEq]
  (repeat' split) <;> first | rfl | omega
theorem s_M_opposite {w : Wd} {s : Int} (h0 : 0 ≤ s) (h1 : s ≤ 7) : VV L d m_M_opposite 0 [some (tI s)] [] w Q = Q (some (tI (s + 1 - 2 * (s % 2)))) w := by
  have : s = 0 ∨ s = 1 ∨ s = 2 ∨ s = 3 ∨ s = 4 ∨ s = 5 ∨ s = 6 ∨ s = 7 := by omega
  have hx : o32 (fun x y => x ^^^ y) s 1 = s + 1 - 2 * (s % 2) := by
    rcases this with rfl | rfl | rfl | rfl | rfl | rfl | rfl | rfl <;> decide
  simp only [u_M_opposite_0, u_M_opposite_1, u_M_opposite_3, u_M_opposite_6, u_M_opposite_7, u_M_opposite_8, u_M_opposite_9, u_M_opposite_12, u_M_opposite_13, h1_156, ne_eq, not_false_eq_true, not_true_eq_false, true_and, and_true, true_or, or_true, eq_self, Option.toList_some, Option.toList_none, List.cons_append, List.nil_append, tc_0, tc_I, tc_L, tc_A, Nat.reduceAdd, Nat.reduceLeDiff, Nat.reduceEqDiff, Int.reduceEq, Int.reduceLT, Int.reduceLE, Int.reduceNeg, Int.reduceToNat, Int.cast_ofNat_Int, if_true, if_false, and_self, or_self, ite_self, bI_0, bI_1, bI_01, Bool.false_eq_true, reduceCtorEq, show ¬ 7 < s by omega, hx]
theorem p_M_doStep {fw : Int} (hR : RT g r T len) (hRC : RC f) (hS : RSt f g TH) (hq : q < 40) (hfw : fw = 0 ∨ fw = 1) (s : SS c) (hw : wS false s) (hent : RO g r q ((opS1 s, 0, i, i + boS1 s, x, 0, 0), 0, 0)) (hno : ¬ (opS1 s = 206 ∨ opS1 s = 207)) (hi : 0 ≤ i) (hs : seg T i j (kS s)) (hSt : St1 f (if fw = 1 then opS1 s else undo (opS1 s)) s code f') (hQ : ∀ g' TH', FZ g g' → RSt f' g' TH' → Q (some (tI code)) (WW F t g')) : VV L (d + 3 * c + 10) m_M_doStep 0 [some (tA 156), some (tI r), some (tI (40 * (r : Int) + q)), some (tI fw), none] [] (WW F t g) Q := by
  have hr := hR.r10
  unfold RO at hent
  rw [if_pos rfl] at hent
  obtain ⟨e7, e8, e9⟩ := hent
  have e7 : g 167 (40 * r + q) = dzS (opS1 s) := e7
  have e8 : g 168 (40 * r + q) = if opS1 s < 200 then i else i + 1 := e8
  have e9 : g 169 (40 * r + q) = i + boS1 s := e9
  have i1 : 0 ≤ 40 * (r : Int) + q := by omega
  have i2 : 40 * (r : Int) + q < 400 := by omega
  have i7 : sn0 g 167 (40 * (r : Int) + q).toNat = dzS (opS1 s) := by
    rw [show (40 * (r : Int) + q).toNat = 40 * r + q by omega, FY_0 167 _ (by omega)]; exact e7
  have hS0 : RSt f (sn0 g) TH := RSt_fr hS FX_refl FY_0
  have hQ0 : ∀ g' TH', FZ (sn0 g) g' → RSt f' g' TH' → Q (some (tI code)) (WW F t g') := fun g' TH' h1 h2 => hQ g' TH' (FZ_tr (FZ_Y FY_0) h1) h2
  generalize hop : (if fw = 1 then opS1 s else undo (opS1 s)) = op at hSt
  have key : ∀ k : Int, opS1 s = k → 200 ≤ k → k ≤ 205 → VV L (d + 3 * c + 10) m_M_doStep 0 [some (tA 156), some (tI r), some (tI (40 * (r : Int) + q)), some (tI fw), none] [] (WW F t g) Q = VV L (d + 3 * c + 10) m_M_doStep 60 [some (tA 156), some (tI r), some (tI (40 * (r : Int) + q)), some (tI fw), some (tI (k - 200))] [tI (op - 200)] (WW F t (sn0 g)) Q := by
    intro k hk k1 k2
    have hd : dzS (opS1 s) = k - 200 := by rw [hk]; unfold dzS; rw [if_neg (by omega)]
    rw [hd] at i7
    rw [hk] at hop
    rcases hfw with rfl | rfl
    · have ho : op - 200 = k - 200 + 1 - 2 * ((k - 200) % 2) := by
        rw [← hop, if_neg (by omega), undo_i, if_pos (by omega)]; omega
      simp only [u_M_doStep_0, u_M_doStep_1, u_M_doStep_4, u_M_doStep_5, u_M_doStep_8, u_M_doStep_9, u_M_doStep_10, u_M_doStep_12, u_M_doStep_14, u_M_doStep_16, u_M_doStep_19, u_M_doStep_20, u_M_doStep_21, u_M_doStep_22, u_M_doStep_23, u_M_doStep_26, u_M_doStep_28, u_M_doStep_30, u_M_doStep_31, u_M_doStep_34, u_M_doStep_36, u_M_doStep_38, u_M_doStep_39, u_M_doStep_42, u_M_doStep_45, u_M_doStep_46, u_M_doStep_47, u_M_doStep_50, u_M_doStep_52, u_M_doStep_55, u_M_doStep_57, h1_156, gt_156_28, h1_167, h2_167, gt_167, pt_167, ne_eq, not_false_eq_true, not_true_eq_false, true_and, and_true, true_or, or_true, eq_self, Option.toList_some, Option.toList_none, List.cons_append, List.nil_append, tc_0, tc_I, tc_L, tc_A, Nat.reduceAdd, Nat.reduceLeDiff, Nat.reduceEqDiff, Int.reduceEq, Int.reduceLT, Int.reduceLE, Int.reduceNeg, Int.reduceToNat, Int.cast_ofNat_Int, if_true, if_false, and_self, or_self, ite_self, bI_0, bI_1, bI_01, Bool.false_eq_true, reduceCtorEq, s_M_seeNothing, i1, i2, i7, show k - 200 < 20 by omega, s_M_opposite (show 0 ≤ k - 200 by omega) (show k - 200 ≤ 7 by omega), ho]
    · have ho : op = k := by rw [← hop, if_pos rfl]
      simp only [u_M_doStep_0, u_M_doStep_1, u_M_doStep_4, u_M_doStep_5, u_M_doStep_8, u_M_doStep_9, u_M_doStep_10, u_M_doStep_12, u_M_doStep_14, u_M_doStep_16, u_M_doStep_19, u_M_doStep_20, u_M_doStep_21, u_M_doStep_22, u_M_doStep_23, u_M_doStep_26, u_M_doStep_28, u_M_doStep_30, u_M_doStep_31, u_M_doStep_34, u_M_doStep_36, u_M_doStep_38, u_M_doStep_39, u_M_doStep_42, u_M_doStep_45, u_M_doStep_46, u_M_doStep_47, u_M_doStep_50, u_M_doStep_52, u_M_doStep_55, u_M_doStep_57, h1_156, gt_156_28, h1_167, h2_167, gt_167, pt_167, ne_eq, not_false_eq_true, not_true_eq_false, true_and, and_true, true_or, or_true, eq_self, Option.toList_some, Option.toList_none, List.cons_append, List.nil_append, tc_0, tc_I, tc_L, tc_A, Nat.reduceAdd, Nat.reduceLeDiff, Nat.reduceEqDiff, Int.reduceEq, Int.reduceLT, Int.reduceLE, Int.reduceNeg, Int.reduceToNat, Int.cast_ofNat_Int, if_true, if_false, and_self, or_self, ite_self, bI_0, bI_1, bI_01, Bool.false_eq_true, reduceCtorEq, s_M_seeNothing, i1, i2, i7, show k - 200 < 20 by omega, ho, Int.reduceEq]
  match s, hw, hs, hno, hop, hSt, e7, e8, e9, i7, key with
  | .inl (k, n, e), hw, hs, hno, hop, hSt, e7, e8, e9, i7, key =>
    have hk : k = 200 ∨ k = 201 := by have := hw.1; simpa using this
    obtain ⟨r1, hs⟩ := seg_hd hs
    obtain ⟨r2, hs⟩ := seg_hd hs
    obtain ⟨r3, hs⟩ := seg_hd hs
    obtain ⟨r4, hs⟩ := seg_split hs
    obtain ⟨r5, _⟩ := seg_hd hs
    have hop2 : op = 200 ∨ op = 201 := by
      rw [← hop]; simp only [opS1]
      rcases hk with rfl | rfl <;> split <;> simp [undo]
    have e8' : g 168 (40 * r + q) = i + 1 := by rw [e8]; show (if k < 200 then i else i + 1) = i + 1; rw [if_neg (by omega)]
    have e9' : g 169 (40 * r + q) = i + 1 + 1 + 1 := by rw [e9]; show i + 3 = _; omega
    rw [key k rfl (by omega) (by omega)]
    have hK : ¬ kEnd (T (i + 1 + 1 + 1 - 1)) = true := by rw [show i + 1 + 1 + 1 - 1 = i + 1 + 1 by omega, r3]; decide
    rcases hop2 with ho | ho
    · subst ho
      simp only [u_M_doStep_60, u_M_doStep_96, u_M_doStep_97, u_M_doStep_98, u_M_doStep_99, h1_156, ne_eq, not_false_eq_true, not_true_eq_false, true_and, and_true, true_or, or_true, eq_self, Option.toList_some, Option.toList_none, List.cons_append, List.nil_append, tc_0, tc_I, tc_L, tc_A, Nat.reduceAdd, Nat.reduceLeDiff, Nat.reduceEqDiff, Int.reduceEq, Int.reduceLT, Int.reduceLE, Int.reduceNeg, Int.reduceToNat, Int.cast_ofNat_Int, if_true, if_false, and_self, or_self, ite_self, bI_0, bI_1, bI_01, Bool.false_eq_true, reduceCtorEq, Int.reduceSub]
      rw [show d + 3 * c + 9 = d + 2 + 3 * c + 7 by omega]
      refine p_M_doLet (d := d + 2) (k := (n - 97).toNat) (F := F) hR hS hq e8' e9' (by omega) r2 hw.2.1 rfl e hw.2.2 (by omega) hK r4 r5 (f' := f') (code := code) ?_ (fun g' TH' h1 h2 => ?_)
      · simp only [St1, if_true] at hSt; exact hSt
      · simp only [u_M_doStep_102, ne_eq, not_false_eq_true, not_true_eq_false, true_and, and_true, true_or, or_true, eq_self, Option.toList_some, Option.toList_none, List.cons_append, List.nil_append, tc_0, tc_I, tc_L, tc_A, Nat.reduceAdd, Nat.reduceLeDiff, Nat.reduceEqDiff, Int.reduceEq, Int.reduceLT, Int.reduceLE, Int.reduceNeg, Int.reduceToNat, Int.cast_ofNat_Int, if_true, if_false, and_self, or_self, ite_self, bI_0, bI_1, bI_01, Bool.false_eq_true, reduceCtorEq]; exact hQ g' TH' h1 h2
    · subst ho
      simp only [u_M_doStep_60, u_M_doStep_103, u_M_doStep_104, u_M_doStep_105, u_M_doStep_106, h1_156, ne_eq, not_false_eq_true, not_true_eq_false, true_and, and_true, true_or, or_true, eq_self, Option.toList_some, Option.toList_none, List.cons_append, List.nil_append, tc_0, tc_I, tc_L, tc_A, Nat.reduceAdd, Nat.reduceLeDiff, Nat.reduceEqDiff, Int.reduceEq, Int.reduceLT, Int.reduceLE, Int.reduceNeg, Int.reduceToNat, Int.cast_ofNat_Int, if_true, if_false, and_self, or_self, ite_self, bI_0, bI_1, bI_01, Bool.false_eq_true, reduceCtorEq, Int.reduceSub]
      rw [show d + 3 * c + 9 = d + 2 + 3 * c + 7 by omega]
      refine p_M_doUnlet (d := d + 2) (k := (n - 97).toNat) (F := F) hR hS hq e8' e9' (by omega) r2 hw.2.1 rfl e hw.2.2 (by omega) hK r4 r5 (f' := f') (code := code) ?_ (fun g' TH' h1 h2 => ?_)
      · simp only [St1, Int.reduceEq, if_false] at hSt; exact hSt
      · simp only [u_M_doStep_109, ne_eq, not_false_eq_true, not_true_eq_false, true_and, and_true, true_or, or_true, eq_self, Option.toList_some, Option.toList_none, List.cons_append, List.nil_append, tc_0, tc_I, tc_L, tc_A, Nat.reduceAdd, Nat.reduceLeDiff, Nat.reduceEqDiff, Int.reduceEq, Int.reduceLT, Int.reduceLE, Int.reduceNeg, Int.reduceToNat, Int.cast_ofNat_Int, if_true, if_false, and_self, or_self, ite_self, bI_0, bI_1, bI_01, Bool.false_eq_true, reduceCtorEq]; exact hQ g' TH' h1 h2
  | .inr (.inl (p, o, e)), hw, hs, hno, hop, hSt, e7, e8, e9, i7, key =>
    obtain ⟨r1, hs⟩ := seg_split hs
    obtain ⟨r2, hs⟩ := seg_hd hs
    obtain ⟨r3, hs⟩ := seg_split hs
    obtain ⟨r4, _⟩ := seg_hd hs
    have ho := hw.2.2.1
    have r1' := r1.1
    have e8' : sn0 g 168 (40 * r + q) = i := by rw [FY_0 168 _ (by omega), e8]; show (if o < 200 then i else i + 1) = i; rw [if_pos (by omega)]
    have e9' : sn0 g 169 (40 * r + q) = i + (kP p).length + 1 := by rw [FY_0 169 _ (by omega), e9]; show i + (((kP p).length + 1 : Nat) : Int) = _; omega
    have hd : dzS (opS1 (.inr (.inl (p, o, e)) : SS c)) = 20 + whc o := by show dzS o = _; unfold dzS; rw [if_pos (by omega)]
    rw [hd] at i7
    have hop' : (if fw = 1 then o else undo o) = op := hop
    have ho5 : o = 128 ∨ o = 129 ∨ o = 130 ∨ o = 131 ∨ o = 132 := by omega
    have hop5 : 128 ≤ op ∧ op ≤ 132 := by
      rw [← hop']
      rcases ho5 with rfl | rfl | rfl | rfl | rfl <;> split <;> simp [undo]
    have hww : 0 ≤ whc o ∧ whc o ≤ 5 := by rcases ho5 with rfl | rfl | rfl | rfl | rfl <;> decide
    have w20 : w32 (20 + whc o - 20) = whc o := by rw [w32_id (by omega) (by omega)]; omega
    have hsg : sgM op = if fw = 1 then whc o else (if whc o = 0 then 1 else if whc o = 1 then 0 else if whc o = 4 then 5 else if whc o = 5 then 4 else whc o) := by
      rw [← hop']
      rcases hfw with rfl | rfl
      · rcases ho5 with rfl | rfl | rfl | rfl | rfl <;> decide
      · rcases ho5 with rfl | rfl | rfl | rfl | rfl <;> decide
    have hK : ¬ kEnd (T (i + (kP p).length + 1 - 1)) = true := by
      rw [show i + ((kP p).length : Int) + 1 - 1 = i + (kP p).length by omega, r2]
      unfold kEnd; simp only [decide_eq_true_eq]; omega
    have hcall : VV L (d + 3 * c + 9) m_M_doChange 0 [some (tA 156), some (tI r), some (tI (40 * (r : Int) + q)), some (tI (sgM op)), none, none, none, none, none, none, none] [] (WW F t (sn0 g)) (fun r_1 w1 => VV L (d + 3 * c + 9 + 1) m_M_doStep 45 [some (tA 156), some (tI r), some (tI (40 * (r : Int) + q)), some (tI fw), some (tI (20 + whc o))] (r_1.toList ++ []) w1 Q) := by
      rw [show d + 3 * c + 9 = d + 1 + 3 * c + 8 by omega]
      refine p_M_doChange (d := d + 1) (RT_s0 hR) hS0 hq e8' e9' hi hop5 p hw.2.1 r1 e hw.2.2.2 (by omega) hK r3 r4 hSt (fun g' TH' h1 h2 => ?_)
      simp only [u_M_doStep_45, ne_eq, not_false_eq_true, not_true_eq_false, true_and, and_true, true_or, or_true, eq_self, Option.toList_some, Option.toList_none, List.cons_append, List.nil_append, tc_0, tc_I, tc_L, tc_A, Nat.reduceAdd, Nat.reduceLeDiff, Nat.reduceEqDiff, Int.reduceEq, Int.reduceLT, Int.reduceLE, Int.reduceNeg, Int.reduceToNat, Int.cast_ofNat_Int, if_true, if_false, and_self, or_self, ite_self, bI_0, bI_1, bI_01, Bool.false_eq_true, reduceCtorEq]; exact hQ0 g' TH' h1 h2
    rcases hfw with rfl | rfl
    · rw [if_neg (by omega)] at hsg
      simp only [u_M_doStep_0, u_M_doStep_1, u_M_doStep_4, u_M_doStep_5, u_M_doStep_8, u_M_doStep_9, u_M_doStep_10, u_M_doStep_12, u_M_doStep_14, u_M_doStep_16, u_M_doStep_19, u_M_doStep_20, u_M_doStep_21, u_M_doStep_22, u_M_doStep_23, u_M_doStep_26, u_M_doStep_28, u_M_doStep_30, u_M_doStep_31, u_M_doStep_34, u_M_doStep_36, u_M_doStep_38, u_M_doStep_39, u_M_doStep_42, h1_156, gt_156_28, h1_167, h2_167, gt_167, pt_167, ne_eq, not_false_eq_true, not_true_eq_false, true_and, and_true, true_or, or_true, eq_self, Option.toList_some, Option.toList_none, List.cons_append, List.nil_append, tc_0, tc_I, tc_L, tc_A, Nat.reduceAdd, Nat.reduceLeDiff, Nat.reduceEqDiff, Int.reduceEq, Int.reduceLT, Int.reduceLE, Int.reduceNeg, Int.reduceToNat, Int.cast_ofNat_Int, if_true, if_false, and_self, or_self, ite_self, bI_0, bI_1, bI_01, Bool.false_eq_true, reduceCtorEq, s_M_seeNothing, i1, i2, i7, show ¬ 20 + whc o < 20 by omega, w20, s_M_back, ← hsg]
      exact hcall
    · rw [if_pos rfl] at hsg
      rw [hsg] at hcall
      simp only [u_M_doStep_0, u_M_doStep_1, u_M_doStep_4, u_M_doStep_5, u_M_doStep_8, u_M_doStep_9, u_M_doStep_10, u_M_doStep_12, u_M_doStep_14, u_M_doStep_16, u_M_doStep_19, u_M_doStep_20, u_M_doStep_21, u_M_doStep_22, u_M_doStep_23, u_M_doStep_26, u_M_doStep_28, u_M_doStep_30, u_M_doStep_31, u_M_doStep_34, u_M_doStep_36, u_M_doStep_38, u_M_doStep_39, u_M_doStep_42, h1_156, gt_156_28, h1_167, h2_167, gt_167, pt_167, ne_eq, not_false_eq_true, not_true_eq_false, true_and, and_true, true_or, or_true, eq_self, Option.toList_some, Option.toList_none, List.cons_append, List.nil_append, tc_0, tc_I, tc_L, tc_A, Nat.reduceAdd, Nat.reduceLeDiff, Nat.reduceEqDiff, Int.reduceEq, Int.reduceLT, Int.reduceLE, Int.reduceNeg, Int.reduceToNat, Int.cast_ofNat_Int, if_true, if_false, and_self, or_self, ite_self, bI_0, bI_1, bI_01, Bool.false_eq_true, reduceCtorEq, s_M_seeNothing, i1, i2, i7, show ¬ 20 + whc o < 20 by omega, w20]
      exact hcall
  | .inr (.inr (.inl (p, p2))), hw, hs, hno, hop, hSt, e7, e8, e9, i7, key =>
    obtain ⟨r1, hs⟩ := seg_split hs
    obtain ⟨r2, hs⟩ := seg_hd hs
    obtain ⟨r3, hs⟩ := seg_split hs
    have r1' := r1.1
    have e8' : sn0 g 168 (40 * r + q) = i := by rw [FY_0 168 _ (by omega), e8]; rfl
    have e9' : sn0 g 169 (40 * r + q) = i + (kP p).length + 1 := by rw [FY_0 169 _ (by omega), e9]; show i + (((kP p).length + 1 : Nat) : Int) = _; omega
    have hd : dzS (opS1 (.inr (.inr (.inl (p, p2))) : SS c)) = 23 := by show dzS 133 = 23; decide
    rw [hd] at i7
    have w20 : w32 ((23 : Int) - 20) = 3 := by rw [w32_id (by omega) (by omega)]; omega
    have hcall : VV L (d + 3 * c + 9) m_M_doChange 0 [some (tA 156), some (tI r), some (tI (40 * (r : Int) + q)), some (tI 3), none, none, none, none, none, none, none] [] (WW F t (sn0 g)) (fun r_1 w1 => VV L (d + 3 * c + 9 + 1) m_M_doStep 45 [some (tA 156), some (tI r), some (tI (40 * (r : Int) + q)), some (tI fw), some (tI 23)] (r_1.toList ++ []) w1 Q) := by
      refine p_M_swap (d := d) (RT_s0 hR) hRC hS0 hq e8' e9' hi p p2 hw.2.1 hw.2.2 r1 (by omega) r3 hSt (fun g' TH' h1 h2 => ?_)
      simp only [u_M_doStep_45, ne_eq, not_false_eq_true, not_true_eq_false, true_and, and_true, true_or, or_true, eq_self, Option.toList_some, Option.toList_none, List.cons_append, List.nil_append, tc_0, tc_I, tc_L, tc_A, Nat.reduceAdd, Nat.reduceLeDiff, Nat.reduceEqDiff, Int.reduceEq, Int.reduceLT, Int.reduceLE, Int.reduceNeg, Int.reduceToNat, Int.cast_ofNat_Int, if_true, if_false, and_self, or_self, ite_self, bI_0, bI_1, bI_01, Bool.false_eq_true, reduceCtorEq]; exact hQ0 g' TH' h1 h2
    rcases hfw with rfl | rfl
    · simp only [u_M_doStep_0, u_M_doStep_1, u_M_doStep_4, u_M_doStep_5, u_M_doStep_8, u_M_doStep_9, u_M_doStep_10, u_M_doStep_12, u_M_doStep_14, u_M_doStep_16, u_M_doStep_19, u_M_doStep_20, u_M_doStep_21, u_M_doStep_22, u_M_doStep_23, u_M_doStep_26, u_M_doStep_28, u_M_doStep_30, u_M_doStep_31, u_M_doStep_34, u_M_doStep_36, u_M_doStep_38, u_M_doStep_39, u_M_doStep_42, h1_156, gt_156_28, h1_167, h2_167, gt_167, pt_167, ne_eq, not_false_eq_true, not_true_eq_false, true_and, and_true, true_or, or_true, eq_self, Option.toList_some, Option.toList_none, List.cons_append, List.nil_append, tc_0, tc_I, tc_L, tc_A, Nat.reduceAdd, Nat.reduceLeDiff, Nat.reduceEqDiff, Int.reduceEq, Int.reduceLT, Int.reduceLE, Int.reduceNeg, Int.reduceToNat, Int.cast_ofNat_Int, if_true, if_false, and_self, or_self, ite_self, bI_0, bI_1, bI_01, Bool.false_eq_true, reduceCtorEq, s_M_seeNothing, i1, i2, i7, w20, s_M_back]
      exact hcall
    · simp only [u_M_doStep_0, u_M_doStep_1, u_M_doStep_4, u_M_doStep_5, u_M_doStep_8, u_M_doStep_9, u_M_doStep_10, u_M_doStep_12, u_M_doStep_14, u_M_doStep_16, u_M_doStep_19, u_M_doStep_20, u_M_doStep_21, u_M_doStep_22, u_M_doStep_23, u_M_doStep_26, u_M_doStep_28, u_M_doStep_30, u_M_doStep_31, u_M_doStep_34, u_M_doStep_36, u_M_doStep_38, u_M_doStep_39, u_M_doStep_42, h1_156, gt_156_28, h1_167, h2_167, gt_167, pt_167, ne_eq, not_false_eq_true, not_true_eq_false, true_and, and_true, true_or, or_true, eq_self, Option.toList_some, Option.toList_none, List.cons_append, List.nil_append, tc_0, tc_I, tc_L, tc_A, Nat.reduceAdd, Nat.reduceLeDiff, Nat.reduceEqDiff, Int.reduceEq, Int.reduceLT, Int.reduceLE, Int.reduceNeg, Int.reduceToNat, Int.cast_ofNat_Int, if_true, if_false, and_self, or_self, ite_self, bI_0, bI_1, bI_01, Bool.false_eq_true, reduceCtorEq, s_M_seeNothing, i1, i2, i7, w20]
      exact hcall
  | .inr (.inr (.inr (.inl (k, n, z)))), hw, hs, hno, hop, hSt, e7, e8, e9, i7, key =>
    have hk := hw.2.1
    obtain ⟨r1, hs⟩ := seg_hd hs
    obtain ⟨r2, hs⟩ := seg_hd hs
    obtain ⟨r3, hs⟩ := seg_hd hs
    have hop2 : op = 202 ∨ op = 203 := by
      rw [← hop]; simp only [opS1]
      rcases hk with rfl | rfl <;> split <;> simp [undo]
    have e8' : g 168 (40 * r + q) = i + 1 := by rw [e8]; show (if k < 200 then i else i + 1) = i + 1; rw [if_neg (by omega)]
    rw [key k rfl (by omega) (by omega)]
    rcases hop2 with ho | ho
    · subst ho
      simp only [u_M_doStep_60, u_M_doStep_110, u_M_doStep_111, u_M_doStep_112, u_M_doStep_113, h1_156, ne_eq, not_false_eq_true, not_true_eq_false, true_and, and_true, true_or, or_true, eq_self, Option.toList_some, Option.toList_none, List.cons_append, List.nil_append, tc_0, tc_I, tc_L, tc_A, Nat.reduceAdd, Nat.reduceLeDiff, Nat.reduceEqDiff, Int.reduceEq, Int.reduceLT, Int.reduceLE, Int.reduceNeg, Int.reduceToNat, Int.cast_ofNat_Int, if_true, if_false, and_self, or_self, ite_self, bI_0, bI_1, bI_01, Bool.false_eq_true, reduceCtorEq, Int.reduceSub]
      refine p_M_doPush (F := F) (k := (n - 97).toNat) (s := (z - 83).toNat) hR hS hq e8' (by omega) r2 hw.2.2.1 rfl r3 hw.2.2.2 rfl (f' := f') (code := code) ?_ (fun g' TH' h1 h2 => ?_)
      · simp only [St1, if_true] at hSt; exact hSt
      · simp only [u_M_doStep_116, ne_eq, not_false_eq_true, not_true_eq_false, true_and, and_true, true_or, or_true, eq_self, Option.toList_some, Option.toList_none, List.cons_append, List.nil_append, tc_0, tc_I, tc_L, tc_A, Nat.reduceAdd, Nat.reduceLeDiff, Nat.reduceEqDiff, Int.reduceEq, Int.reduceLT, Int.reduceLE, Int.reduceNeg, Int.reduceToNat, Int.cast_ofNat_Int, if_true, if_false, and_self, or_self, ite_self, bI_0, bI_1, bI_01, Bool.false_eq_true, reduceCtorEq]; exact hQ g' TH' h1 h2
    · subst ho
      simp only [u_M_doStep_60, u_M_doStep_117, u_M_doStep_118, u_M_doStep_119, u_M_doStep_120, h1_156, ne_eq, not_false_eq_true, not_true_eq_false, true_and, and_true, true_or, or_true, eq_self, Option.toList_some, Option.toList_none, List.cons_append, List.nil_append, tc_0, tc_I, tc_L, tc_A, Nat.reduceAdd, Nat.reduceLeDiff, Nat.reduceEqDiff, Int.reduceEq, Int.reduceLT, Int.reduceLE, Int.reduceNeg, Int.reduceToNat, Int.cast_ofNat_Int, if_true, if_false, and_self, or_self, ite_self, bI_0, bI_1, bI_01, Bool.false_eq_true, reduceCtorEq, Int.reduceSub]
      refine p_M_doPop (F := F) (k := (n - 97).toNat) (s := (z - 83).toNat) hR hS hq e8' (by omega) r2 hw.2.2.1 rfl r3 hw.2.2.2 rfl (f' := f') (code := code) ?_ (fun g' TH' h1 h2 => ?_)
      · simp only [St1, Int.reduceEq, if_false] at hSt; exact hSt
      · simp only [u_M_doStep_123, ne_eq, not_false_eq_true, not_true_eq_false, true_and, and_true, true_or, or_true, eq_self, Option.toList_some, Option.toList_none, List.cons_append, List.nil_append, tc_0, tc_I, tc_L, tc_A, Nat.reduceAdd, Nat.reduceLeDiff, Nat.reduceEqDiff, Int.reduceEq, Int.reduceLT, Int.reduceLE, Int.reduceNeg, Int.reduceToNat, Int.cast_ofNat_Int, if_true, if_false, and_self, or_self, ite_self, bI_0, bI_1, bI_01, Bool.false_eq_true, reduceCtorEq]; exact hQ g' TH' h1 h2
  | .inr (.inr (.inr (.inr (.inl (k, n, z, e))))), hw, hs, hno, hop, hSt, e7, e8, e9, i7, key =>
    have hk := hw.2.1
    obtain ⟨r1, hs⟩ := seg_hd hs
    obtain ⟨r2, hs⟩ := seg_hd hs
    obtain ⟨r3, hs⟩ := seg_hd hs
    obtain ⟨r4, hs⟩ := seg_split hs
    obtain ⟨r5, _⟩ := seg_hd hs
    have hkz : 217 ≤ z ∧ z ≤ 221 := by have : kKind z = true := hw.2.2.2.1; unfold kKind at this; simpa using this
    have hop2 : op = 204 ∨ op = 205 := by
      rw [← hop]; simp only [opS1]
      rcases hk with rfl | rfl <;> split <;> simp [undo]
    have e8' : g 168 (40 * r + q) = i + 1 := by rw [e8]; show (if k < 200 then i else i + 1) = i + 1; rw [if_neg (by omega)]
    have e9' : g 169 (40 * r + q) = i + 1 + 1 + 1 := by rw [e9]; show i + 3 = _; omega
    rw [key k rfl (by omega) (by omega)]
    have hK : ¬ kEnd (T (i + 1 + 1 + 1 - 1)) = true := by
      rw [show i + 1 + 1 + 1 - 1 = i + 1 + 1 by omega, r3]
      unfold kEnd; simp only [decide_eq_true_eq]; omega
    rcases hop2 with ho | ho
    · subst ho
      simp only [u_M_doStep_60, u_M_doStep_124, u_M_doStep_125, u_M_doStep_126, u_M_doStep_127, h1_156, ne_eq, not_false_eq_true, not_true_eq_false, true_and, and_true, true_or, or_true, eq_self, Option.toList_some, Option.toList_none, List.cons_append, List.nil_append, tc_0, tc_I, tc_L, tc_A, Nat.reduceAdd, Nat.reduceLeDiff, Nat.reduceEqDiff, Int.reduceEq, Int.reduceLT, Int.reduceLE, Int.reduceNeg, Int.reduceToNat, Int.cast_ofNat_Int, if_true, if_false, and_self, or_self, ite_self, bI_0, bI_1, bI_01, Bool.false_eq_true, reduceCtorEq, Int.reduceSub]
      rw [show d + 3 * c + 9 = d + 2 + 3 * c + 7 by omega]
      refine p_M_doNew (d := d + 2) (k := (n - 65).toNat) (F := F) hR hS hq e8' e9' (by omega) r2 hw.2.2.1 rfl r3 hw.2.2.2.1 e hw.2.2.2.2 (by omega) hK r4 r5 (f' := f') (code := code) ?_ (fun g' TH' h1 h2 => ?_)
      · simp only [St1, if_true] at hSt; exact hSt
      · simp only [u_M_doStep_130, ne_eq, not_false_eq_true, not_true_eq_false, true_and, and_true, true_or, or_true, eq_self, Option.toList_some, Option.toList_none, List.cons_append, List.nil_append, tc_0, tc_I, tc_L, tc_A, Nat.reduceAdd, Nat.reduceLeDiff, Nat.reduceEqDiff, Int.reduceEq, Int.reduceLT, Int.reduceLE, Int.reduceNeg, Int.reduceToNat, Int.cast_ofNat_Int, if_true, if_false, and_self, or_self, ite_self, bI_0, bI_1, bI_01, Bool.false_eq_true, reduceCtorEq]; exact hQ g' TH' h1 h2
    · subst ho
      simp only [u_M_doStep_60, u_M_doStep_131, u_M_doStep_132, u_M_doStep_133, u_M_doStep_134, h1_156, ne_eq, not_false_eq_true, not_true_eq_false, true_and, and_true, true_or, or_true, eq_self, Option.toList_some, Option.toList_none, List.cons_append, List.nil_append, tc_0, tc_I, tc_L, tc_A, Nat.reduceAdd, Nat.reduceLeDiff, Nat.reduceEqDiff, Int.reduceEq, Int.reduceLT, Int.reduceLE, Int.reduceNeg, Int.reduceToNat, Int.cast_ofNat_Int, if_true, if_false, and_self, or_self, ite_self, bI_0, bI_1, bI_01, Bool.false_eq_true, reduceCtorEq, Int.reduceSub]
      rw [show d + 3 * c + 9 = d + 2 + 3 * c + 7 by omega]
      refine p_M_doEnd (d := d + 2) (k := (n - 65).toNat) (F := F) hR hS hq e8' e9' (by omega) r2 hw.2.2.1 rfl r3 hw.2.2.2.1 e hw.2.2.2.2 (by omega) hK r4 r5 (f' := f') (code := code) ?_ (fun g' TH' h1 h2 => ?_)
      · simp only [St1, Int.reduceEq, if_false] at hSt; exact hSt
      · simp only [u_M_doStep_137, ne_eq, not_false_eq_true, not_true_eq_false, true_and, and_true, true_or, or_true, eq_self, Option.toList_some, Option.toList_none, List.cons_append, List.nil_append, tc_0, tc_I, tc_L, tc_A, Nat.reduceAdd, Nat.reduceLeDiff, Nat.reduceEqDiff, Int.reduceEq, Int.reduceLT, Int.reduceLE, Int.reduceNeg, Int.reduceToNat, Int.cast_ofNat_Int, if_true, if_false, and_self, or_self, ite_self, bI_0, bI_1, bI_01, Bool.false_eq_true, reduceCtorEq]; exact hQ g' TH' h1 h2
  | .inr (.inr (.inr (.inr (.inr (k, n))))), hw, hs, hno, hop, hSt, e7, e8, e9, i7, key =>
    exact absurd (show opS1 (.inr (.inr (.inr (.inr (.inr (k, n))))) : SS c) = 206 ∨ opS1 (.inr (.inr (.inr (.inr (.inr (k, n))))) : SS c) = 207 from hw.2.1) hno
end
