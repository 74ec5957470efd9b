/-! The reference's reader: what stands in simple steps -/
def MR (y : Int → Int) (n : Int) (len : Nat) (k : Int) (op : Int) (N R : Nat) (g : Mem) : Prop :=
  okG g ∧ ym g = y ∧ g 156 1 = n ∧ 0 ≤ g 156 4 ∧ g 156 4 ≤ n ∧ sk y (g 156 4) = sk y (eN y k.toNat) ∧ g 156 11 = k ∧ 0 ≤ k ∧ k ≤ len ∧ (∀ q : Nat, (q : Int) < k → g 159 q = eS (Tk y len) q ∧ g 160 q = whc (Tk y len q)) ∧ g 156 16 = op ∧ g 156 14 = N ∧ g 156 15 = R ∧ N < 67108864 ∧ R < 67108864
/-- E's frame, and wasSwap -/
def FC (g0 g : Mem) : Prop := ∀ c j, ¬ (scE c j ∨ (c = 156 ∧ j = 21)) → g c j = g0 c j
theorem FC_of {g0 g : Mem} (h : FE g0 g) : FC g0 g := fun c j hh => h c j (fun q => hh (Or.inl q))
theorem FC_tr {g0 g g' : Mem} (h : FC g0 g) (h' : FC g g') : FC g0 g' := fun c j hh => (h' c j hh).trans (h c j hh)
theorem FE_tr {g0 g g' : Mem} (h : FE g0 g) (h' : FE g g') : FE g0 g' := fun c j hh => (h' c j hh).trans (h c j hh)
/-- a failure, in a frame -/
def EQ_ (y : Int → Int) (f t : Mem) (Fr : Mem → Prop) (Q : Option TV → Wd → Prop) (w i : Int) : Prop := ∀ g', Fr g' → g' 156 12 = w → g' 156 13 = sk y (eN y i.toNat) → Q (some (tI 0)) (WW f t g')
section
variable {L d c : Nat} {f t g g0 : Mem} {Q : Option TV → Wd → Prop} {y : Int → Int} {n k op : Int} {len N R : Nat}
theorem ME_mk (h : MR y n len k op N R g) : ME y n len g k op N R g := ⟨FE_refl, h⟩
theorem ME_R0 (h : ME y n len g0 k op N R g) : MR y n len k op N R g := h.2
theorem p_E8 (hL : Lexd y n len) (hn6 : n ≤ 600) (hc : c = 8) (h : ME y n len g0 k 0 N R g) (hK : ¬ kEnd (Tk y len (k - 1)) = true) (hQ : RM y n len g0 f t 0 Q k N R (pX c (Tk y len) k)) : VV L (d + 50) m_M_readE 0 [some (tA 156), none] [] (WW f t g) Q := by
  refine p_M_readE (d := d + 45) hL hn6 (fun g k N R Q h hK hR => p_M_readT (d := d + 44) hL hn6 (fun g k N R Q h hK hR => p_M_readF hL hn6 c (by omega) (d + 44 + 4) (by omega) 0 (by omega) g k N R Q h hK hR) h hK hR) h hK hQ
theorem p_readP (hL : Lexd y n len) (hn6 : n ≤ 600) (hc : c = 8) (h : ME y n len g0 k 0 N R g) (hQ : match pP c (Tk y len) k with
    | .ok (_, j) => ∀ g' N' R', ME y n len g0 j 0 N' R' g' → k < j → (kName (Tk y len k) = true → j = k + 1) → Q (some (tI 1)) (WW f t g')
    | .error (w, i, _) => EQ_ y f t (FE g0) Q w i) : VV L (d + 51) m_M_readP 0 [some (tA 156)] [] (WW f t g) Q := by
  simp only [u_M_readP_0, u_M_readP_1, ne_eq, not_false_eq_true, not_true_eq_false, true_and, and_true, true_or, or_true, eq_self, Option.toList_some, Option.toList_none, List.cons_append, List.nil_append, tc_0, tc_I, tc_L, tc_A, Nat.reduceAdd, Nat.reduceLeDiff, Nat.reduceEqDiff, Int.reduceEq, Int.reduceLT, Int.reduceLE, Int.reduceNeg, Int.reduceToNat, Int.cast_ofNat_Int, if_true, if_false, and_self, or_self, ite_self, bI_0, bI_1, bI_01, Bool.false_eq_true, reduceCtorEq, h1_156]
  refine m_look hL h (fun g1 h1 hl => ?_)
  unfold pP at hQ
  by_cases hr : kRow (Tk y len k) = true
  · have hnn : ¬ kName (Tk y len k) = true := by unfold kRow at hr; unfold kName; simp at hr ⊢; omega
    rw [if_pos hr] at hQ
    simp only [u_M_readP_4, u_M_readP_5, u_M_readP_8, u_M_readP_9, u_M_readP_12, u_M_readP_13, u_M_readP_16, u_M_readP_17, u_M_readP_18, u_M_readP_19, u_M_readP_20, ne_eq, not_false_eq_true, not_true_eq_false, true_and, and_true, true_or, or_true, eq_self, Option.toList_some, Option.toList_none, List.cons_append, List.nil_append, tc_0, tc_I, tc_L, tc_A, Nat.reduceAdd, Nat.reduceLeDiff, Nat.reduceEqDiff, Int.reduceEq, Int.reduceLT, Int.reduceLE, Int.reduceNeg, Int.reduceToNat, Int.cast_ofNat_Int, if_true, if_false, and_self, or_self, ite_self, bI_0, bI_1, bI_01, Bool.false_eq_true, reduceCtorEq, h1_156, gt_156_6, hl.2.1, (srt_r hr).1]
    refine p_wantsS (d := d + 46) hL hn6 h1 (by omega) (fun _ g2 h2 => ?_) (fun hh => absurd (srt_r hr).1 hh)
    simp only [u_M_readP_23, u_M_readP_26, u_M_readP_27, u_M_readP_29, u_M_readP_31, ne_eq, not_false_eq_true, not_true_eq_false, true_and, and_true, true_or, or_true, eq_self, Option.toList_some, Option.toList_none, List.cons_append, List.nil_append, tc_0, tc_I, tc_L, tc_A, Nat.reduceAdd, Nat.reduceLeDiff, Nat.reduceEqDiff, Int.reduceEq, Int.reduceLT, Int.reduceLE, Int.reduceNeg, Int.reduceToNat, Int.cast_ofNat_Int, if_true, if_false, and_self, or_self, ite_self, bI_0, bI_1, bI_01, Bool.false_eq_true, reduceCtorEq, h1_156]
    refine p_wants (d := d + 45) hL hn6 h2 (by decide) (by decide) (fun e g3 h3 => ?_) (fun e g3 a b c => ?_)
    · rw [if_pos e] at hQ
      rw [show k + 1 + 1 = k + 2 by omega] at h3
      simp only [u_M_readP_34, u_M_readP_37, u_M_readP_38, u_M_readP_39, u_M_readP_40, ne_eq, not_false_eq_true, not_true_eq_false, true_and, and_true, true_or, or_true, eq_self, Option.toList_some, Option.toList_none, List.cons_append, List.nil_append, tc_0, tc_I, tc_L, tc_A, Nat.reduceAdd, Nat.reduceLeDiff, Nat.reduceEqDiff, Int.reduceEq, Int.reduceLT, Int.reduceLE, Int.reduceNeg, Int.reduceToNat, Int.cast_ofNat_Int, if_true, if_false, and_self, or_self, ite_self, bI_0, bI_1, bI_01, Bool.false_eq_true, reduceCtorEq, h1_156]
      refine p_E8 hL hn6 hc h3 (by rw [show k + 2 - 1 = k + 1 by omega, e]; decide) ?_
      cases hp : pX c (Tk y len) (k + 2) with
      | error e =>
        obtain ⟨w, i, z⟩ := e
        rw [hp] at hQ
        intro g4 a b c
        simp only [u_M_readP_43, u_M_readP_46, u_M_readP_47, u_M_readP_49, u_M_readP_51, u_M_readP_54, u_M_readP_57, u_M_readP_58, u_M_readP_61, u_M_readP_62, ne_eq, not_false_eq_true, not_true_eq_false, true_and, and_true, true_or, or_true, eq_self, Option.toList_some, Option.toList_none, List.cons_append, List.nil_append, tc_0, tc_I, tc_L, tc_A, Nat.reduceAdd, Nat.reduceLeDiff, Nat.reduceEqDiff, Int.reduceEq, Int.reduceLT, Int.reduceLE, Int.reduceNeg, Int.reduceToNat, Int.cast_ofNat_Int, if_true, if_false, and_self, or_self, ite_self, bI_0, bI_1, bI_01, Bool.false_eq_true, reduceCtorEq]
        exact hQ g4 a b c
      | ok z =>
        obtain ⟨x, j⟩ := z
        rw [hp] at hQ
        dsimp only at hQ
        intro g4 N4 R4 h4 hN4 hK4 hlt4
        simp only [u_M_readP_43, u_M_readP_46, u_M_readP_47, u_M_readP_49, u_M_readP_51, ne_eq, not_false_eq_true, not_true_eq_false, true_and, and_true, true_or, or_true, eq_self, Option.toList_some, Option.toList_none, List.cons_append, List.nil_append, tc_0, tc_I, tc_L, tc_A, Nat.reduceAdd, Nat.reduceLeDiff, Nat.reduceEqDiff, Int.reduceEq, Int.reduceLT, Int.reduceLE, Int.reduceNeg, Int.reduceToNat, Int.cast_ofNat_Int, if_true, if_false, and_self, or_self, ite_self, bI_0, bI_1, bI_01, Bool.false_eq_true, reduceCtorEq, h1_156]
        refine p_wants (d := d + 45) hL hn6 h4 (by decide) (by decide) (fun e g5 h5 => ?_) (fun e g5 a b c => ?_)
        · rw [if_pos e] at hQ
          simp only [u_M_readP_54, u_M_readP_57, u_M_readP_58, u_M_readP_61, u_M_readP_62, ne_eq, not_false_eq_true, not_true_eq_false, true_and, and_true, true_or, or_true, eq_self, Option.toList_some, Option.toList_none, List.cons_append, List.nil_append, tc_0, tc_I, tc_L, tc_A, Nat.reduceAdd, Nat.reduceLeDiff, Nat.reduceEqDiff, Int.reduceEq, Int.reduceLT, Int.reduceLE, Int.reduceNeg, Int.reduceToNat, Int.cast_ofNat_Int, if_true, if_false, and_self, or_self, ite_self, bI_0, bI_1, bI_01, Bool.false_eq_true, reduceCtorEq]
          exact hQ g5 N4 R4 h5 (by omega) (fun hh => absurd hh hnn)
        · rw [if_neg e] at hQ
          simp only [u_M_readP_54, u_M_readP_57, u_M_readP_58, u_M_readP_61, u_M_readP_62, ne_eq, not_false_eq_true, not_true_eq_false, true_and, and_true, true_or, or_true, eq_self, Option.toList_some, Option.toList_none, List.cons_append, List.nil_append, tc_0, tc_I, tc_L, tc_A, Nat.reduceAdd, Nat.reduceLeDiff, Nat.reduceEqDiff, Int.reduceEq, Int.reduceLT, Int.reduceLE, Int.reduceNeg, Int.reduceToNat, Int.cast_ofNat_Int, if_true, if_false, and_self, or_self, ite_self, bI_0, bI_1, bI_01, Bool.false_eq_true, reduceCtorEq]
          exact hQ g5 a b c
    · rw [if_neg e] at hQ
      simp only [u_M_readP_34, u_M_readP_37, u_M_readP_38, ne_eq, not_false_eq_true, not_true_eq_false, true_and, and_true, true_or, or_true, eq_self, Option.toList_some, Option.toList_none, List.cons_append, List.nil_append, tc_0, tc_I, tc_L, tc_A, Nat.reduceAdd, Nat.reduceLeDiff, Nat.reduceEqDiff, Int.reduceEq, Int.reduceLT, Int.reduceLE, Int.reduceNeg, Int.reduceToNat, Int.cast_ofNat_Int, if_true, if_false, and_self, or_self, ite_self, bI_0, bI_1, bI_01, Bool.false_eq_true, reduceCtorEq]
      exact hQ g3 a b c
  · rw [if_neg hr] at hQ
    by_cases hn : kName (Tk y len k) = true
    · rw [if_pos hn] at hQ
      simp only [u_M_readP_4, u_M_readP_5, u_M_readP_8, u_M_readP_9, u_M_readP_12, u_M_readP_13, ne_eq, not_false_eq_true, not_true_eq_false, true_and, and_true, true_or, or_true, eq_self, Option.toList_some, Option.toList_none, List.cons_append, List.nil_append, tc_0, tc_I, tc_L, tc_A, Nat.reduceAdd, Nat.reduceLeDiff, Nat.reduceEqDiff, Int.reduceEq, Int.reduceLT, Int.reduceLE, Int.reduceNeg, Int.reduceToNat, Int.cast_ofNat_Int, if_true, if_false, and_self, or_self, ite_self, bI_0, bI_1, bI_01, Bool.false_eq_true, reduceCtorEq, h1_156, gt_156_6, hl.2.1, (srt_a hn).1]
      refine p_take hL hn6 h1 hl (kName_ne hn) (by unfold kName at hn; simp at hn; omega) (fun g2 h2 => ?_)
      simp only [u_M_readP_16, u_M_readP_17, ne_eq, not_false_eq_true, not_true_eq_false, true_and, and_true, true_or, or_true, eq_self, Option.toList_some, Option.toList_none, List.cons_append, List.nil_append, tc_0, tc_I, tc_L, tc_A, Nat.reduceAdd, Nat.reduceLeDiff, Nat.reduceEqDiff, Int.reduceEq, Int.reduceLT, Int.reduceLE, Int.reduceNeg, Int.reduceToNat, Int.cast_ofNat_Int, if_true, if_false, and_self, or_self, ite_self, bI_0, bI_1, bI_01, Bool.false_eq_true, reduceCtorEq]
      exact hQ g2 N R h2 (by omega) (fun _ => rfl)
    · rw [if_neg hn] at hQ
      have s1 : ¬ srt (Tk y len k) = 1 := fun hh => hn (srt_iff.1.mp hh)
      have s3 : ¬ srt (Tk y len k) = 3 := fun hh => hr (srt_iff.2.2.1.mp hh)
      simp only [u_M_readP_4, u_M_readP_5, u_M_readP_8, u_M_readP_9, u_M_readP_12, u_M_readP_13, u_M_readP_16, u_M_readP_17, u_M_readP_18, u_M_readP_19, u_M_readP_20, ne_eq, not_false_eq_true, not_true_eq_false, true_and, and_true, true_or, or_true, eq_self, Option.toList_some, Option.toList_none, List.cons_append, List.nil_append, tc_0, tc_I, tc_L, tc_A, Nat.reduceAdd, Nat.reduceLeDiff, Nat.reduceEqDiff, Int.reduceEq, Int.reduceLT, Int.reduceLE, Int.reduceNeg, Int.reduceToNat, Int.cast_ofNat_Int, if_true, if_false, and_self, or_self, ite_self, bI_0, bI_1, bI_01, Bool.false_eq_true, reduceCtorEq, h1_156, gt_156_6, hl.2.1, s1]
      refine p_wantsS (d := d + 46) hL hn6 h1 (by omega) (fun hh => absurd hh s3) (fun _ g2 a b c => ?_)
      simp only [u_M_readP_23, u_M_readP_26, u_M_readP_27, u_M_readP_29, u_M_readP_31, u_M_readP_34, u_M_readP_37, u_M_readP_38, ne_eq, not_false_eq_true, not_true_eq_false, true_and, and_true, true_or, or_true, eq_self, Option.toList_some, Option.toList_none, List.cons_append, List.nil_append, tc_0, tc_I, tc_L, tc_A, Nat.reduceAdd, Nat.reduceLeDiff, Nat.reduceEqDiff, Int.reduceEq, Int.reduceLT, Int.reduceLE, Int.reduceNeg, Int.reduceToNat, Int.cast_ofNat_Int, if_true, if_false, and_self, or_self, ite_self, bI_0, bI_1, bI_01, Bool.false_eq_true, reduceCtorEq]
      exact hQ g2 a b c
theorem srt_pair {x : Int} : (srt x = 6 ↔ kPair x = true) ∧ (kPair x = true → (whc x = 3 ↔ x = 133)) := by
  constructor
  · unfold srt kPair
    constructor
    · intro h; (repeat' split at h) <;> first | omega | (simp; omega)
    · intro h; simp at h
      rw [if_neg (by omega), if_neg (by unfold kName; simp; omega), if_neg (by unfold kRow; simp; omega), if_neg (by unfold kStk; simp; omega), if_neg (by omega), if_pos (by omega)]
  · intro h
    unfold kPair at h; simp at h
    have : x = 128 ∨ x = 129 ∨ x = 130 ∨ x = 131 ∨ x = 132 ∨ x = 133 := by omega
    rcases this with rfl | rfl | rfl | rfl | rfl | rfl <;> decide
theorem MR_sw {v : Int} (h : MR y n len k op N R g) : MR y n len k op N R (mset g 156 21 v) := by
  obtain ⟨hg, hy, hn, h0, h1, hs, hm, hk0, hk, hE, hop, hN, hR, hN2, hR2⟩ := h
  refine ⟨⟨hg.1, hg.2.1, fun i hi => ?_⟩, ?_, hn, h0, h1, hs, hm, hk0, hk, fun q hq => ?_, hop, hN, hR, hN2, hR2⟩
  · have := hg.2.2 i hi; simp only [rd, Nat.reduceEqDiff, false_and, if_false]; exact this
  · rw [← hy]; funext i; unfold ym; simp only [rd, Nat.reduceEqDiff, false_and, and_false, if_false]
  · have := hE q hq; simp only [rd, Nat.reduceEqDiff, false_and, if_false]; exact this
theorem FC_sw {v : Int} : FC g (mset g 156 21 v) := by
  intro c j hh; simp only [rd]; rw [if_neg (fun q => hh (Or.inr q))]
set_option maxHeartbeats 2000000 in
theorem p_readChange (hL : Lexd y n len) (hn6 : n ≤ 600) (hc : c = 8) (h : MR y n len k 0 N R g) (hQ : match pChg c (Tk y len) k with
    | .ok (_, j) => ∀ g' N' R', MR y n len j 0 N' R' g' → FC g g' → k < j → (kName (Tk y len k) = true → g' 156 21 = bB (decide (Tk y len (k + 1) = 133)) ∧ (¬ Tk y len (k + 1) = 133 → ∀ x, x < 26 → N'.testBit x = hasTk (Tk y len) (97 + x) (j - (k + 2)).toNat (k + 2))) → Q (some (tI 1)) (WW f t g')
    | .error (w, i, _) => EQ_ y f t (FC g) Q w i) : VV L (d + 52) m_M_readChange 0 [some (tA 156)] [] (WW f t g) Q := by
  simp only [u_M_readChange_0, u_M_readChange_1, u_M_readChange_2, u_M_readChange_5, u_M_readChange_6, ne_eq, not_false_eq_true, not_true_eq_false, true_and, and_true, true_or, or_true, eq_self, Option.toList_some, Option.toList_none, List.cons_append, List.nil_append, tc_0, tc_I, tc_L, tc_A, Nat.reduceAdd, Nat.reduceLeDiff, Nat.reduceEqDiff, Int.reduceEq, Int.reduceLT, Int.reduceLE, Int.reduceNeg, Int.reduceToNat, Int.cast_ofNat_Int, if_true, if_false, and_self, or_self, ite_self, bI_0, bI_1, bI_01, Bool.false_eq_true, reduceCtorEq, h1_156, pt_156_21]
  unfold pChg at hQ
  refine p_readP hL hn6 hc (ME_mk (MR_sw h)) ?_
  cases hp : pP c (Tk y len) k with
  | error e =>
    obtain ⟨w, i, z⟩ := e
    rw [hp] at hQ
    intro g2 a b c
    simp only [u_M_readChange_9, u_M_readChange_12, u_M_readChange_13, ne_eq, not_false_eq_true, not_true_eq_false, true_and, and_true, true_or, or_true, eq_self, Option.toList_some, Option.toList_none, List.cons_append, List.nil_append, tc_0, tc_I, tc_L, tc_A, Nat.reduceAdd, Nat.reduceLeDiff, Nat.reduceEqDiff, Int.reduceEq, Int.reduceLT, Int.reduceLE, Int.reduceNeg, Int.reduceToNat, Int.cast_ofNat_Int, if_true, if_false, and_self, or_self, ite_self, bI_0, bI_1, bI_01, Bool.false_eq_true, reduceCtorEq]
    exact hQ g2 (FC_tr FC_sw (FC_of a)) b c
  | ok z =>
    obtain ⟨p, j⟩ := z
    rw [hp] at hQ
    dsimp only at hQ
    intro g2 N2 R2 h2 hlt2 hnm2
    simp only [u_M_readChange_9, u_M_readChange_12, u_M_readChange_13, u_M_readChange_14, u_M_readChange_15, ne_eq, not_false_eq_true, not_true_eq_false, true_and, and_true, true_or, or_true, eq_self, Option.toList_some, Option.toList_none, List.cons_append, List.nil_append, tc_0, tc_I, tc_L, tc_A, Nat.reduceAdd, Nat.reduceLeDiff, Nat.reduceEqDiff, Int.reduceEq, Int.reduceLT, Int.reduceLE, Int.reduceNeg, Int.reduceToNat, Int.cast_ofNat_Int, if_true, if_false, and_self, or_self, ite_self, bI_0, bI_1, bI_01, Bool.false_eq_true, reduceCtorEq, h1_156]
    refine m_look hL h2 (fun g3 h3 hl3 => ?_)
    have hpr := srt_pair (x := Tk y len j)
    by_cases hk : kPair (Tk y len j) = true
    · rw [if_pos hk] at hQ
      have s6 := hpr.1.mpr hk
      have h45 : ¬ Tk y len j = 45 := by unfold kPair at hk; simp at hk; omega
      have hEnd : ¬ kEnd (Tk y len j) = true := by unfold kPair at hk; unfold kEnd; simp at hk ⊢; omega
      have hF3 : FC g g3 := FC_tr FC_sw (FC_of h3.1)
      have key : ∀ v : Int, v = bB (decide (Tk y len j = 133)) → VV L (d + 52) m_M_readChange 54 [some (tA 156)] [] (WW f t (mset g3 156 21 v)) Q := by
        intro v hv
        simp only [u_M_readChange_54, u_M_readChange_55, ne_eq, not_false_eq_true, not_true_eq_false, true_and, and_true, true_or, or_true, eq_self, Option.toList_some, Option.toList_none, List.cons_append, List.nil_append, tc_0, tc_I, tc_L, tc_A, Nat.reduceAdd, Nat.reduceLeDiff, Nat.reduceEqDiff, Int.reduceEq, Int.reduceLT, Int.reduceLE, Int.reduceNeg, Int.reduceToNat, Int.cast_ofNat_Int, if_true, if_false, and_self, or_self, ite_self, bI_0, bI_1, bI_01, Bool.false_eq_true, reduceCtorEq, h1_156]
        have hm3 : ME y n len (mset g3 156 21 v) j 0 N2 R2 (mset g3 156 21 v) := ME_mk (MR_sw h3.2)
        refine p_take hL hn6 hm3 (LKs_m hl3 (by omega)) (kPair_ne hk) h45 (fun g4 h4 => ?_)
        have e21 : g4 156 21 = v := by rw [h4.1 156 21 (by unfold scE; omega)]; simp [rd]
        have h5 : ME y n len (mset g3 156 21 v) (j + 1) 0 0 R2 (mset g4 156 14 ((0 : Nat) : Int)) := ME_N h4 (by omega)
        have e21' : (mset g4 156 14 ((0 : Nat) : Int)) 156 21 = v := by simp only [rd, Nat.reduceEqDiff, and_false, if_false]; exact e21
        have hF4 : ∀ g', FE (mset g3 156 21 v) g' → FC g g' := fun g' hh => FC_tr (FC_tr hF3 FC_sw) (FC_of hh)
        rw [show ((0 : Nat) : Int) = 0 from rfl] at h5 e21'
        simp only [u_M_readChange_58, u_M_readChange_59, u_M_readChange_60, u_M_readChange_63, u_M_readChange_64, u_M_readChange_67, ne_eq, not_false_eq_true, not_true_eq_false, true_and, and_true, true_or, or_true, eq_self, Option.toList_some, Option.toList_none, List.cons_append, List.nil_append, tc_0, tc_I, tc_L, tc_A, Nat.reduceAdd, Nat.reduceLeDiff, Nat.reduceEqDiff, Int.reduceEq, Int.reduceLT, Int.reduceLE, Int.reduceNeg, Int.reduceToNat, Int.cast_ofNat_Int, if_true, if_false, and_self, or_self, ite_self, bI_0, bI_1, bI_01, Bool.false_eq_true, reduceCtorEq, h1_156, pt_156_14, gt_156_21, e21']
        by_cases h133 : Tk y len j = 133
        · rw [if_pos h133] at hQ
          have hv1 : ¬ v = 0 := by rw [hv, decide_eq_true h133]; decide
          simp only [hv1, u_M_readChange_70, u_M_readChange_71, ne_eq, not_false_eq_true, not_true_eq_false, true_and, and_true, true_or, or_true, eq_self, Option.toList_some, Option.toList_none, List.cons_append, List.nil_append, tc_0, tc_I, tc_L, tc_A, Nat.reduceAdd, Nat.reduceLeDiff, Nat.reduceEqDiff, Int.reduceEq, Int.reduceLT, Int.reduceLE, Int.reduceNeg, Int.reduceToNat, Int.cast_ofNat_Int, if_true, if_false, and_self, or_self, ite_self, bI_0, bI_1, bI_01, Bool.false_eq_true, reduceCtorEq, h1_156]
          refine p_readP hL hn6 hc h5 ?_
          cases hp2 : pP c (Tk y len) (j + 1) with
          | error e =>
            obtain ⟨w, i, z⟩ := e
            rw [hp2] at hQ
            intro g6 a b c
            simp only [u_M_readChange_74, u_M_readChange_77, u_M_readChange_78, u_M_readChange_81, ne_eq, not_false_eq_true, not_true_eq_false, true_and, and_true, true_or, or_true, eq_self, Option.toList_some, Option.toList_none, List.cons_append, List.nil_append, tc_0, tc_I, tc_L, tc_A, Nat.reduceAdd, Nat.reduceLeDiff, Nat.reduceEqDiff, Int.reduceEq, Int.reduceLT, Int.reduceLE, Int.reduceNeg, Int.reduceToNat, Int.cast_ofNat_Int, if_true, if_false, and_self, or_self, ite_self, bI_0, bI_1, bI_01, Bool.false_eq_true, reduceCtorEq]
            exact hQ g6 (hF4 g6 a) b c
          | ok z =>
            obtain ⟨q, l⟩ := z
            rw [hp2] at hQ
            intro g6 N6 R6 h6 hlt6 _
            simp only [u_M_readChange_74, u_M_readChange_77, u_M_readChange_78, u_M_readChange_81, ne_eq, not_false_eq_true, not_true_eq_false, true_and, and_true, true_or, or_true, eq_self, Option.toList_some, Option.toList_none, List.cons_append, List.nil_append, tc_0, tc_I, tc_L, tc_A, Nat.reduceAdd, Nat.reduceLeDiff, Nat.reduceEqDiff, Int.reduceEq, Int.reduceLT, Int.reduceLE, Int.reduceNeg, Int.reduceToNat, Int.cast_ofNat_Int, if_true, if_false, and_self, or_self, ite_self, bI_0, bI_1, bI_01, Bool.false_eq_true, reduceCtorEq]
            refine hQ g6 N6 R6 h6.2 (hF4 g6 h6.1) (by omega) (fun hn => ?_)
            have hj := hnm2 hn
            have e6 : g6 156 21 = v := by rw [h6.1 156 21 (by unfold scE; omega)]; simp [rd]
            rw [← hj]
            exact ⟨e6.trans hv, fun hh => absurd h133 hh⟩
        · rw [if_neg h133] at hQ
          have hv0 : v = 0 := by rw [hv, decide_eq_false h133]; rfl
          simp only [hv0, u_M_readChange_77, u_M_readChange_78, ne_eq, not_false_eq_true, not_true_eq_false, true_and, and_true, true_or, or_true, eq_self, Option.toList_some, Option.toList_none, List.cons_append, List.nil_append, tc_0, tc_I, tc_L, tc_A, Nat.reduceAdd, Nat.reduceLeDiff, Nat.reduceEqDiff, Int.reduceEq, Int.reduceLT, Int.reduceLE, Int.reduceNeg, Int.reduceToNat, Int.cast_ofNat_Int, if_true, if_false, and_self, or_self, ite_self, bI_0, bI_1, bI_01, Bool.false_eq_true, reduceCtorEq, h1_156]
          refine p_E8 hL hn6 hc h5 (by rw [show j + 1 - 1 = j by omega]; exact hEnd) ?_
          cases hp2 : pX c (Tk y len) (j + 1) with
          | error e =>
            obtain ⟨w, i, z⟩ := e
            rw [hp2] at hQ
            intro g6 a b c
            simp only [u_M_readChange_81, ne_eq, not_false_eq_true, not_true_eq_false, true_and, and_true, true_or, or_true, eq_self, Option.toList_some, Option.toList_none, List.cons_append, List.nil_append, tc_0, tc_I, tc_L, tc_A, Nat.reduceAdd, Nat.reduceLeDiff, Nat.reduceEqDiff, Int.reduceEq, Int.reduceLT, Int.reduceLE, Int.reduceNeg, Int.reduceToNat, Int.cast_ofNat_Int, if_true, if_false, and_self, or_self, ite_self, bI_0, bI_1, bI_01, Bool.false_eq_true, reduceCtorEq]
            exact hQ g6 (hF4 g6 a) b c
          | ok z =>
            obtain ⟨q, l⟩ := z
            rw [hp2] at hQ
            intro g6 N6 R6 h6 hN6 hK6 hlt6
            simp only [u_M_readChange_81, ne_eq, not_false_eq_true, not_true_eq_false, true_and, and_true, true_or, or_true, eq_self, Option.toList_some, Option.toList_none, List.cons_append, List.nil_append, tc_0, tc_I, tc_L, tc_A, Nat.reduceAdd, Nat.reduceLeDiff, Nat.reduceEqDiff, Int.reduceEq, Int.reduceLT, Int.reduceLE, Int.reduceNeg, Int.reduceToNat, Int.cast_ofNat_Int, if_true, if_false, and_self, or_self, ite_self, bI_0, bI_1, bI_01, Bool.false_eq_true, reduceCtorEq]
            refine hQ g6 N6 R6 h6.2 (hF4 g6 h6.1) (by omega) (fun hn => ?_)
            have hj := hnm2 hn
            have e6 : g6 156 21 = v := by rw [h6.1 156 21 (by unfold scE; omega)]; simp [rd]
            rw [← hj]
            refine ⟨e6.trans hv, fun _ x hx => ?_⟩
            have := hN6.1 x hx
            rw [this, Nat.zero_testBit, Bool.false_or, hj, show k + 1 + 1 = k + 2 by omega]
      simp only [u_M_readChange_18, u_M_readChange_19, u_M_readChange_22, u_M_readChange_24, u_M_readChange_27, u_M_readChange_28, u_M_readChange_29, u_M_readChange_30, u_M_readChange_33, u_M_readChange_36, u_M_readChange_37, u_M_readChange_38, u_M_readChange_39, u_M_readChange_42, u_M_readChange_43, u_M_readChange_46, u_M_readChange_47, u_M_readChange_50, u_M_readChange_51, ne_eq, not_false_eq_true, not_true_eq_false, true_and, and_true, true_or, or_true, eq_self, Option.toList_some, Option.toList_none, List.cons_append, List.nil_append, tc_0, tc_I, tc_L, tc_A, Nat.reduceAdd, Nat.reduceLeDiff, Nat.reduceEqDiff, Int.reduceEq, Int.reduceLT, Int.reduceLE, Int.reduceNeg, Int.reduceToNat, Int.cast_ofNat_Int, if_true, if_false, and_self, or_self, ite_self, bI_0, bI_1, bI_01, Bool.false_eq_true, reduceCtorEq, h1_156, gt_156_6, gt_156_7, pt_156_21, hl3.2.1, hl3.2.2.1, s6]
      by_cases h133 : Tk y len j = 133
      · have w3 := (hpr.2 hk).mpr h133
        simp only [w3, ne_eq, not_false_eq_true, not_true_eq_false, true_and, and_true, true_or, or_true, eq_self, Option.toList_some, Option.toList_none, List.cons_append, List.nil_append, tc_0, tc_I, tc_L, tc_A, Nat.reduceAdd, Nat.reduceLeDiff, Nat.reduceEqDiff, Int.reduceEq, Int.reduceLT, Int.reduceLE, Int.reduceNeg, Int.reduceToNat, Int.cast_ofNat_Int, if_true, if_false, and_self, or_self, ite_self, bI_0, bI_1, bI_01, Bool.false_eq_true, reduceCtorEq]
        exact key 1 (by rw [decide_eq_true h133]; rfl)
      · have w3 : ¬ whc (Tk y len j) = 3 := fun hh => h133 ((hpr.2 hk).mp hh)
        simp only [w3, ne_eq, not_false_eq_true, not_true_eq_false, true_and, and_true, true_or, or_true, eq_self, Option.toList_some, Option.toList_none, List.cons_append, List.nil_append, tc_0, tc_I, tc_L, tc_A, Nat.reduceAdd, Nat.reduceLeDiff, Nat.reduceEqDiff, Int.reduceEq, Int.reduceLT, Int.reduceLE, Int.reduceNeg, Int.reduceToNat, Int.cast_ofNat_Int, if_true, if_false, and_self, or_self, ite_self, bI_0, bI_1, bI_01, Bool.false_eq_true, reduceCtorEq]
        exact key 0 (by rw [decide_eq_false h133]; rfl)
    · rw [if_neg hk] at hQ
      have s6 : ¬ srt (Tk y len j) = 6 := fun hh => hk (hpr.1.mp hh)
      simp only [u_M_readChange_18, u_M_readChange_19, u_M_readChange_22, u_M_readChange_24, u_M_readChange_27, u_M_readChange_28, u_M_readChange_29, u_M_readChange_30, u_M_readChange_33, u_M_readChange_36, ne_eq, not_false_eq_true, not_true_eq_false, true_and, and_true, true_or, or_true, eq_self, Option.toList_some, Option.toList_none, List.cons_append, List.nil_append, tc_0, tc_I, tc_L, tc_A, Nat.reduceAdd, Nat.reduceLeDiff, Nat.reduceEqDiff, Int.reduceEq, Int.reduceLT, Int.reduceLE, Int.reduceNeg, Int.reduceToNat, Int.cast_ofNat_Int, if_true, if_false, and_self, or_self, ite_self, bI_0, bI_1, bI_01, Bool.false_eq_true, reduceCtorEq, h1_156, gt_156_5, gt_156_6, hl3.2.1, hl3.1, s6]
      refine m_fails h3.1 (fun g4 a b c => ?_)
      simp only [u_M_readChange_36, ne_eq, not_false_eq_true, not_true_eq_false, true_and, and_true, true_or, or_true, eq_self, Option.toList_some, Option.toList_none, List.cons_append, List.nil_append, tc_0, tc_I, tc_L, tc_A, Nat.reduceAdd, Nat.reduceLeDiff, Nat.reduceEqDiff, Int.reduceEq, Int.reduceLT, Int.reduceLE, Int.reduceNeg, Int.reduceToNat, Int.cast_ofNat_Int, if_true, if_false, and_self, or_self, ite_self, bI_0, bI_1, bI_01, Bool.false_eq_true, reduceCtorEq]
      exact hQ g4 (FC_tr FC_sw (FC_of a)) b c
theorem p_readKind (hL : Lexd y n len) (hn6 : n ≤ 600) (h : ME y n len g0 k op N R g) (hY : kKind (Tk y len k) = true → ∀ g', ME y n len g0 (k + 1) op N R g' → Q (some (tI 1)) (WW f t g')) (hN : ¬ kKind (Tk y len k) = true → EQ_ y f t (FE g0) Q 1 k) : VV L (d + 4) m_M_readKind 0 [some (tA 156)] [] (WW f t g) Q := by
  simp only [u_M_readKind_0, u_M_readKind_1, ne_eq, not_false_eq_true, not_true_eq_false, true_and, and_true, true_or, or_true, eq_self, Option.toList_some, Option.toList_none, List.cons_append, List.nil_append, tc_0, tc_I, tc_L, tc_A, Nat.reduceAdd, Nat.reduceLeDiff, Nat.reduceEqDiff, Int.reduceEq, Int.reduceLT, Int.reduceLE, Int.reduceNeg, Int.reduceToNat, Int.cast_ofNat_Int, if_true, if_false, and_self, or_self, ite_self, bI_0, bI_1, bI_01, Bool.false_eq_true, reduceCtorEq, h1_156]
  refine m_look hL h (fun g1 h1 hl => ?_)
  by_cases hk : kKind (Tk y len k) = true
  · have hx : 217 ≤ Tk y len k ∧ Tk y len k ≤ 221 := by unfold kKind at hk; simp at hk; omega
    have hi := (key_iff (x := Tk y len k) (w := Tk y len k - 200) (by omega) (by omega)).mpr (by omega)
    simp only [u_M_readKind_4, u_M_readKind_5, u_M_readKind_8, u_M_readKind_9, u_M_readKind_12, u_M_readKind_13, u_M_readKind_16, u_M_readKind_18, u_M_readKind_21, u_M_readKind_22, u_M_readKind_23, u_M_readKind_24, u_M_readKind_27, u_M_readKind_30, u_M_readKind_31, u_M_readKind_32, ne_eq, not_false_eq_true, not_true_eq_false, true_and, and_true, true_or, or_true, eq_self, Option.toList_some, Option.toList_none, List.cons_append, List.nil_append, tc_0, tc_I, tc_L, tc_A, Nat.reduceAdd, Nat.reduceLeDiff, Nat.reduceEqDiff, Int.reduceEq, Int.reduceLT, Int.reduceLE, Int.reduceNeg, Int.reduceToNat, Int.cast_ofNat_Int, if_true, if_false, and_self, or_self, ite_self, bI_0, bI_1, bI_01, Bool.false_eq_true, reduceCtorEq, h1_156, gt_156_6, gt_156_7, hl.2.1, hl.2.2.1, hi.1, hi.2, show 17 ≤ Tk y len k - 200 by omega]
    refine p_take hL hn6 h1 hl (by omega) (by omega) (fun g2 h2 => ?_)
    simp only [u_M_readKind_35, u_M_readKind_36, ne_eq, not_false_eq_true, not_true_eq_false, true_and, and_true, true_or, or_true, eq_self, Option.toList_some, Option.toList_none, List.cons_append, List.nil_append, tc_0, tc_I, tc_L, tc_A, Nat.reduceAdd, Nat.reduceLeDiff, Nat.reduceEqDiff, Int.reduceEq, Int.reduceLT, Int.reduceLE, Int.reduceNeg, Int.reduceToNat, Int.cast_ofNat_Int, if_true, if_false, and_self, or_self, ite_self, bI_0, bI_1, bI_01, Bool.false_eq_true, reduceCtorEq]
    exact hY hk g2 h2
  · have hfail : VV L (d + 4) m_M_readKind 21 [some (tA 156)] [] (WW f t g1) Q := by
      simp only [u_M_readKind_21, u_M_readKind_22, u_M_readKind_23, u_M_readKind_24, u_M_readKind_27, u_M_readKind_30, ne_eq, not_false_eq_true, not_true_eq_false, true_and, and_true, true_or, or_true, eq_self, Option.toList_some, Option.toList_none, List.cons_append, List.nil_append, tc_0, tc_I, tc_L, tc_A, Nat.reduceAdd, Nat.reduceLeDiff, Nat.reduceEqDiff, Int.reduceEq, Int.reduceLT, Int.reduceLE, Int.reduceNeg, Int.reduceToNat, Int.cast_ofNat_Int, if_true, if_false, and_self, or_self, ite_self, bI_0, bI_1, bI_01, Bool.false_eq_true, reduceCtorEq, h1_156, gt_156_5, hl.1]
      refine m_fails h1.1 (fun g2 a b c => ?_)
      simp only [u_M_readKind_30, ne_eq, not_false_eq_true, not_true_eq_false, true_and, and_true, true_or, or_true, eq_self, Option.toList_some, Option.toList_none, List.cons_append, List.nil_append, tc_0, tc_I, tc_L, tc_A, Nat.reduceAdd, Nat.reduceLeDiff, Nat.reduceEqDiff, Int.reduceEq, Int.reduceLT, Int.reduceLE, Int.reduceNeg, Int.reduceToNat, Int.cast_ofNat_Int, if_true, if_false, and_self, or_self, ite_self, bI_0, bI_1, bI_01, Bool.false_eq_true, reduceCtorEq]
      exact hN hk g2 a b c
    by_cases s5 : srt (Tk y len k) = 5
    · have hw : whc (Tk y len k) < 17 := by
        by_cases hw : whc (Tk y len k) < 17
        · exact hw
        · exfalso
          apply hk
          have h200 : 200 ≤ Tk y len k ∧ Tk y len k ≤ 221 := by
            revert s5; unfold srt; (repeat' split) <;> intro hh <;> omega
          have := (key_iff (x := Tk y len k) (w := Tk y len k - 200) (by omega) (by omega)).mpr (by omega)
          unfold kKind; simp; omega
      simp only [u_M_readKind_4, u_M_readKind_5, u_M_readKind_8, u_M_readKind_9, u_M_readKind_12, u_M_readKind_13, u_M_readKind_16, u_M_readKind_18, ne_eq, not_false_eq_true, not_true_eq_false, true_and, and_true, true_or, or_true, eq_self, Option.toList_some, Option.toList_none, List.cons_append, List.nil_append, tc_0, tc_I, tc_L, tc_A, Nat.reduceAdd, Nat.reduceLeDiff, Nat.reduceEqDiff, Int.reduceEq, Int.reduceLT, Int.reduceLE, Int.reduceNeg, Int.reduceToNat, Int.cast_ofNat_Int, if_true, if_false, and_self, or_self, ite_self, bI_0, bI_1, bI_01, Bool.false_eq_true, reduceCtorEq, h1_156, gt_156_6, gt_156_7, hl.2.1, hl.2.2.1, s5, show ¬ 17 ≤ whc (Tk y len k) by omega]
      exact hfail
    · simp only [u_M_readKind_4, u_M_readKind_5, u_M_readKind_8, u_M_readKind_9, u_M_readKind_12, u_M_readKind_13, u_M_readKind_16, u_M_readKind_18, ne_eq, not_false_eq_true, not_true_eq_false, true_and, and_true, true_or, or_true, eq_self, Option.toList_some, Option.toList_none, List.cons_append, List.nil_append, tc_0, tc_I, tc_L, tc_A, Nat.reduceAdd, Nat.reduceLeDiff, Nat.reduceEqDiff, Int.reduceEq, Int.reduceLT, Int.reduceLE, Int.reduceNeg, Int.reduceToNat, Int.cast_ofNat_Int, if_true, if_false, and_self, or_self, ite_self, bI_0, bI_1, bI_01, Bool.false_eq_true, reduceCtorEq, h1_156, gt_156_6, gt_156_7, hl.2.1, hl.2.2.1, s5]
      exact hfail
theorem p_readCalled (hL : Lexd y n len) (hn6 : n ≤ 600) (h : ME y n len g0 k op N R g) (hY : Tk y len k < 0 → ¬ Tk y len k < -10 → ∀ g', ME y n len g0 (k + 1) op N R g' → Q (some (tI 1)) (WW f t g')) (h5 : Tk y len k < 0 → Tk y len k < -10 → EQ_ y f t (FE g0) Q 5 k) (hN : ¬ Tk y len k < 0 → EQ_ y f t (FE g0) Q 1 k) : VV L (d + 4) m_M_readCalled 0 [some (tA 156)] [] (WW f t g) Q := by
  simp only [u_M_readCalled_0, u_M_readCalled_1, ne_eq, not_false_eq_true, not_true_eq_false, true_and, and_true, true_or, or_true, eq_self, Option.toList_some, Option.toList_none, List.cons_append, List.nil_append, tc_0, tc_I, tc_L, tc_A, Nat.reduceAdd, Nat.reduceLeDiff, Nat.reduceEqDiff, Int.reduceEq, Int.reduceLT, Int.reduceLE, Int.reduceNeg, Int.reduceToNat, Int.cast_ofNat_Int, if_true, if_false, and_self, or_self, ite_self, bI_0, bI_1, bI_01, Bool.false_eq_true, reduceCtorEq, h1_156]
  refine m_look hL h (fun g1 h1 hl => ?_)
  by_cases hk : Tk y len k < 0
  · have hw : whc (Tk y len k) = -1 - Tk y len k := by unfold whc; rw [if_pos hk]
    by_cases h10 : Tk y len k < -10
    · simp only [u_M_readCalled_4, u_M_readCalled_5, u_M_readCalled_8, u_M_readCalled_9, u_M_readCalled_12, u_M_readCalled_13, u_M_readCalled_14, u_M_readCalled_15, u_M_readCalled_18, u_M_readCalled_21, u_M_readCalled_22, u_M_readCalled_23, u_M_readCalled_26, u_M_readCalled_28, u_M_readCalled_31, u_M_readCalled_32, u_M_readCalled_33, u_M_readCalled_34, u_M_readCalled_37, u_M_readCalled_40, ne_eq, not_false_eq_true, not_true_eq_false, true_and, and_true, true_or, or_true, eq_self, Option.toList_some, Option.toList_none, List.cons_append, List.nil_append, tc_0, tc_I, tc_L, tc_A, Nat.reduceAdd, Nat.reduceLeDiff, Nat.reduceEqDiff, Int.reduceEq, Int.reduceLT, Int.reduceLE, Int.reduceNeg, Int.reduceToNat, Int.cast_ofNat_Int, if_true, if_false, and_self, or_self, ite_self, bI_0, bI_1, bI_01, Bool.false_eq_true, reduceCtorEq, h1_156, gt_156_5, gt_156_6, gt_156_7, hl.1, hl.2.1, hl.2.2.1, srt_n hk, hw, show ¬ -1 - Tk y len k ≤ 9 by omega]
      refine m_fails h1.1 (fun g2 a b c => ?_)
      simp only [u_M_readCalled_40, ne_eq, not_false_eq_true, not_true_eq_false, true_and, and_true, true_or, or_true, eq_self, Option.toList_some, Option.toList_none, List.cons_append, List.nil_append, tc_0, tc_I, tc_L, tc_A, Nat.reduceAdd, Nat.reduceLeDiff, Nat.reduceEqDiff, Int.reduceEq, Int.reduceLT, Int.reduceLE, Int.reduceNeg, Int.reduceToNat, Int.cast_ofNat_Int, if_true, if_false, and_self, or_self, ite_self, bI_0, bI_1, bI_01, Bool.false_eq_true, reduceCtorEq]
      exact h5 hk h10 g2 a b c
    · simp only [u_M_readCalled_4, u_M_readCalled_5, u_M_readCalled_8, u_M_readCalled_9, u_M_readCalled_12, u_M_readCalled_13, u_M_readCalled_14, u_M_readCalled_15, u_M_readCalled_18, u_M_readCalled_21, u_M_readCalled_22, u_M_readCalled_23, u_M_readCalled_26, u_M_readCalled_28, u_M_readCalled_31, u_M_readCalled_32, u_M_readCalled_33, u_M_readCalled_34, u_M_readCalled_37, u_M_readCalled_40, u_M_readCalled_41, u_M_readCalled_42, ne_eq, not_false_eq_true, not_true_eq_false, true_and, and_true, true_or, or_true, eq_self, Option.toList_some, Option.toList_none, List.cons_append, List.nil_append, tc_0, tc_I, tc_L, tc_A, Nat.reduceAdd, Nat.reduceLeDiff, Nat.reduceEqDiff, Int.reduceEq, Int.reduceLT, Int.reduceLE, Int.reduceNeg, Int.reduceToNat, Int.cast_ofNat_Int, if_true, if_false, and_self, or_self, ite_self, bI_0, bI_1, bI_01, Bool.false_eq_true, reduceCtorEq, h1_156, gt_156_5, gt_156_6, gt_156_7, hl.1, hl.2.1, hl.2.2.1, srt_n hk, hw, show -1 - Tk y len k ≤ 9 by omega]
      refine p_take hL hn6 h1 hl (by omega) (by omega) (fun g2 h2 => ?_)
      simp only [u_M_readCalled_45, u_M_readCalled_46, ne_eq, not_false_eq_true, not_true_eq_false, true_and, and_true, true_or, or_true, eq_self, Option.toList_some, Option.toList_none, List.cons_append, List.nil_append, tc_0, tc_I, tc_L, tc_A, Nat.reduceAdd, Nat.reduceLeDiff, Nat.reduceEqDiff, Int.reduceEq, Int.reduceLT, Int.reduceLE, Int.reduceNeg, Int.reduceToNat, Int.cast_ofNat_Int, if_true, if_false, and_self, or_self, ite_self, bI_0, bI_1, bI_01, Bool.false_eq_true, reduceCtorEq]
      exact hY hk h10 g2 h2
  · have s2 : ¬ srt (Tk y len k) = 2 := fun hh => hk (srt_iff.2.1.mp hh)
    simp only [u_M_readCalled_4, u_M_readCalled_5, u_M_readCalled_8, u_M_readCalled_9, u_M_readCalled_12, u_M_readCalled_13, u_M_readCalled_14, u_M_readCalled_15, u_M_readCalled_18, u_M_readCalled_21, ne_eq, not_false_eq_true, not_true_eq_false, true_and, and_true, true_or, or_true, eq_self, Option.toList_some, Option.toList_none, List.cons_append, List.nil_append, tc_0, tc_I, tc_L, tc_A, Nat.reduceAdd, Nat.reduceLeDiff, Nat.reduceEqDiff, Int.reduceEq, Int.reduceLT, Int.reduceLE, Int.reduceNeg, Int.reduceToNat, Int.cast_ofNat_Int, if_true, if_false, and_self, or_self, ite_self, bI_0, bI_1, bI_01, Bool.false_eq_true, reduceCtorEq, h1_156, gt_156_5, gt_156_6, hl.1, hl.2.1, s2]
    refine m_fails h1.1 (fun g2 a b c => ?_)
    simp only [u_M_readCalled_21, ne_eq, not_false_eq_true, not_true_eq_false, true_and, and_true, true_or, or_true, eq_self, Option.toList_some, Option.toList_none, List.cons_append, List.nil_append, tc_0, tc_I, tc_L, tc_A, Nat.reduceAdd, Nat.reduceLeDiff, Nat.reduceEqDiff, Int.reduceEq, Int.reduceLT, Int.reduceLE, Int.reduceNeg, Int.reduceToNat, Int.cast_ofNat_Int, if_true, if_false, and_self, or_self, ite_self, bI_0, bI_1, bI_01, Bool.false_eq_true, reduceCtorEq]
    exact hN hk g2 a b c
end
