/-! The reference's reader: how a step begins and ends -/
def FS (g0 g : Mem) : Prop := ∀ c j, ¬ (scE c j ∨ (c = 156 ∧ 17 ≤ j ∧ j ≤ 21)) → g c j = g0 c j
theorem FS_FC {g0 g g' : Mem} (h : FS g0 g) (h' : FC g g') : FS g0 g' := fun c j hh => (h' c j (fun q => hh (q.imp id (fun e => ⟨e.1, by omega, by omega⟩)))).trans (h c j hh)
theorem FS_FE {g0 g g' : Mem} (h : FS g0 g) (h' : FE g g') : FS g0 g' := FS_FC h (FC_of h')
theorem FS_tr {g0 g g' : Mem} (h : FS g0 g) (h' : FS g g') : FS g0 g' := fun c j hh => (h' c j hh).trans (h c j hh)
/-- the reader's own counters: instructions, begun and ordinary, braces -/
def CT (k : Int) (σ : Sg) (br : Int) (g : Mem) : Prop := g 156 19 = σ.1 ∧ (σ.2.1 = 0 → g 156 18 = 0) ∧ (σ.2.1 = 1 → ¬ g 156 18 = 0 ∧ g 156 17 = σ.2.2) ∧ (0 ≤ g 156 18 ∧ g 156 18 ≤ k) ∧ g 156 20 = br
theorem CT_FC {k : Int} {σ : Sg} {br : Int} {g g' : Mem} (h : CT k σ br g) (h' : FC g g') {k' : Int} (hk : k ≤ k') : CT k' σ br g' := by
  have e : ∀ j, 17 ≤ j → j ≤ 20 → g' 156 j = g 156 j := fun j a b => h' 156 j (by unfold scE; omega)
  obtain ⟨a, b, c, d, i⟩ := h
  unfold CT
  rw [e 19 (by omega) (by omega), e 18 (by omega) (by omega), e 17 (by omega) (by omega), e 20 (by omega) (by omega)]
  exact ⟨a, b, c, ⟨d.1, by omega⟩, i⟩
def SM (y : Int → Int) (n : Int) (len : Nat) (gs : Mem) (k : Int) (σ : Sg) (br : Int) (g : Mem) : Prop := FS gs g ∧ (∃ op N R, MR y n len k op N R g) ∧ CT k σ br g
def RS (y : Int → Int) (n : Int) (len : Nat) (gs f t : Mem) (br : Int) (Q : Option TV → Wd → Prop) (k : Int) {α : Type} : PS α → Prop
  | .ok (_, j, σ) => ∀ g', SM y n len gs j σ br g' → k < j → Q (some (tI 1)) (WW f t g')
  | .error ((w, i, _), _) => EQ_ y f t (FS gs) Q w i
theorem srt5 {x : Int} : (srt x = 5 ↔ 200 ≤ x ∧ x ≤ 221) ∧ (srt x = 5 → whc x = x - 200) := by
  have h1 : srt x = 5 → 200 ≤ x ∧ x ≤ 221 := by
    unfold srt; (repeat' split) <;> intro hh <;> omega
  have h2 : 200 ≤ x ∧ x ≤ 221 → srt x = 5 ∧ whc x = x - 200 := fun h => (key_iff (x := x) (w := x - 200) (by omega) (by omega)).mpr (by omega)
  exact ⟨⟨h1, fun h => (h2 h).1⟩, fun h => (h2 (h1 h)).2⟩
section
variable {L d : Nat} {f t g gs : Mem} {Q : Option TV → Wd → Prop} {y : Int → Int} {n k j op br : Int} {len N R : Nat} {σ : Sg}
theorem s_M_mayBegin (hl : LKs y len k g) : VV L (d + 1) m_M_mayBegin 0 [some (tA 156)] [] (WW f t g) Q = Q (some (tI (bB (kBeg (Tk y len k))))) (WW f t g) := by
  have hi := srt_iff (x := Tk y len k)
  have h5 := srt5 (x := Tk y len k)
  simp only [u_M_mayBegin_0, u_M_mayBegin_1, u_M_mayBegin_4, u_M_mayBegin_5, u_M_mayBegin_8, u_M_mayBegin_9, u_M_mayBegin_12, u_M_mayBegin_13, u_M_mayBegin_16, u_M_mayBegin_17, u_M_mayBegin_20, u_M_mayBegin_21, u_M_mayBegin_24, u_M_mayBegin_25, u_M_mayBegin_28, u_M_mayBegin_30, u_M_mayBegin_33, u_M_mayBegin_34, u_M_mayBegin_37, u_M_mayBegin_39, u_M_mayBegin_42, u_M_mayBegin_43, u_M_mayBegin_46, u_M_mayBegin_48, u_M_mayBegin_50, u_M_mayBegin_53, u_M_mayBegin_56, u_M_mayBegin_57, u_M_mayBegin_60, u_M_mayBegin_61, h1_156, gt_156_6, pt_156_6, gt_156_7, pt_156_7, ne_eq, not_false_eq_true, not_true_eq_false, true_and, and_true, true_or, or_true, eq_self, Option.toList_some, Option.toList_none, List.cons_append, List.nil_append, tc_0, tc_I, tc_L, tc_A, Nat.reduceAdd, Nat.reduceLeDiff, Nat.reduceEqDiff, Int.reduceEq, Int.reduceLT, Int.reduceLE, Int.reduceNeg, Int.reduceToNat, Int.cast_ofNat_Int, if_true, if_false, and_self, or_self, ite_self, bI_0, bI_1, bI_01, Bool.false_eq_true, reduceCtorEq, hl.2.1, hl.2.2.1, s_M_in, bB_0, ite_not, decide_eq_true_eq]
  by_cases hn : kName (Tk y len k) = true
  · have hb : kBeg (Tk y len k) = true := by unfold kName at hn; unfold kBeg; simp at hn ⊢; omega
    simp only [hi.1.mpr hn, hb, ne_eq, not_false_eq_true, not_true_eq_false, true_and, and_true, true_or, or_true, eq_self, Option.toList_some, Option.toList_none, List.cons_append, List.nil_append, tc_0, tc_I, tc_L, tc_A, Nat.reduceAdd, Nat.reduceLeDiff, Nat.reduceEqDiff, Int.reduceEq, Int.reduceLT, Int.reduceLE, Int.reduceNeg, Int.reduceToNat, Int.cast_ofNat_Int, if_true, if_false, and_self, or_self, ite_self, bI_0, bI_1, bI_01, Bool.false_eq_true, reduceCtorEq, bB_t]
  · have s1 : ¬ srt (Tk y len k) = 1 := fun hh => hn (hi.1.mp hh)
    by_cases hr : kRow (Tk y len k) = true
    · have hb : kBeg (Tk y len k) = true := by unfold kRow at hr; unfold kBeg; simp at hr ⊢; omega
      simp only [hi.2.2.1.mpr hr, hb, ne_eq, not_false_eq_true, not_true_eq_false, true_and, and_true, true_or, or_true, eq_self, Option.toList_some, Option.toList_none, List.cons_append, List.nil_append, tc_0, tc_I, tc_L, tc_A, Nat.reduceAdd, Nat.reduceLeDiff, Nat.reduceEqDiff, Int.reduceEq, Int.reduceLT, Int.reduceLE, Int.reduceNeg, Int.reduceToNat, Int.cast_ofNat_Int, if_true, if_false, and_self, or_self, ite_self, bI_0, bI_1, bI_01, Bool.false_eq_true, reduceCtorEq, bB_t]
    · have s3 : ¬ srt (Tk y len k) = 3 := fun hh => hr (hi.2.2.1.mp hh)
      by_cases hk : srt (Tk y len k) = 5
      · have hw := h5.2 hk
        have hx := h5.1.mp hk
        simp only [s1, s3, hk, hw, ne_eq, not_false_eq_true, not_true_eq_false, true_and, and_true, true_or, or_true, eq_self, Option.toList_some, Option.toList_none, List.cons_append, List.nil_append, tc_0, tc_I, tc_L, tc_A, Nat.reduceAdd, Nat.reduceLeDiff, Nat.reduceEqDiff, Int.reduceEq, Int.reduceLT, Int.reduceLE, Int.reduceNeg, Int.reduceToNat, Int.cast_ofNat_Int, if_true, if_false, and_self, or_self, ite_self, bI_0, bI_1, bI_01, Bool.false_eq_true, reduceCtorEq]
        unfold kBeg bB
        simp only [decide_eq_true_eq]
        (repeat' split) <;> first | rfl | omega
      · have hb : ¬ kBeg (Tk y len k) = true := by
          intro hb
          have : ¬ (200 ≤ Tk y len k ∧ Tk y len k ≤ 221) := fun hh => hk (h5.1.mpr hh)
          unfold kBeg at hb; unfold kName at hn; unfold kRow at hr; simp at hb hn hr; omega
        simp only [s1, s3, hk, hb, ne_eq, not_false_eq_true, not_true_eq_false, true_and, and_true, true_or, or_true, eq_self, Option.toList_some, Option.toList_none, List.cons_append, List.nil_append, tc_0, tc_I, tc_L, tc_A, Nat.reduceAdd, Nat.reduceLeDiff, Nat.reduceEqDiff, Int.reduceEq, Int.reduceLT, Int.reduceLE, Int.reduceNeg, Int.reduceToNat, Int.cast_ofNat_Int, if_true, if_false, and_self, or_self, ite_self, bI_0, bI_1, bI_01, Bool.false_eq_true, reduceCtorEq, bB_f]
theorem p_end {o ky : Option TV} {name row more z : Int} (hL : Lexd y n len) (hn6 : n ≤ 600) (hF : FS gs g) (hM : MR y n len j op N R g) (hC : CT j σ br g) (hσ : okSg σ) (hz : z = sk y (eN y k.toNat)) (hname : name = -1 ∨ (0 ≤ name ∧ name < 26)) (hrow : row = -1 ∨ (0 ≤ row ∧ row < 6)) (hmore : more = nIns (Tk y len k)) (hkj : k < j)
    (hfl0 : Tk y len j = 59 → (((0 ≤ name ∧ more = 1 ∧ N.testBit name.toNat = true) ∨ (0 ≤ row ∧ R.testBit row.toNat = true)) ↔ inIt (Tk y len) k (j + 1) = true))
    (hQ : RS y n len gs f t br Q k (if Tk y len j = 59 then (if inIt (Tk y len) k (j + 1) = true then .error ((3, k, j + 1), σ) else if σ.1 + nIns (Tk y len k) ≤ 40 then .ok ((), j + 1, (σ.1 + nIns (Tk y len k), σ.2)) else .error ((4, k, j + 1), (σ.1 + nIns (Tk y len k), σ.2))) else .error ((1, j, j), σ) : PS Unit)) : VV L (d + 6) m_M_readStep 583 [some (tA 156), some (tI z), o, ky, some (tI name), some (tI row), some (tI more), some (tI 1)] [] (WW f t g) Q := by
  subst hz
  simp only [u_M_readStep_583, u_M_readStep_585, u_M_readStep_588, u_M_readStep_589, u_M_readStep_591, u_M_readStep_593, ne_eq, not_false_eq_true, not_true_eq_false, true_and, and_true, true_or, or_true, eq_self, Option.toList_some, Option.toList_none, List.cons_append, List.nil_append, tc_0, tc_I, tc_L, tc_A, Nat.reduceAdd, Nat.reduceLeDiff, Nat.reduceEqDiff, Int.reduceEq, Int.reduceLT, Int.reduceLE, Int.reduceNeg, Int.reduceToNat, Int.cast_ofNat_Int, if_true, if_false, and_self, or_self, ite_self, bI_0, bI_1, bI_01, Bool.false_eq_true, reduceCtorEq, h1_156]
  refine p_wants hL hn6 (ME_mk hM) (by decide) (by decide) (fun e g2 h2 => ?_) (fun e g2 a b c => ?_)
  · rw [if_pos e] at hQ
    have hfl := hfl0 e
    have hF2 := FS_FE hF h2.1
    have hC2 : CT (j + 1) σ br g2 := CT_FC hC (FC_of h2.1) (by omega)
    have hN := ME_N1 h2
    have hR := ME_R1 h2
    have hnI := nIns_b (x := Tk y len k)
    have hw : w32 (σ.1 + more) = σ.1 + more := w32_id (by have := hσ.2.2.1; omega) (by have := hσ.2.2.2; omega)
    have h643 : inIt (Tk y len) k (j + 1) = true → VV L (d + 6) m_M_readStep 643 [some (tA 156), some (tI (sk y (eN y k.toNat))), o, ky, some (tI name), some (tI row), some (tI more), some (tI 1)] [] (WW f t g2) Q := by
      intro hi
      rw [if_pos hi] at hQ
      simp only [u_M_readStep_643, u_M_readStep_644, u_M_readStep_645, u_M_readStep_646, u_M_readStep_649, ne_eq, not_false_eq_true, not_true_eq_false, true_and, and_true, true_or, or_true, eq_self, Option.toList_some, Option.toList_none, List.cons_append, List.nil_append, tc_0, tc_I, tc_L, tc_A, Nat.reduceAdd, Nat.reduceLeDiff, Nat.reduceEqDiff, Int.reduceEq, Int.reduceLT, Int.reduceLE, Int.reduceNeg, Int.reduceToNat, Int.cast_ofNat_Int, if_true, if_false, and_self, or_self, ite_self, bI_0, bI_1, bI_01, Bool.false_eq_true, reduceCtorEq, h1_156, s_M_fails]
      refine hQ _ ?_ rfl rfl
      intro c j hh; rw [← hF2 c j hh]; unfold scE at hh; simp only [rd]; grind
    have h650 : ¬ inIt (Tk y len) k (j + 1) = true → VV L (d + 6) m_M_readStep 650 [some (tA 156), some (tI (sk y (eN y k.toNat))), o, ky, some (tI name), some (tI row), some (tI more), some (tI 1)] [] (WW f t g2) Q := by
      intro hi
      rw [if_neg hi] at hQ
      simp only [u_M_readStep_650, u_M_readStep_651, u_M_readStep_652, u_M_readStep_655, u_M_readStep_657, u_M_readStep_658, u_M_readStep_661, u_M_readStep_662, u_M_readStep_665, u_M_readStep_667, u_M_readStep_670, ne_eq, not_false_eq_true, not_true_eq_false, true_and, and_true, true_or, or_true, eq_self, Option.toList_some, Option.toList_none, List.cons_append, List.nil_append, tc_0, tc_I, tc_L, tc_A, Nat.reduceAdd, Nat.reduceLeDiff, Nat.reduceEqDiff, Int.reduceEq, Int.reduceLT, Int.reduceLE, Int.reduceNeg, Int.reduceToNat, Int.cast_ofNat_Int, if_true, if_false, and_self, or_self, ite_self, bI_0, bI_1, bI_01, Bool.false_eq_true, reduceCtorEq, h1_156, gt_156_19, pt_156_19, hC2.1, hw, rd, and_true]
      have hFn : FS gs (mset g2 156 19 (σ.1 + more)) := by
        intro c j hh; rw [← hF2 c j hh]; unfold scE at hh; simp only [rd]; grind
      by_cases h40 : σ.1 + more ≤ 40
      · rw [hmore] at h40
        rw [if_pos h40] at hQ
        rw [← hmore] at h40 hQ
        simp only [h40, u_M_readStep_679, u_M_readStep_680, u_M_readStep_683, u_M_readStep_684, ne_eq, not_false_eq_true, not_true_eq_false, true_and, and_true, true_or, or_true, eq_self, Option.toList_some, Option.toList_none, List.cons_append, List.nil_append, tc_0, tc_I, tc_L, tc_A, Nat.reduceAdd, Nat.reduceLeDiff, Nat.reduceEqDiff, Int.reduceEq, Int.reduceLT, Int.reduceLE, Int.reduceNeg, Int.reduceToNat, Int.cast_ofNat_Int, if_true, if_false, and_self, or_self, ite_self, bI_0, bI_1, bI_01, Bool.false_eq_true, reduceCtorEq]
        refine hQ _ ⟨hFn, ⟨op, N, R, ?_⟩, ?_⟩ (by omega)
        · obtain ⟨_, hg, hy, hn, h0, h1, hs, hm, hk0, hk, hE, hop, hN', hR', hN2, hR2⟩ := h2
          refine ⟨⟨hg.1, hg.2.1, fun i hi => ?_⟩, ?_, hn, h0, h1, hs, hm, hk0, hk, fun q hq => ?_, hop, hN', hR', hN2, hR2⟩
          · have := hg.2.2 i hi; simp only [rd, Nat.reduceEqDiff, false_and, if_false]; exact this
          · rw [← hy]; funext i; unfold ym; simp only [rd, Nat.reduceEqDiff, false_and, and_false, if_false]
          · have := hE q hq; simp only [rd, Nat.reduceEqDiff, false_and, if_false]; exact this
        · obtain ⟨a, b, c, e, i⟩ := hC2
          exact ⟨rfl, b, c, e, i⟩
      · rw [hmore] at h40
        rw [if_neg h40] at hQ
        rw [← hmore] at h40 hQ
        simp only [h40, u_M_readStep_671, u_M_readStep_672, u_M_readStep_673, u_M_readStep_676, u_M_readStep_679, u_M_readStep_680, u_M_readStep_683, u_M_readStep_684, ne_eq, not_false_eq_true, not_true_eq_false, true_and, and_true, true_or, or_true, eq_self, Option.toList_some, Option.toList_none, List.cons_append, List.nil_append, tc_0, tc_I, tc_L, tc_A, Nat.reduceAdd, Nat.reduceLeDiff, Nat.reduceEqDiff, Int.reduceEq, Int.reduceLT, Int.reduceLE, Int.reduceNeg, Int.reduceToNat, Int.cast_ofNat_Int, if_true, if_false, and_self, or_self, ite_self, bI_0, bI_1, bI_01, Bool.false_eq_true, reduceCtorEq, h1_156, s_M_fails]
        refine hQ _ ?_ rfl rfl
        intro c j hh; rw [← hFn c j hh]; unfold scE at hh; simp only [rd]; grind
    have hbn : 0 ≤ name → o32 (fun x y => x &&& y) (o32 (fun x y => x >>> (y &&& 31)) (N : Int) name) 1 = bB (N.testBit name.toNat) := by
      intro h0
      have := o32_bit (a := N) (x := name.toNat) (by have := hN.2; omega) (by omega)
      rw [show ((name.toNat : Nat) : Int) = name by omega] at this; exact this
    have hbr : 0 ≤ row → o32 (fun x y => x &&& y) (o32 (fun x y => x >>> (y &&& 31)) (R : Int) row) 1 = bB (R.testBit row.toNat) := by
      intro h0
      have := o32_bit (a := R) (x := row.toNat) (by have := hR.2; omega) (by omega)
      rw [show ((row.toNat : Nat) : Int) = row by omega] at this; exact this
    have h625 : ¬ (0 ≤ name ∧ more = 1 ∧ N.testBit name.toNat = true) → VV L (d + 6) m_M_readStep 625 [some (tA 156), some (tI (sk y (eN y k.toNat))), o, ky, some (tI name), some (tI row), some (tI more), some (tI 1)] [] (WW f t g2) Q := by
      intro hno
      by_cases hr0 : row < 0
      · simp only [u_M_readStep_625, u_M_readStep_627, ne_eq, not_false_eq_true, not_true_eq_false, true_and, and_true, true_or, or_true, eq_self, Option.toList_some, Option.toList_none, List.cons_append, List.nil_append, tc_0, tc_I, tc_L, tc_A, Nat.reduceAdd, Nat.reduceLeDiff, Nat.reduceEqDiff, Int.reduceEq, Int.reduceLT, Int.reduceLE, Int.reduceNeg, Int.reduceToNat, Int.cast_ofNat_Int, if_true, if_false, and_self, or_self, ite_self, bI_0, bI_1, bI_01, Bool.false_eq_true, reduceCtorEq, hr0]
        exact h650 (fun hh => by rcases hfl.mpr hh with q | q; exact hno q; omega)
      · simp only [u_M_readStep_625, u_M_readStep_627, u_M_readStep_630, u_M_readStep_631, u_M_readStep_634, u_M_readStep_636, u_M_readStep_637, u_M_readStep_638, u_M_readStep_639, u_M_readStep_640, ne_eq, not_false_eq_true, not_true_eq_false, true_and, and_true, true_or, or_true, eq_self, Option.toList_some, Option.toList_none, List.cons_append, List.nil_append, tc_0, tc_I, tc_L, tc_A, Nat.reduceAdd, Nat.reduceLeDiff, Nat.reduceEqDiff, Int.reduceEq, Int.reduceLT, Int.reduceLE, Int.reduceNeg, Int.reduceToNat, Int.cast_ofNat_Int, if_true, if_false, and_self, or_self, ite_self, bI_0, bI_1, bI_01, Bool.false_eq_true, reduceCtorEq, hr0, h1_156, gt_156_15, hR.1, hbr (by omega), bB_1]
        by_cases hb : R.testBit row.toNat = true
        · simp only [hb, ne_eq, not_false_eq_true, not_true_eq_false, true_and, and_true, true_or, or_true, eq_self, Option.toList_some, Option.toList_none, List.cons_append, List.nil_append, tc_0, tc_I, tc_L, tc_A, Nat.reduceAdd, Nat.reduceLeDiff, Nat.reduceEqDiff, Int.reduceEq, Int.reduceLT, Int.reduceLE, Int.reduceNeg, Int.reduceToNat, Int.cast_ofNat_Int, if_true, if_false, and_self, or_self, ite_self, bI_0, bI_1, bI_01, Bool.false_eq_true, reduceCtorEq]
          exact h643 (hfl.mp (Or.inr ⟨by omega, hb⟩))
        · simp only [hb, ne_eq, not_false_eq_true, not_true_eq_false, true_and, and_true, true_or, or_true, eq_self, Option.toList_some, Option.toList_none, List.cons_append, List.nil_append, tc_0, tc_I, tc_L, tc_A, Nat.reduceAdd, Nat.reduceLeDiff, Nat.reduceEqDiff, Int.reduceEq, Int.reduceLT, Int.reduceLE, Int.reduceNeg, Int.reduceToNat, Int.cast_ofNat_Int, if_true, if_false, and_self, or_self, ite_self, bI_0, bI_1, bI_01, Bool.false_eq_true, reduceCtorEq]
          exact h650 (fun hh => by rcases hfl.mpr hh with q | q; exact hno q; exact hb q.2)
    by_cases hn0 : name < 0
    · simp only [u_M_readStep_596, u_M_readStep_599, u_M_readStep_600, u_M_readStep_601, u_M_readStep_603, ne_eq, not_false_eq_true, not_true_eq_false, true_and, and_true, true_or, or_true, eq_self, Option.toList_some, Option.toList_none, List.cons_append, List.nil_append, tc_0, tc_I, tc_L, tc_A, Nat.reduceAdd, Nat.reduceLeDiff, Nat.reduceEqDiff, Int.reduceEq, Int.reduceLT, Int.reduceLE, Int.reduceNeg, Int.reduceToNat, Int.cast_ofNat_Int, if_true, if_false, and_self, or_self, ite_self, bI_0, bI_1, bI_01, Bool.false_eq_true, reduceCtorEq, hn0]
      exact h625 (fun q => by omega)
    · by_cases hm1 : more = 1
      · subst hm1
        simp only [u_M_readStep_596, u_M_readStep_599, u_M_readStep_600, u_M_readStep_601, u_M_readStep_603, u_M_readStep_606, u_M_readStep_608, u_M_readStep_609, u_M_readStep_612, u_M_readStep_613, u_M_readStep_616, u_M_readStep_618, u_M_readStep_619, u_M_readStep_620, u_M_readStep_621, u_M_readStep_622, ne_eq, not_false_eq_true, not_true_eq_false, true_and, and_true, true_or, or_true, eq_self, Option.toList_some, Option.toList_none, List.cons_append, List.nil_append, tc_0, tc_I, tc_L, tc_A, Nat.reduceAdd, Nat.reduceLeDiff, Nat.reduceEqDiff, Int.reduceEq, Int.reduceLT, Int.reduceLE, Int.reduceNeg, Int.reduceToNat, Int.cast_ofNat_Int, if_true, if_false, and_self, or_self, ite_self, bI_0, bI_1, bI_01, Bool.false_eq_true, reduceCtorEq, hn0, h1_156, gt_156_14, hN.1, hbn (by omega), bB_1]
        by_cases hb : N.testBit name.toNat = true
        · simp only [hb, ne_eq, not_false_eq_true, not_true_eq_false, true_and, and_true, true_or, or_true, eq_self, Option.toList_some, Option.toList_none, List.cons_append, List.nil_append, tc_0, tc_I, tc_L, tc_A, Nat.reduceAdd, Nat.reduceLeDiff, Nat.reduceEqDiff, Int.reduceEq, Int.reduceLT, Int.reduceLE, Int.reduceNeg, Int.reduceToNat, Int.cast_ofNat_Int, if_true, if_false, and_self, or_self, ite_self, bI_0, bI_1, bI_01, Bool.false_eq_true, reduceCtorEq]
          exact h643 (hfl.mp (Or.inl ⟨by omega, rfl, hb⟩))
        · simp only [hb, ne_eq, not_false_eq_true, not_true_eq_false, true_and, and_true, true_or, or_true, eq_self, Option.toList_some, Option.toList_none, List.cons_append, List.nil_append, tc_0, tc_I, tc_L, tc_A, Nat.reduceAdd, Nat.reduceLeDiff, Nat.reduceEqDiff, Int.reduceEq, Int.reduceLT, Int.reduceLE, Int.reduceNeg, Int.reduceToNat, Int.cast_ofNat_Int, if_true, if_false, and_self, or_self, ite_self, bI_0, bI_1, bI_01, Bool.false_eq_true, reduceCtorEq]
          exact h625 (fun q => hb q.2.2)
      · simp only [u_M_readStep_596, u_M_readStep_599, u_M_readStep_600, u_M_readStep_601, u_M_readStep_603, u_M_readStep_606, u_M_readStep_608, u_M_readStep_609, u_M_readStep_612, u_M_readStep_613, u_M_readStep_616, u_M_readStep_618, u_M_readStep_619, u_M_readStep_620, u_M_readStep_621, u_M_readStep_622, ne_eq, not_false_eq_true, not_true_eq_false, true_and, and_true, true_or, or_true, eq_self, Option.toList_some, Option.toList_none, List.cons_append, List.nil_append, tc_0, tc_I, tc_L, tc_A, Nat.reduceAdd, Nat.reduceLeDiff, Nat.reduceEqDiff, Int.reduceEq, Int.reduceLT, Int.reduceLE, Int.reduceNeg, Int.reduceToNat, Int.cast_ofNat_Int, if_true, if_false, and_self, or_self, ite_self, bI_0, bI_1, bI_01, Bool.false_eq_true, reduceCtorEq, hn0, hm1]
        exact h625 (fun q => hm1 q.2.1)
  · rw [if_neg e] at hQ
    simp only [u_M_readStep_596, u_M_readStep_599, u_M_readStep_600, ne_eq, not_false_eq_true, not_true_eq_false, true_and, and_true, true_or, or_true, eq_self, Option.toList_some, Option.toList_none, List.cons_append, List.nil_append, tc_0, tc_I, tc_L, tc_A, Nat.reduceAdd, Nat.reduceLeDiff, Nat.reduceEqDiff, Int.reduceEq, Int.reduceLT, Int.reduceLE, Int.reduceNeg, Int.reduceToNat, Int.cast_ofNat_Int, if_true, if_false, and_self, or_self, ite_self, bI_0, bI_1, bI_01, Bool.false_eq_true, reduceCtorEq]
    exact hQ g2 (FS_FE hF a) b c
end
