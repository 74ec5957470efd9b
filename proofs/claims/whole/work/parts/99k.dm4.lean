/-! Doing a step, the reference: changes -/
/-- the place that was found, as the reference keeps it -/
def PlM (g : Mem) : Pl → Prop
  | .inl k => g 156 51 = k ∧ g 156 52 = -1
  | .inr (r, i) => g 156 52 = g 175 r.toNat ∧ g 156 53 = i
section
variable {L d r len c q : Nat} {F f f' t g : Mem} {T : Int → Int} {Q : Option TV → Wd → Prop} {TH : Nat} {o b j m x v code : Int} {pl : Pl}
theorem OkP_R (hS : RSt f g TH) {r i : Int} (h : OkP f (.inr (r, i))) : 0 ≤ r ∧ r < 6 ∧ 0 ≤ g 175 r.toNat ∧ g 175 r.toNat < 15 ∧ f 31 (f 29 r.toNat).toNat = g 176 (g 175 r.toNat).toNat ∧ f (34 + (f 29 r.toNat).toNat) i.toNat = g 178 (12 * (g 175 r.toNat).toNat + i.toNat) ∧ 0 ≤ i ∧ i < 12 := by
  obtain ⟨a1, a2, a3, a4, a5, a6, a7, a8, a9⟩ := h
  have hrr := hS.rw r.toNat (by omega)
  rw [hC_r (by omega)] at hrr
  have hrr := hrr.resolve_left (fun x => by omega)
  exact ⟨a1, a2, hrr.2.2.1, hrr.2.2.2.1, hrr.2.2.2.2.1, hrr.2.2.2.2.2.2.2 i.toNat (by omega), a5, by omega⟩
theorem p_M_gives (hS : RSt f g TH) (hok : OkP f pl) (hp : PlM g pl) (hx : match pl with
    | .inl _ => w32 x = w32 v
    | .inr (r, _) => x = cutI (f 31 (f 29 r.toNat).toNat) v) (hQ : ∀ g', FZ g g' → (∀ j, g' 156 j = g 156 j) → (∀ k, g' 175 k = g 175 k) → (∀ k, g' 176 k = g 176 k) → RSt (stP f v pl) g' TH → Q none (WW F t g')) : VV L d m_M_gives 0 [some (tA 156), some (tL x), none] [] (WW F t g) Q := by
  match pl, hok, hp, hx, hQ with
  | .inl k, hok, hp, hx, hQ =>
    have hk : 0 ≤ k ∧ k < 26 := ⟨hok.1, hok.2.1⟩
    have hx : w32 x = w32 v := hx
    simp only [u_M_gives_0, u_M_gives_1, u_M_gives_4, u_M_gives_7, u_M_gives_8, u_M_gives_11, u_M_gives_12, u_M_gives_15, u_M_gives_16, u_M_gives_17, u_M_gives_18, u_M_gives_21, u_M_gives_22, u_M_gives_25, u_M_gives_27, u_M_gives_28, u_M_gives_31, u_M_gives_32, u_M_gives_33, u_M_gives_36, u_M_gives_37, u_M_gives_38, u_M_gives_39, h1_156, gt_156_52, pt_156_52, gt_156_36, h1_174, h2_174, gt_174, pt_174, gt_156_51, pt_156_51, gt_156_41, h1_178, h2_178, gt_178, pt_178, gt_156_53, pt_156_53, ne_eq, not_false_eq_true, not_true_eq_false, true_and, and_true, true_or, or_true, eq_self, Option.toList_some, Option.toList_none, List.cons_append, List.nil_append, tc_0, tc_I, tc_L, tc_A, Nat.reduceAdd, Nat.reduceLeDiff, Nat.reduceEqDiff, Int.reduceEq, Int.reduceLT, Int.reduceLE, Int.reduceNeg, Int.reduceToNat, Int.cast_ofNat_Int, if_true, if_false, and_self, or_self, ite_self, bI_0, bI_1, bI_01, Bool.false_eq_true, reduceCtorEq, hp.1, hp.2, hk, hx]
    refine hQ _ (FZ_m (by omega)) (fun j => by rw [rd, if_neg (by omega)]) (fun j => by rw [rd, if_neg (by omega)]) (fun j => by rw [rd, if_neg (by omega)]) ?_
    exact RSt_val hS (by omega) hok.2.2
  | .inr (r, i), hok, hp, hx, hQ =>
    obtain ⟨a1, a2, a3, a4, a5, a6, a7, a8⟩ := OkP_R hS hok
    have hx : x = cutI (f 31 (f 29 r.toNat).toNat) v := hx
    have w1 : w32 (12 * g 175 r.toNat) = 12 * g 175 r.toNat := w32_id (by omega) (by omega)
    have w2 : w32 (12 * g 175 r.toNat + i) = 12 * g 175 r.toNat + i := w32_id (by omega) (by omega)
    have ix : (12 * g 175 r.toNat + i).toNat = 12 * (g 175 r.toNat).toNat + i.toNat := by omega
    simp only [u_M_gives_0, u_M_gives_1, u_M_gives_4, u_M_gives_7, u_M_gives_8, u_M_gives_11, u_M_gives_12, u_M_gives_15, u_M_gives_16, u_M_gives_17, u_M_gives_18, u_M_gives_21, u_M_gives_22, u_M_gives_25, u_M_gives_27, u_M_gives_28, u_M_gives_31, u_M_gives_32, u_M_gives_33, u_M_gives_36, u_M_gives_37, u_M_gives_38, u_M_gives_39, h1_156, gt_156_52, pt_156_52, gt_156_36, h1_174, h2_174, gt_174, pt_174, gt_156_51, pt_156_51, gt_156_41, h1_178, h2_178, gt_178, pt_178, gt_156_53, pt_156_53, ne_eq, not_false_eq_true, not_true_eq_false, true_and, and_true, true_or, or_true, eq_self, Option.toList_some, Option.toList_none, List.cons_append, List.nil_append, tc_0, tc_I, tc_L, tc_A, Nat.reduceAdd, Nat.reduceLeDiff, Nat.reduceEqDiff, Int.reduceEq, Int.reduceLT, Int.reduceLE, Int.reduceNeg, Int.reduceToNat, Int.cast_ofNat_Int, if_true, if_false, and_self, or_self, ite_self, bI_0, bI_1, bI_01, Bool.false_eq_true, reduceCtorEq, hp.1, hp.2, a3, w1, w2, show 0 ≤ 12 * g 175 r.toNat + i by omega, show 12 * g 175 r.toNat + i < 192 by omega, ix]
    refine hQ _ (FZ_m (by omega)) (fun j => by rw [rd, if_neg (by omega)]) (fun j => by rw [rd, if_neg (by omega)]) (fun j => by rw [rd, if_neg (by omega)]) ?_
    have h29 : hC f r.toNat = f 29 r.toNat := hC_r (by omega)
    have hI := RSt_item (h := r.toNat) (i := i.toNat) (v := cutI (f 31 (f 29 r.toNat).toNat) v) hS (by omega) (by rw [h29]; exact hok.2.2.1) (by omega)
    rw [h29] at hI
    rw [hx]
    exact hI
def sgM (op : Int) : Int := if op = 128 then 0 else if op = 129 then 1 else if op = 132 then 2 else if op = 130 then 4 else 5
/-- what the reference comes to before it cuts -/
def toM (op k v e : Int) : Int := if op = 128 then w64 (v + e) else if op = 129 then w64 (v - e) else if op = 132 then o64 (fun x y => x ^^^ y) v e else if op = 130 then (if e % bits k = 0 then v else cutI k (rotI v (e % bits k) (bits k))) else (if -e % bits k = 0 then v else cutI k (rotI v (-e % bits k) (bits k)))
theorem toM_cut {op k e : Int} : cutI k (toM op k v e) = cutI k (chgI op v e (bits k)) := by
  unfold toM chgI
  by_cases h1 : op = 128
  · rw [if_pos h1, if_pos h1]
  · rw [if_neg h1, if_neg h1]
    by_cases h2 : op = 129
    · rw [if_pos h2, if_pos h2]
    · rw [if_neg h2, if_neg h2]
      by_cases h3 : op = 132
      · rw [if_pos h3, if_pos h3]
      · rw [if_neg h3, if_neg h3]
        by_cases h4 : op = 130
        · rw [if_pos h4, if_pos h4]
          by_cases z : e % bits k = 0
          · rw [if_pos z]; unfold rotI; rw [if_pos z]
          · rw [if_neg z, cut_cut]
        · rw [if_neg h4, if_neg h4]
          by_cases z : -e % bits k = 0
          · rw [if_pos z]; unfold rotI; rw [if_pos z]
          · rw [if_neg z, cut_cut]
theorem p_M_doChange {op : Int} (hR : RT g r T len) (hS : RSt f g TH) (hq : q < 40) (ho : g 168 (40 * r + q) = o) (he9 : g 169 (40 * r + q) = b) (ho0 : 0 ≤ o) (hop : 128 ≤ op ∧ op ≤ 132) (p : PP c) (hp : wP p) (hsp : seg T o m (kP p)) (e : EE c) (he : wX e) (hb : 0 ≤ b) (hK : ¬ kEnd (T (b - 1)) = true) (hs : seg T b j (kX e)) (hj : T j = 59) (hSt : ChC f op p e code f') (hQ : ∀ g' TH', FZ g g' → RSt f' g' TH' → Q (some (tI code)) (WW F t g')) : VV L (d + 3 * c + 8) m_M_doChange 0 [some (tA 156), some (tI r), some (tI (40 * (r : Int) + q)), some (tI (sgM op)), none, none, none, none, none, none, none] [] (WW F t g) Q := by
  have hr := hR.r10
  obtain ⟨i1, i2, i3⟩ := ix_o hr hq ho
  have i4 := ix_e hr hq he9
  have hlm0 : hlm (sn0 g) = hlm g := by funext z; exact FY_0 175 _ (by omega)
  have hs3 : ¬ sgM op = 3 := by unfold sgM; (repeat' split) <;> omega
  simp only [u_M_doChange_0, u_M_doChange_1, u_M_doChange_4, u_M_doChange_5, u_M_doChange_6, u_M_doChange_7, u_M_doChange_10, u_M_doChange_11, u_M_doChange_12, h1_156, gt_156_29, h1_168, h2_168, gt_168, pt_168, ne_eq, not_false_eq_true, not_true_eq_false, true_and, and_true, true_or, or_true, eq_self, Option.toList_some, Option.toList_none, List.cons_append, List.nil_append, tc_0, tc_I, tc_L, tc_A, Nat.reduceAdd, Nat.reduceLeDiff, Nat.reduceEqDiff, Int.reduceEq, Int.reduceLT, Int.reduceLE, Int.reduceNeg, Int.reduceToNat, Int.cast_ofNat_Int, if_true, if_false, and_self, or_self, ite_self, bI_0, bI_1, bI_01, Bool.false_eq_true, reduceCtorEq, s_M_seeNothing, i1, i2, i3]
  refine p_M_findP (D := d + 3 * c + 3) (by omega) p hp (RT_s0 hR) (EnM_0 hS) WM_0 ho0 hsp ?_
  unfold ChC at hSt
  cases hv : vP (envC f brN) p with
  | error w =>
    rw [hv] at hSt
    intro g1 a1 a2 a3
    simp only [u_M_doChange_15, u_M_doChange_16, u_M_doChange_19, u_M_doChange_22, u_M_doChange_23, u_M_doChange_26, h1_156, gt_156_46, ne_eq, not_false_eq_true, not_true_eq_false, true_and, and_true, true_or, or_true, eq_self, Option.toList_some, Option.toList_none, List.cons_append, List.nil_append, tc_0, tc_I, tc_L, tc_A, Nat.reduceAdd, Nat.reduceLeDiff, Nat.reduceEqDiff, Int.reduceEq, Int.reduceLT, Int.reduceLE, Int.reduceNeg, Int.reduceToNat, Int.cast_ofNat_Int, if_true, if_false, and_self, or_self, ite_self, bI_0, bI_1, bI_01, Bool.false_eq_true, reduceCtorEq, a2, a3]
    rw [← hSt.1]
    have hy := FY_tr FY_0 (FY_P a1)
    exact hQ _ TH (FZ_Y hy) (RSt_fr hS hSt.2.2 hy)
  | ok z =>
    obtain ⟨pl, q1⟩ := z
    rw [hv] at hSt
    dsimp only at hSt
    have hok := vP_ok hS p hp hv
    have hqo := vP_qo p hp hv
    intro g1 a1 a2 a3 a4
    have hy := FY_tr FY_0 (FY_P a1)
    rw [hlm0] at a3
    have hS1 : RSt f g1 TH := RSt_fr hS FX_refl hy
    have hplM : PlM g1 pl := by
      match pl, a4 with
      | .inl k, a4 => exact a4
      | .inr (r', i'), a4 =>
        refine ⟨?_, a4.2.2⟩
        rw [a4.2.1, FY_0 175 _ (by omega), hy 175 _ (by omega)]
    have e169 : ∀ g2, FY g g2 → g2 169 (40 * (r : Int) + q).toNat = b := fun g2 h2 => by
      rw [show (40 * (r : Int) + q).toNat = 40 * r + q by omega, h2 169 _ (by omega)]; exact he9
    have h69 : ¬ (isN pl = false ∧ rdP f (snN 0 q1) (snI (hld f) (fun _ => 0) q1) pl = true) → VV L (d + 3 * c + 8) m_M_doChange 69 [some (tA 156), some (tI r), some (tI (40 * (r : Int) + q)), some (tI (sgM op)), none, none, none, none, none, none, none] [] (WW F t g1) Q := by
      intro hno
      rw [if_neg hno] at hSt
      generalize hg2 : mset (mset g1 156 49 (g1 156 52)) 156 50 (g1 156 53) = g2
      have e53 : (mset g1 156 49 (g1 156 52)) 156 53 = g1 156 53 := by rw [rd, if_neg (by omega)]
      have hy2 : FY g1 g2 := fun b j hh => by rw [← hg2, rd, if_neg (by omega), rd, if_neg (by omega)]
      have hyg := FY_tr hy hy2
      have v49 : g2 156 49 = g1 156 52 := by rw [← hg2, rd, if_neg (by omega), rd, if_pos (by simp)]
      have v50 : g2 156 50 = g1 156 53 := by rw [← hg2, rd, if_pos (by simp)]
      have hW2 : WM g2 (snN 0 q1) (snI (hlm g) (fun _ => 0) q1) := by rw [← hg2]; exact WM_m (WM_m a3 (by omega)) (by omega)
      have hE2 : EnM g2 (envC f (brP f pl)) TH := EnM_env hS hyg (fun r0 i0 hr0 h00 hi0 => by
        have hrr := hS.rw r0 (by omega)
        rw [hC_r hr0] at hrr
        have hrr := hrr.resolve_left (fun x => by omega)
        rw [v49, v50]
        match pl, hplM, hok with
        | .inl k, hplM, hok =>
          show false = _
          rw [eq_comm, decide_eq_false_iff_not, hplM.2]
          intro hh; have := hh.1; omega
        | .inr (r', i'), hplM, hok =>
          obtain ⟨b1, b2, b3, b4, b5, b6, b7, b8⟩ := OkP_R hS hok
          show decide (f 29 ((r0 : Int)).toNat = f 29 r'.toNat ∧ (i0 : Int) = i') = _
          rw [Int.toNat_natCast, decide_eq_decide, hplM.1, hplM.2, hy 175 _ (by omega)]
          have hinj := hS.inj r0 r'.toNat (by omega) (by omega) (by rw [hC_r hr0]; exact h00) (by rw [hC_r (by omega)]; exact hok.2.2.1)
          rw [hC_r hr0, hC_r (by omega)] at hinj
          rw [hinj]
          exact ⟨fun hh => ⟨hh.1.symm, hh.2.symm⟩, fun hh => ⟨hh.1.symm, hh.2.symm⟩⟩)
      have hR2 : RT g2 r T len := RT_fr2 hR (fun c k h1 h2 => hyg c k (by omega))
      simp only [u_M_doChange_69, u_M_doChange_70, u_M_doChange_71, u_M_doChange_74, u_M_doChange_77, u_M_doChange_78, u_M_doChange_79, u_M_doChange_82, u_M_doChange_85, u_M_doChange_86, u_M_doChange_87, u_M_doChange_88, u_M_doChange_91, u_M_doChange_92, u_M_doChange_93, h1_156, gt_156_52, gt_156_53, pt_156_49, pt_156_50, gt_156_30, h1_169, h2_169, gt_169, pt_169, ne_eq, not_false_eq_true, not_true_eq_false, true_and, and_true, true_or, or_true, eq_self, Option.toList_some, Option.toList_none, List.cons_append, List.nil_append, tc_0, tc_I, tc_L, tc_A, Nat.reduceAdd, Nat.reduceLeDiff, Nat.reduceEqDiff, Int.reduceEq, Int.reduceLT, Int.reduceLE, Int.reduceNeg, Int.reduceToNat, Int.cast_ofNat_Int, if_true, if_false, and_self, or_self, ite_self, bI_0, bI_1, bI_01, Bool.false_eq_true, reduceCtorEq, e53, hg2, i1, i2, e169 g2 hyg]
      refine p_M_reckon (D := d + 3 * c + 4) (by omega) e he hR2 hE2 hW2 hb hK hs (by rw [hj]; decide) (by rw [hj]; decide) ?_
      cases hv2 : vE (vF (envC f (brP f pl)) c) e with
      | error w =>
        rw [hv2] at hSt
        intro g3 u b1 b2 b3
        have f46 : (mset g3 156 49 (-1)) 156 46 = w := by rw [rd, if_neg (by omega)]; exact b2
        simp only [u_M_doChange_96, u_M_doChange_98, u_M_doChange_99, u_M_doChange_100, u_M_doChange_103, u_M_doChange_104, u_M_doChange_107, u_M_doChange_110, u_M_doChange_111, u_M_doChange_114, h1_156, pt_156_49, gt_156_46, ne_eq, not_false_eq_true, not_true_eq_false, true_and, and_true, true_or, or_true, eq_self, Option.toList_some, Option.toList_none, List.cons_append, List.nil_append, tc_0, tc_I, tc_L, tc_A, Nat.reduceAdd, Nat.reduceLeDiff, Nat.reduceEqDiff, Int.reduceEq, Int.reduceLT, Int.reduceLE, Int.reduceNeg, Int.reduceToNat, Int.cast_ofNat_Int, if_true, if_false, and_self, or_self, ite_self, bI_0, bI_1, bI_01, Bool.false_eq_true, reduceCtorEq, f46, b3]
        rw [← hSt.1]
        have hy3 : FY g (mset g3 156 49 (-1)) := FY_tr hyg (FY_tr (FY_5 b1) (fun b j hh => by rw [rd, if_neg (by omega)]))
        exact hQ _ TH (FZ_Y hy3) (RSt_fr hS hSt.2.2 hy3)
      | ok z =>
        obtain ⟨v, q2⟩ := z
        rw [hv2] at hSt
        obtain ⟨hc0, hfx⟩ := hSt
        subst hc0
        intro g3 b1 b2 b3
        generalize hg4 : mset g3 156 49 (-1) = g4
        have hy4 : FY g g4 := FY_tr hyg (FY_tr (FY_5 b1) (fun b j hh => by rw [← hg4, rd, if_neg (by omega)]))
        have f46 : g4 156 46 = 0 := by rw [← hg4, rd, if_neg (by omega)]; exact b2
        have keep : ∀ z, 51 ≤ z → z ≤ 53 → g4 156 z = g1 156 z := fun z z1 z2 => by
          rw [← hg4, rd, if_neg (by omega), b1 156 z (by omega), ← hg2, rd, if_neg (by omega), rd, if_neg (by omega)]
        have hS4 : RSt f g4 TH := RSt_fr hS FX_refl hy4
        have hpl4 : PlM g4 pl := by
          match pl, hplM with
          | .inl k, hplM => exact ⟨by rw [keep 51 (by omega) (by omega)]; exact hplM.1, by rw [keep 52 (by omega) (by omega)]; exact hplM.2⟩
          | .inr (r', i'), hplM =>
            refine ⟨?_, by rw [keep 53 (by omega) (by omega)]; exact hplM.2⟩
            rw [keep 52 (by omega) (by omega), hplM.1, hy 175 _ (by omega), hy4 175 _ (by omega)]
        have hkd : 0 ≤ kdP f pl ∧ kdP f pl ≤ 4 := by
          match pl, hok with
          | .inl k, hok => exact ⟨by show (0 : Int) ≤ 0; omega, by show (0 : Int) ≤ 4; omega⟩
          | .inr (r', i'), hok => exact ⟨hok.2.2.2.2.2.2.2.1, hok.2.2.2.2.2.2.2.2⟩
        have hfin : VV L (d + 3 * c + 8) m_M_doChange 244 [some (tA 156), some (tI r), some (tI (40 * (r : Int) + q)), some (tI (sgM op)), some (tL v), none, some (tI (kdP f pl)), some (tL (ldP f pl)), none, some (tL (toM op (kdP f pl) (ldP f pl) v)), none] [] (WW F t g4) Q := by
          simp only [u_M_doChange_244, u_M_doChange_245, u_M_doChange_247, u_M_doChange_249, u_M_doChange_252, h1_156, ne_eq, not_false_eq_true, not_true_eq_false, true_and, and_true, true_or, or_true, eq_self, Option.toList_some, Option.toList_none, List.cons_append, List.nil_append, tc_0, tc_I, tc_L, tc_A, Nat.reduceAdd, Nat.reduceLeDiff, Nat.reduceEqDiff, Int.reduceEq, Int.reduceLT, Int.reduceLE, Int.reduceNeg, Int.reduceToNat, Int.cast_ofNat_Int, if_true, if_false, and_self, or_self, ite_self, bI_0, bI_1, bI_01, Bool.false_eq_true, reduceCtorEq, s_M_cut hkd.1 hkd.2, toM_cut]
          refine p_M_gives (v := chgI op (ldP f pl) v (bits (kdP f pl))) hS4 hok hpl4 ?_ (fun g5 z1 z2 z3 z4 z5 => ?_)
          · match pl with
            | .inl k => show w32 (cutI 0 _) = _; unfold cutI; rw [if_pos rfl]; exact w32_w32
            | .inr (r', i') => rfl
          · simp only [u_M_doChange_255, u_M_doChange_256, ne_eq, not_false_eq_true, not_true_eq_false, true_and, and_true, true_or, or_true, eq_self, Option.toList_some, Option.toList_none, List.cons_append, List.nil_append, tc_0, tc_I, tc_L, tc_A, Nat.reduceAdd, Nat.reduceLeDiff, Nat.reduceEqDiff, Int.reduceEq, Int.reduceLT, Int.reduceLE, Int.reduceNeg, Int.reduceToNat, Int.cast_ofNat_Int, if_true, if_false, and_self, or_self, ite_self, bI_0, bI_1, bI_01, Bool.false_eq_true, reduceCtorEq]
            exact hQ _ TH (FZ_tr (FZ_Y hy4) z1) (RSt_fr z5 hfx FY_refl)
        have h176 : VV L (d + 3 * c + 8) m_M_doChange 176 [some (tA 156), some (tI r), some (tI (40 * (r : Int) + q)), some (tI (sgM op)), some (tL v), none, some (tI (kdP f pl)), some (tL (ldP f pl)), none, none, none] [] (WW F t g4) Q := by
          have b4 := bits_4 (k := kdP f pl)
          have hbn : ¬ bits (kdP f pl) = 0 := by omega
          have nm := neg_mod (e := v) b4
          have hop5 : op = 128 ∨ op = 129 ∨ op = 130 ∨ op = 131 ∨ op = 132 := by omega
          rcases hop5 with rfl | rfl | rfl | rfl | rfl
          · simp only [sgM, toM, Int.reduceEq, if_true, if_false] at hfin ⊢
            simp only [u_M_doChange_176, u_M_doChange_177, u_M_doChange_180, u_M_doChange_182, u_M_doChange_184, u_M_doChange_185, u_M_doChange_188, u_M_doChange_189, u_M_doChange_190, u_M_doChange_193, u_M_doChange_195, u_M_doChange_197, u_M_doChange_198, u_M_doChange_201, u_M_doChange_202, u_M_doChange_203, u_M_doChange_206, u_M_doChange_208, u_M_doChange_210, u_M_doChange_211, u_M_doChange_214, u_M_doChange_216, u_M_doChange_218, u_M_doChange_219, u_M_doChange_220, u_M_doChange_223, u_M_doChange_225, u_M_doChange_228, u_M_doChange_229, u_M_doChange_231, u_M_doChange_233, u_M_doChange_236, u_M_doChange_237, u_M_doChange_238, u_M_doChange_239, u_M_doChange_242, ne_eq, not_false_eq_true, not_true_eq_false, true_and, and_true, true_or, or_true, eq_self, Option.toList_some, Option.toList_none, List.cons_append, List.nil_append, tc_0, tc_I, tc_L, tc_A, Nat.reduceAdd, Nat.reduceLeDiff, Nat.reduceEqDiff, Int.reduceEq, Int.reduceLT, Int.reduceLE, Int.reduceNeg, Int.reduceToNat, Int.cast_ofNat_Int, if_true, if_false, and_self, or_self, ite_self, bI_0, bI_1, bI_01, Bool.false_eq_true, reduceCtorEq]
            exact hfin
          · simp only [sgM, toM, Int.reduceEq, if_true, if_false] at hfin ⊢
            simp only [u_M_doChange_176, u_M_doChange_177, u_M_doChange_180, u_M_doChange_182, u_M_doChange_184, u_M_doChange_185, u_M_doChange_188, u_M_doChange_189, u_M_doChange_190, u_M_doChange_193, u_M_doChange_195, u_M_doChange_197, u_M_doChange_198, u_M_doChange_201, u_M_doChange_202, u_M_doChange_203, u_M_doChange_206, u_M_doChange_208, u_M_doChange_210, u_M_doChange_211, u_M_doChange_214, u_M_doChange_216, u_M_doChange_218, u_M_doChange_219, u_M_doChange_220, u_M_doChange_223, u_M_doChange_225, u_M_doChange_228, u_M_doChange_229, u_M_doChange_231, u_M_doChange_233, u_M_doChange_236, u_M_doChange_237, u_M_doChange_238, u_M_doChange_239, u_M_doChange_242, ne_eq, not_false_eq_true, not_true_eq_false, true_and, and_true, true_or, or_true, eq_self, Option.toList_some, Option.toList_none, List.cons_append, List.nil_append, tc_0, tc_I, tc_L, tc_A, Nat.reduceAdd, Nat.reduceLeDiff, Nat.reduceEqDiff, Int.reduceEq, Int.reduceLT, Int.reduceLE, Int.reduceNeg, Int.reduceToNat, Int.cast_ofNat_Int, if_true, if_false, and_self, or_self, ite_self, bI_0, bI_1, bI_01, Bool.false_eq_true, reduceCtorEq]
            exact hfin
          · simp only [sgM, toM, Int.reduceEq, if_true, if_false] at hfin ⊢
            simp only [u_M_doChange_176, u_M_doChange_177, u_M_doChange_180, u_M_doChange_182, u_M_doChange_184, u_M_doChange_185, u_M_doChange_188, u_M_doChange_189, u_M_doChange_190, u_M_doChange_193, u_M_doChange_195, u_M_doChange_197, u_M_doChange_198, u_M_doChange_201, u_M_doChange_202, u_M_doChange_203, u_M_doChange_206, u_M_doChange_208, u_M_doChange_210, u_M_doChange_211, u_M_doChange_214, u_M_doChange_216, u_M_doChange_218, u_M_doChange_219, u_M_doChange_220, u_M_doChange_223, u_M_doChange_225, u_M_doChange_228, u_M_doChange_229, u_M_doChange_231, u_M_doChange_233, u_M_doChange_236, u_M_doChange_237, u_M_doChange_238, u_M_doChange_239, u_M_doChange_242, ne_eq, not_false_eq_true, not_true_eq_false, true_and, and_true, true_or, or_true, eq_self, Option.toList_some, Option.toList_none, List.cons_append, List.nil_append, tc_0, tc_I, tc_L, tc_A, Nat.reduceAdd, Nat.reduceLeDiff, Nat.reduceEqDiff, Int.reduceEq, Int.reduceLT, Int.reduceLE, Int.reduceNeg, Int.reduceToNat, Int.cast_ofNat_Int, if_true, if_false, and_self, or_self, ite_self, bI_0, bI_1, bI_01, Bool.false_eq_true, reduceCtorEq, s_M_turned hkd.1 hkd.2 rfl]
            exact hfin
          · simp only [sgM, toM, Int.reduceEq, if_true, if_false] at hfin ⊢
            simp only [u_M_doChange_176, u_M_doChange_177, u_M_doChange_180, u_M_doChange_182, u_M_doChange_184, u_M_doChange_185, u_M_doChange_188, u_M_doChange_189, u_M_doChange_190, u_M_doChange_193, u_M_doChange_195, u_M_doChange_197, u_M_doChange_198, u_M_doChange_201, u_M_doChange_202, u_M_doChange_203, u_M_doChange_206, u_M_doChange_208, u_M_doChange_210, u_M_doChange_211, u_M_doChange_214, u_M_doChange_216, u_M_doChange_218, u_M_doChange_219, u_M_doChange_220, u_M_doChange_223, u_M_doChange_225, u_M_doChange_228, u_M_doChange_229, u_M_doChange_231, u_M_doChange_233, u_M_doChange_236, u_M_doChange_237, u_M_doChange_238, u_M_doChange_239, u_M_doChange_242, ne_eq, not_false_eq_true, not_true_eq_false, true_and, and_true, true_or, or_true, eq_self, Option.toList_some, Option.toList_none, List.cons_append, List.nil_append, tc_0, tc_I, tc_L, tc_A, Nat.reduceAdd, Nat.reduceLeDiff, Nat.reduceEqDiff, Int.reduceEq, Int.reduceLT, Int.reduceLE, Int.reduceNeg, Int.reduceToNat, Int.cast_ofNat_Int, if_true, if_false, and_self, or_self, ite_self, bI_0, bI_1, bI_01, Bool.false_eq_true, reduceCtorEq, s_M_bitsOf, hbn, s_M_turned hkd.1 hkd.2 rfl, nm]
            exact hfin
          · simp only [sgM, toM, Int.reduceEq, if_true, if_false] at hfin ⊢
            simp only [u_M_doChange_176, u_M_doChange_177, u_M_doChange_180, u_M_doChange_182, u_M_doChange_184, u_M_doChange_185, u_M_doChange_188, u_M_doChange_189, u_M_doChange_190, u_M_doChange_193, u_M_doChange_195, u_M_doChange_197, u_M_doChange_198, u_M_doChange_201, u_M_doChange_202, u_M_doChange_203, u_M_doChange_206, u_M_doChange_208, u_M_doChange_210, u_M_doChange_211, u_M_doChange_214, u_M_doChange_216, u_M_doChange_218, u_M_doChange_219, u_M_doChange_220, u_M_doChange_223, u_M_doChange_225, u_M_doChange_228, u_M_doChange_229, u_M_doChange_231, u_M_doChange_233, u_M_doChange_236, u_M_doChange_237, u_M_doChange_238, u_M_doChange_239, u_M_doChange_242, ne_eq, not_false_eq_true, not_true_eq_false, true_and, and_true, true_or, or_true, eq_self, Option.toList_some, Option.toList_none, List.cons_append, List.nil_append, tc_0, tc_I, tc_L, tc_A, Nat.reduceAdd, Nat.reduceLeDiff, Nat.reduceEqDiff, Int.reduceEq, Int.reduceLT, Int.reduceLE, Int.reduceNeg, Int.reduceToNat, Int.cast_ofNat_Int, if_true, if_false, and_self, or_self, ite_self, bI_0, bI_1, bI_01, Bool.false_eq_true, reduceCtorEq]
            exact hfin
        match pl, hok, hpl4, h176 with
        | .inl k, hok, hpl4, h176 =>
          have hk : 0 ≤ k ∧ k < 26 := ⟨hok.1, hok.2.1⟩
          have hval : g4 174 k.toNat = f 21 k.toNat := by
            rcases hS4.nm k.toNat (by omega) with x | x
            · have := hok.2.2; omega
            · exact x.2.2.symm
          simp only [u_M_doChange_96, u_M_doChange_98, u_M_doChange_99, u_M_doChange_100, u_M_doChange_103, u_M_doChange_104, u_M_doChange_107, u_M_doChange_110, u_M_doChange_111, u_M_doChange_114, u_M_doChange_115, u_M_doChange_116, u_M_doChange_119, u_M_doChange_122, u_M_doChange_123, u_M_doChange_126, u_M_doChange_127, u_M_doChange_130, u_M_doChange_131, u_M_doChange_134, u_M_doChange_135, u_M_doChange_137, u_M_doChange_138, u_M_doChange_141, u_M_doChange_144, u_M_doChange_145, u_M_doChange_148, u_M_doChange_149, u_M_doChange_152, u_M_doChange_153, u_M_doChange_154, u_M_doChange_157, u_M_doChange_158, u_M_doChange_161, u_M_doChange_163, u_M_doChange_164, u_M_doChange_167, u_M_doChange_168, u_M_doChange_169, u_M_doChange_172, u_M_doChange_173, u_M_doChange_174, h1_156, pt_156_49, gt_156_46, gt_156_52, gt_156_51, gt_156_36, h1_174, h2_174, gt_174, pt_174, ne_eq, not_false_eq_true, not_true_eq_false, true_and, and_true, true_or, or_true, eq_self, Option.toList_some, Option.toList_none, List.cons_append, List.nil_append, tc_0, tc_I, tc_L, tc_A, Nat.reduceAdd, Nat.reduceLeDiff, Nat.reduceEqDiff, Int.reduceEq, Int.reduceLT, Int.reduceLE, Int.reduceNeg, Int.reduceToNat, Int.cast_ofNat_Int, if_true, if_false, and_self, or_self, ite_self, bI_0, bI_1, bI_01, Bool.false_eq_true, reduceCtorEq, hg4, f46, hpl4.2, hpl4.1, hk, hval]
          exact h176
        | .inr (r', i'), hok, hpl4, h176 =>
          obtain ⟨c1, c2, c3, c4, c5, c6, c7, c8⟩ := OkP_R hS4 hok
          have w1 : w32 (12 * g4 175 r'.toNat) = 12 * g4 175 r'.toNat := w32_id (by omega) (by omega)
          have w2 : w32 (12 * g4 175 r'.toNat + i') = 12 * g4 175 r'.toNat + i' := w32_id (by omega) (by omega)
          have ix : (12 * g4 175 r'.toNat + i').toNat = 12 * (g4 175 r'.toNat).toNat + i'.toNat := by omega
          simp only [u_M_doChange_96, u_M_doChange_98, u_M_doChange_99, u_M_doChange_100, u_M_doChange_103, u_M_doChange_104, u_M_doChange_107, u_M_doChange_110, u_M_doChange_111, u_M_doChange_114, u_M_doChange_115, u_M_doChange_116, u_M_doChange_119, u_M_doChange_122, u_M_doChange_123, u_M_doChange_126, u_M_doChange_127, u_M_doChange_130, u_M_doChange_131, u_M_doChange_134, u_M_doChange_135, u_M_doChange_137, u_M_doChange_138, u_M_doChange_141, u_M_doChange_144, u_M_doChange_145, u_M_doChange_148, u_M_doChange_149, u_M_doChange_152, u_M_doChange_153, u_M_doChange_154, u_M_doChange_157, u_M_doChange_158, u_M_doChange_161, u_M_doChange_163, u_M_doChange_164, u_M_doChange_167, u_M_doChange_168, u_M_doChange_169, u_M_doChange_172, u_M_doChange_173, u_M_doChange_174, h1_156, pt_156_49, gt_156_46, gt_156_52, gt_156_53, gt_156_39, gt_156_41, h1_176, h2_176, gt_176, pt_176, h1_178, h2_178, gt_178, pt_178, ne_eq, not_false_eq_true, not_true_eq_false, true_and, and_true, true_or, or_true, eq_self, Option.toList_some, Option.toList_none, List.cons_append, List.nil_append, tc_0, tc_I, tc_L, tc_A, Nat.reduceAdd, Nat.reduceLeDiff, Nat.reduceEqDiff, Int.reduceEq, Int.reduceLT, Int.reduceLE, Int.reduceNeg, Int.reduceToNat, Int.cast_ofNat_Int, if_true, if_false, and_self, or_self, ite_self, bI_0, bI_1, bI_01, Bool.false_eq_true, reduceCtorEq, hg4, f46, hpl4.1, hpl4.2, c3, show g4 175 r'.toNat < 16 by omega, ← c5, w1, w2, show 0 ≤ 12 * g4 175 r'.toNat + i' by omega, show 12 * g4 175 r'.toNat + i' < 192 by omega, ix, ← c6]
          exact h176
    match pl, hok, hplM, h69, hSt with
    | .inl k, hok, hplM, h69, hSt =>
      simp only [u_M_doChange_15, u_M_doChange_16, u_M_doChange_19, u_M_doChange_22, u_M_doChange_23, u_M_doChange_26, u_M_doChange_27, u_M_doChange_28, u_M_doChange_29, u_M_doChange_32, u_M_doChange_33, u_M_doChange_34, u_M_doChange_35, u_M_doChange_38, u_M_doChange_39, u_M_doChange_40, u_M_doChange_43, h1_156, gt_156_46, gt_156_52, ne_eq, not_false_eq_true, not_true_eq_false, true_and, and_true, true_or, or_true, eq_self, Option.toList_some, Option.toList_none, List.cons_append, List.nil_append, tc_0, tc_I, tc_L, tc_A, Nat.reduceAdd, Nat.reduceLeDiff, Nat.reduceEqDiff, Int.reduceEq, Int.reduceLT, Int.reduceLE, Int.reduceNeg, Int.reduceToNat, Int.cast_ofNat_Int, if_true, if_false, and_self, or_self, ite_self, bI_0, bI_1, bI_01, Bool.false_eq_true, reduceCtorEq, a2, hs3, hplM.2]
      exact h69 (by simp [isN])
    | .inr (r', i'), hok, hplM, h69, hSt =>
      obtain ⟨c1, c2, c3, c4, c5, c6, c7, c8⟩ := OkP_R hS1 hok
      have h175 : g1 175 r'.toNat = g 175 r'.toNat := hy 175 _ (by omega)
      have hI := a3.2.2 (g1 175 r'.toNat).toNat (by omega)
      have iN : ((i'.toNat : Nat) : Int) = i' := by omega
      have hbit : o32 (fun x y => x &&& y) (o32 (fun x y => x >>> (y &&& 31)) (g1 181 (g1 175 r'.toNat).toNat) i') 1 = bB (((snI (hlm g) (fun _ => 0) q1) (g1 175 r'.toNat).toNat).testBit i'.toNat) := by
        rw [hI.1, ← iN]; rw [o32_bit (by omega) (by omega), iN]
      have hse := seen_eq hS hqo (r := r'.toNat) (i := i'.toNat) (by omega) hok.2.2.1
      rw [h175, ← hse] at hbit
      have hrdp : rdP f (snN 0 q1) (snI (hld f) (fun _ => 0) q1) (.inr (r', i')) = ((snI (hld f) (fun _ => 0) q1) (f 29 r'.toNat).toNat).testBit i'.toNat := rfl
      rw [← hrdp] at hbit
      rw [h175] at c3 c4
      have hp52 : g1 156 52 = g 175 r'.toNat := by rw [hplM.1, h175]
      by_cases hrd : rdP f (snN 0 q1) (snI (hld f) (fun _ => 0) q1) (.inr (r', i')) = true
      · rw [if_pos ⟨rfl, hrd⟩] at hSt
        rw [hrd, bB_t] at hbit
        simp only [u_M_doChange_15, u_M_doChange_16, u_M_doChange_19, u_M_doChange_22, u_M_doChange_23, u_M_doChange_26, u_M_doChange_27, u_M_doChange_28, u_M_doChange_29, u_M_doChange_32, u_M_doChange_33, u_M_doChange_34, u_M_doChange_35, u_M_doChange_38, u_M_doChange_39, u_M_doChange_40, u_M_doChange_43, u_M_doChange_46, u_M_doChange_47, u_M_doChange_50, u_M_doChange_51, u_M_doChange_54, u_M_doChange_55, u_M_doChange_56, u_M_doChange_59, u_M_doChange_60, u_M_doChange_61, u_M_doChange_62, u_M_doChange_63, u_M_doChange_66, u_M_doChange_68, h1_156, gt_156_46, gt_156_52, gt_156_53, gt_156_48, h1_181, h2_181, gt_181, pt_181, ne_eq, not_false_eq_true, not_true_eq_false, true_and, and_true, true_or, or_true, eq_self, Option.toList_some, Option.toList_none, List.cons_append, List.nil_append, tc_0, tc_I, tc_L, tc_A, Nat.reduceAdd, Nat.reduceLeDiff, Nat.reduceEqDiff, Int.reduceEq, Int.reduceLT, Int.reduceLE, Int.reduceNeg, Int.reduceToNat, Int.cast_ofNat_Int, if_true, if_false, and_self, or_self, ite_self, bI_0, bI_1, bI_01, Bool.false_eq_true, reduceCtorEq, a2, hs3, hp52, hplM.2, c3, show g 175 r'.toNat < 16 by omega, show ¬ g 175 r'.toNat < 0 by omega, hbit]
        rw [← hSt.1]
        exact hQ _ TH (FZ_Y hy) (RSt_fr hS hSt.2 hy)
      · have hrd2 : rdP f (snN 0 q1) (snI (hld f) (fun _ => 0) q1) (.inr (r', i')) = false := by simpa using hrd
        rw [hrd2, bB_f] at hbit
        simp only [u_M_doChange_15, u_M_doChange_16, u_M_doChange_19, u_M_doChange_22, u_M_doChange_23, u_M_doChange_26, u_M_doChange_27, u_M_doChange_28, u_M_doChange_29, u_M_doChange_32, u_M_doChange_33, u_M_doChange_34, u_M_doChange_35, u_M_doChange_38, u_M_doChange_39, u_M_doChange_40, u_M_doChange_43, u_M_doChange_46, u_M_doChange_47, u_M_doChange_50, u_M_doChange_51, u_M_doChange_54, u_M_doChange_55, u_M_doChange_56, u_M_doChange_59, u_M_doChange_60, u_M_doChange_61, u_M_doChange_62, u_M_doChange_63, h1_156, gt_156_46, gt_156_52, gt_156_53, gt_156_48, h1_181, h2_181, gt_181, pt_181, ne_eq, not_false_eq_true, not_true_eq_false, true_and, and_true, true_or, or_true, eq_self, Option.toList_some, Option.toList_none, List.cons_append, List.nil_append, tc_0, tc_I, tc_L, tc_A, Nat.reduceAdd, Nat.reduceLeDiff, Nat.reduceEqDiff, Int.reduceEq, Int.reduceLT, Int.reduceLE, Int.reduceNeg, Int.reduceToNat, Int.cast_ofNat_Int, if_true, if_false, and_self, or_self, ite_self, bI_0, bI_1, bI_01, Bool.false_eq_true, reduceCtorEq, a2, hs3, hp52, hplM.2, c3, show g 175 r'.toNat < 16 by omega, show ¬ g 175 r'.toNat < 0 by omega, hbit]
        exact h69 (fun hh => hrd hh.2)
end
