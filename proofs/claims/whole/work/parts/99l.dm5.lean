/-! Doing a step, the reference: swaps -/
section
variable {L d r len c q : Nat} {F f f' t g : Mem} {T : Int → Int} {Q : Option TV → Wd → Prop} {TH : Nat} {o b j m code : Int} {pl pl2 : Pl}
/-- a place by its three numbers: the name, the row, the item -/
def plN (g : Mem) : Pl → Int × Int × Int → Prop
  | .inl k, (n, r, _) => n = k ∧ r = -1
  | .inr (r, i), (_, r', i') => r' = g 175 r.toNat ∧ i' = i
theorem plN_M {g : Mem} {pl : Pl} (h : PlM g pl) : plN g pl (g 156 51, g 156 52, g 156 53) := by
  match pl, h with
  | .inl k, h => exact h
  | .inr (r, i), h => exact h
theorem kind_M (hS : RSt f g TH) (hok : OkP f pl) {n w i : Int} (h : plN g pl (n, w, i)) : (w < 0 ∧ kdP f pl = 0) ∨ (0 ≤ w ∧ w < 15 ∧ g 176 w.toNat = kdP f pl) := by
  match pl, hok, h with
  | .inl k, hok, h => left; have := h.2; exact ⟨by omega, rfl⟩
  | .inr (r, i'), hok, h =>
    obtain ⟨a1, a2, a3, a4, a5, a6, a7, a8⟩ := OkP_R hS hok
    right
    have h1 := h.1
    exact ⟨by omega, by omega, by rw [h1]; exact a5.symm⟩
theorem same_M (hS : RSt f g TH) (hok : OkP f pl) (hok2 : OkP f pl2) {n w i n2 w2 i2 : Int} (h : plN g pl (n, w, i)) (h2 : plN g pl2 (n2, w2, i2)) : (w < 0 → (spC f pl = spC f pl2 ↔ w2 < 0 ∧ n = n2)) ∧ (0 ≤ w → (spC f pl = spC f pl2 ↔ w2 = w ∧ i2 = i)) := by
  match pl, pl2, hok, hok2, h, h2 with
  | .inl k, .inl k2, hok, hok2, h, h2 =>
    obtain ⟨x1, x2⟩ := h
    obtain ⟨x3, x4⟩ := h2
    refine ⟨fun _ => ?_, fun hh => by omega⟩
    show k = k2 ↔ _
    constructor
    · intro e; omega
    · intro e; omega
  | .inl k, .inr (r2, j2), hok, hok2, h, h2 =>
    obtain ⟨x1, x2⟩ := h
    obtain ⟨x3, x4⟩ := h2
    obtain ⟨a1, a2, a3, a4, a5, a6, a7, a8⟩ := OkP_R hS hok2
    refine ⟨fun _ => ?_, fun hh => by omega⟩
    show k = 26 + f 29 r2.toNat * 12 + j2 ↔ _
    have q1 := hok.2.1
    have q2 := hok2.2.2.1
    constructor
    · intro e; omega
    · intro e; omega
  | .inr (r1, j1), .inl k2, hok, hok2, h, h2 =>
    obtain ⟨x1, x2⟩ := h
    obtain ⟨x3, x4⟩ := h2
    obtain ⟨a1, a2, a3, a4, a5, a6, a7, a8⟩ := OkP_R hS hok
    refine ⟨fun hh => by omega, fun _ => ?_⟩
    show 26 + f 29 r1.toNat * 12 + j1 = k2 ↔ _
    have q1 := hok2.2.1
    have q2 := hok.2.2.1
    constructor
    · intro e; omega
    · intro e; omega
  | .inr (r1, j1), .inr (r2, j2), hok, hok2, h, h2 =>
    obtain ⟨x1, x2⟩ := h
    obtain ⟨x3, x4⟩ := h2
    obtain ⟨a1, a2, a3, a4, a5, a6, a7, a8⟩ := OkP_R hS hok
    obtain ⟨c1, c2, c3, c4, c5, c6, c7, c8⟩ := OkP_R hS hok2
    have hinj := hS.inj r1.toNat r2.toNat (by omega) (by omega) (by rw [hC_r (by omega)]; exact hok.2.2.1) (by rw [hC_r (by omega)]; exact hok2.2.2.1)
    rw [hC_r (by omega), hC_r (by omega)] at hinj
    refine ⟨fun hh => by omega, fun _ => ?_⟩
    show 26 + f 29 r1.toNat * 12 + j1 = 26 + f 29 r2.toNat * 12 + j2 ↔ _
    have q1 := hok.2.2.1
    have q2 := hok2.2.2.1
    have e1 : (26 + f 29 r1.toNat * 12 + j1 = 26 + f 29 r2.toNat * 12 + j2) ↔ (f 29 r1.toNat = f 29 r2.toNat ∧ j1 = j2) := by omega
    rw [e1, hinj]
    constructor
    · intro ⟨y1, y2⟩; exact ⟨by rw [x3, x1, y1], by rw [x4, x2, y2]⟩
    · intro ⟨y1, y2⟩; exact ⟨by rw [← x1, ← x3, y1], by rw [← x2, ← x4, y2]⟩
theorem seen_M {g0 : Mem} {br : Int → Int → Bool} {z : List (Int × Int)} (hS : RSt f g TH) (hg0 : RSt f g0 TH) (h175 : ∀ k, g 175 k = g0 175 k) (hz : QOk (envC f br) z) (hW : WM g (snN 0 z) (snI (hlm g0) (fun _ => 0) z)) (hok : OkP f pl) {n w i : Int} (h : plN g pl (n, w, i)) : (w < 0 → o32 (fun x y => x &&& y) (o32 (fun x y => x >>> (y &&& 31)) (g 156 47) n) 1 = bB (rdP f (snN 0 z) (snI (hld f) (fun _ => 0) z) pl)) ∧ (0 ≤ w → w < 15 ∧ o32 (fun x y => x &&& y) (o32 (fun x y => x >>> (y &&& 31)) (g 181 w.toNat) i) 1 = bB (rdP f (snN 0 z) (snI (hld f) (fun _ => 0) z) pl)) := by
  obtain ⟨w1, w2, w3⟩ := hW
  match pl, hok, h with
  | .inl k, hok, h =>
    obtain ⟨x1, x2⟩ := h
    have hk := hok.1
    have hk2 := hok.2.1
    have kN : ((k.toNat : Nat) : Int) = k := by omega
    refine ⟨fun _ => ?_, fun hh => by omega⟩
    rw [w1, x1, ← kN, o32_bit (by omega) (by omega)]
    show _ = bB ((snN 0 z).testBit (k.toNat : Int).toNat)
    rw [Int.toNat_natCast]
  | .inr (r, i'), hok, h =>
    obtain ⟨x1, x2⟩ := h
    obtain ⟨a1, a2, a3, a4, a5, a6, a7, a8⟩ := OkP_R hS hok
    have iN : ((i'.toNat : Nat) : Int) = i' := by omega
    refine ⟨fun hh => by omega, fun _ => ⟨by omega, ?_⟩⟩
    have hI := w3 w.toNat (by omega)
    have hse := seen_eq hg0 hz (r := r.toNat) (i := i'.toNat) (by omega) hok.2.2.1
    rw [hI.1, x2, ← iN, o32_bit (by omega) (by omega)]
    show _ = bB (((snI (hld f) (fun _ => 0) z) (f 29 r.toNat).toNat).testBit (i'.toNat : Int).toNat)
    rw [Int.toNat_natCast, hse, x1, h175]
theorem load_M (hS : RSt f g TH) (hok : OkP f pl) {n w i : Int} (h : plN g pl (n, w, i)) : (w < 0 → 0 ≤ n ∧ n < 26 ∧ g 174 n.toNat = ldP f pl) ∧ (0 ≤ w → w32 (12 * w) = 12 * w ∧ w32 (12 * w + i) = 12 * w + i ∧ 0 ≤ 12 * w + i ∧ 12 * w + i < 192 ∧ g 178 (12 * w + i).toNat = ldP f pl) := by
  match pl, hok, h with
  | .inl k, hok, h =>
    obtain ⟨x1, x2⟩ := h
    have hk := hok.1
    have hk2 := hok.2.1
    refine ⟨fun _ => ⟨by omega, by omega, ?_⟩, fun hh => by omega⟩
    rw [x1]
    rcases hS.nm k.toNat (by omega) with q | q
    · have := hok.2.2; omega
    · exact q.2.2.symm
  | .inr (r, i'), hok, h =>
    obtain ⟨x1, x2⟩ := h
    obtain ⟨a1, a2, a3, a4, a5, a6, a7, a8⟩ := OkP_R hS hok
    refine ⟨fun hh => by omega, fun _ => ⟨w32_id (by omega) (by omega), w32_id (by omega) (by omega), by omega, by omega, ?_⟩⟩
    rw [show (12 * w + i).toNat = 12 * (g 175 r.toNat).toNat + i'.toNat by omega]
    exact a6.symm
/-- values are such as their kinds have -/
abbrev RC (f : Mem) : Prop := (∀ k : Nat, k < 26 → f 20 k = 1 → w32 (f 21 k) = f 21 k) ∧ (∀ s i : Nat, s < 4 → (i : Int) < f 27 s → w32 (f (23 + s) i) = f (23 + s) i) ∧ (∀ h : Nat, h < 14 → 0 ≤ hC f h → ∀ i : Nat, (i : Int) < f 32 (hC f h).toNat → cutI (f 31 (hC f h).toNat) (f (34 + (hC f h).toNat) i) = f (34 + (hC f h).toNat) i)
theorem RC.n {f : Mem} (hSelf : RC f) : ∀ k : Nat, k < 26 → f 20 k = 1 → w32 (f 21 k) = f 21 k := hSelf.1
theorem RC.p {f : Mem} (hSelf : RC f) : ∀ s i : Nat, s < 4 → (i : Int) < f 27 s → w32 (f (23 + s) i) = f (23 + s) i := hSelf.2.1
theorem RC.i {f : Mem} (hSelf : RC f) : ∀ h : Nat, h < 14 → 0 ≤ hC f h → ∀ i : Nat, (i : Int) < f 32 (hC f h).toNat → cutI (f 31 (hC f h).toNat) (f (34 + (hC f h).toNat) i) = f (34 + (hC f h).toNat) i := hSelf.2.2
theorem RC_ld (hC' : RC f) (hok : OkP f pl) : cutI (kdP f pl) (ldP f pl) = ldP f pl := by
  match pl, hok with
  | .inl k, hok => exact hC'.n k.toNat (by have := hok.1; have := hok.2.1; omega) hok.2.2
  | .inr (r, i), hok =>
    obtain ⟨a1, a2, a3, a4, a5, a6, a7, a8, a9⟩ := hok
    have h := hC'.i r.toNat (by omega) (by rw [hC_r (by omega)]; exact a3) i.toNat (by rw [hC_r (by omega)]; omega)
    rw [hC_r (by omega)] at h
    exact h
theorem stP_comm {u v : Int} (hok : OkP f pl) (hok2 : OkP f pl2) (hne : ¬ spC f pl = spC f pl2) : stP (stP f v pl2) u pl = stP (stP f u pl) v pl2 := by
  match pl, pl2, hok, hok2, hne with
  | .inl k, .inl k2, hok, hok2, hne =>
    have hne : ¬ k = k2 := hne
    have q1 := hok.1
    have q2 := hok2.1
    funext b j
    simp only [stP, rd]
    by_cases e1 : b = 21 ∧ j = k.toNat
    · rw [if_pos e1, if_neg (by omega), if_neg (by omega), if_pos e1]
    · rw [if_neg e1]
      by_cases e2 : b = 20 ∧ j = k.toNat
      · rw [if_pos e2, if_neg (by omega), if_neg (by omega), if_neg e1, if_pos e2]
      · rw [if_neg e2, if_neg e1, if_neg e2]
  | .inl k, .inr (r2, j2), hok, hok2, hne =>
    have q2 := hok2.2.2.1
    funext b j
    simp only [stP, rd, Nat.reduceEqDiff, false_and, if_false]
    have n1 : ¬ 29 = 34 + (f 29 r2.toNat).toNat := by omega
    by_cases e1 : b = 34 + (f 29 r2.toNat).toNat ∧ j = j2.toNat
    · rw [if_pos e1, if_neg (by omega), if_neg (by omega), if_pos e1]
    · rw [if_neg e1, if_neg e1]
  | .inr (r1, j1), .inl k2, hok, hok2, hne =>
    have q2 := hok.2.2.1
    funext b j
    simp only [stP, rd, Nat.reduceEqDiff, false_and, if_false]
    by_cases e1 : b = 34 + (f 29 r1.toNat).toNat ∧ j = j1.toNat
    · rw [if_pos e1, if_neg (by omega), if_neg (by omega), if_pos e1]
    · rw [if_neg e1, if_neg e1]
  | .inr (r1, j1), .inr (r2, j2), hok, hok2, hne =>
    have hne : ¬ 26 + f 29 r1.toNat * 12 + j1 = 26 + f 29 r2.toNat * 12 + j2 := hne
    have q1 := hok.2.2.1
    have q2 := hok2.2.2.1
    have q3 := hok.2.2.2.2.1
    have q4 := hok2.2.2.2.2.1
    funext b j
    have n1 : ¬ 29 = 34 + (f 29 r2.toNat).toNat := by omega
    have n2 : ¬ 31 = 34 + (f 29 r2.toNat).toNat := by omega
    have n3 : ¬ 29 = 34 + (f 29 r1.toNat).toNat := by omega
    have n4 : ¬ 31 = 34 + (f 29 r1.toNat).toNat := by omega
    simp only [stP, rd, n1, n2, n3, n4, false_and, if_false]
    by_cases e1 : b = 34 + (f 29 r1.toNat).toNat ∧ j = j1.toNat
    · rw [if_pos e1, if_neg (by omega), if_pos e1]
    · rw [if_neg e1]
      by_cases e2 : b = 34 + (f 29 r2.toNat).toNat ∧ j = j2.toNat
      · rw [if_pos e2, if_pos e2]
      · rw [if_neg e2, if_neg e2, if_neg e1]
theorem p_M_swap (hR : RT g r T len) (hRC : RC f) (hS : RSt f g TH) (hq : q < 40) (ho : g 168 (40 * r + q) = o) (he9 : g 169 (40 * r + q) = b) (ho0 : 0 ≤ o) (p p2 : PP c) (hp : wP p) (hp2 : wP p2) (hsp : seg T o m (kP p)) (hb : 0 ≤ b) (hsp2 : seg T b j (kP p2)) (hSt : SwC f p p2 code f') (hQ : ∀ g' TH', FZ g g' → RSt f' g' TH' → Q (some (tI code)) (WW F t g')) : VV L (d + 3 * c + 9) m_M_doChange 0 [some (tA 156), some (tI r), some (tI (40 * (r : Int) + q)), some (tI 3), none, none, none, none, none, none, none] [] (WW F t g) Q := by
  have hr := hR.r10
  obtain ⟨i1, i2, i3⟩ := ix_o hr hq ho
  have hlm0 : hlm (sn0 g) = hlm g := by funext z; exact FY_0 175 _ (by omega)
  simp only [u_M_doChange_0, u_M_doChange_1, u_M_doChange_4, u_M_doChange_5, u_M_doChange_6, u_M_doChange_7, u_M_doChange_10, u_M_doChange_11, u_M_doChange_12, h1_156, gt_156_29, h1_168, h2_168, gt_168, pt_168, ne_eq, not_false_eq_true, not_true_eq_false, true_and, and_true, true_or, or_true, eq_self, Option.toList_some, Option.toList_none, List.cons_append, List.nil_append, tc_0, tc_I, tc_L, tc_A, Nat.reduceAdd, Nat.reduceLeDiff, Nat.reduceEqDiff, Int.reduceEq, Int.reduceLT, Int.reduceLE, Int.reduceNeg, Int.reduceToNat, Int.cast_ofNat_Int, if_true, if_false, and_self, or_self, ite_self, bI_0, bI_1, bI_01, Bool.false_eq_true, reduceCtorEq, s_M_seeNothing, i1, i2, i3]
  refine p_M_findP (D := d + 3 * c + 4) (by omega) p hp (RT_s0 hR) (EnM_0 hS) WM_0 ho0 hsp ?_
  unfold SwC at hSt
  cases hv : vP (envC f brN) p with
  | error w =>
    rw [hv] at hSt
    intro g1 a1 a2 a3
    simp only [u_M_doChange_15, u_M_doChange_16, u_M_doChange_19, u_M_doChange_22, u_M_doChange_23, u_M_doChange_26, h1_156, gt_156_46, ne_eq, not_false_eq_true, not_true_eq_false, true_and, and_true, true_or, or_true, eq_self, Option.toList_some, Option.toList_none, List.cons_append, List.nil_append, tc_0, tc_I, tc_L, tc_A, Nat.reduceAdd, Nat.reduceLeDiff, Nat.reduceEqDiff, Int.reduceEq, Int.reduceLT, Int.reduceLE, Int.reduceNeg, Int.reduceToNat, Int.cast_ofNat_Int, if_true, if_false, and_self, or_self, ite_self, bI_0, bI_1, bI_01, Bool.false_eq_true, reduceCtorEq, a2, a3]
    rw [← hSt.1]
    have hy := FY_tr FY_0 (FY_P a1)
    exact hQ _ TH (FZ_Y hy) (RSt_fr hS hSt.2.2 hy)
  | ok z =>
    obtain ⟨pl, q1⟩ := z
    rw [hv] at hSt
    dsimp only at hSt
    have hok := vP_ok hS p hp hv
    have hqo := vP_qo p hp hv
    intro g1 a1 a2 a3 a4
    have hy := FY_tr FY_0 (FY_P a1)
    rw [hlm0] at a3
    have hS1 : RSt f g1 TH := RSt_fr hS FX_refl hy
    have hplM : PlM g1 pl := by
      match pl, a4 with
      | .inl k, a4 => exact a4
      | .inr (r', i'), a4 =>
        refine ⟨?_, a4.2.2⟩
        rw [a4.2.1, FY_0 175 _ (by omega), hy 175 _ (by omega)]
    have e169 : g1 169 (40 * (r : Int) + q).toNat = b := by
      rw [show (40 * (r : Int) + q).toNat = 40 * r + q by omega, hy 169 _ (by omega)]; exact he9
    have hR1 : RT g1 r T len := RT_fr2 hR (fun c k h1 h2 => hy c k (by omega))
    have hE1 : EnM g1 (envC f brN) TH := EnM_FMP (EnM_0 hS) a1
    have hpl1 := plN_M hplM
    generalize hN : g1 156 51 = N1 at hpl1
    generalize hW' : g1 156 52 = W1 at hpl1
    generalize hI' : g1 156 53 = I1 at hpl1
    simp only [u_M_doChange_15, u_M_doChange_16, u_M_doChange_19, u_M_doChange_22, u_M_doChange_23, u_M_doChange_26, u_M_doChange_27, u_M_doChange_28, u_M_doChange_29, u_M_doChange_32, u_M_doChange_33, u_M_doChange_34, u_M_doChange_35, h1_156, gt_156_46, ne_eq, not_false_eq_true, not_true_eq_false, true_and, and_true, true_or, or_true, eq_self, Option.toList_some, Option.toList_none, List.cons_append, List.nil_append, tc_0, tc_I, tc_L, tc_A, Nat.reduceAdd, Nat.reduceLeDiff, Nat.reduceEqDiff, Int.reduceEq, Int.reduceLT, Int.reduceLE, Int.reduceNeg, Int.reduceToNat, Int.cast_ofNat_Int, if_true, if_false, and_self, or_self, ite_self, bI_0, bI_1, bI_01, Bool.false_eq_true, reduceCtorEq, a2]
    simp only [u_M_doSwap_0, u_M_doSwap_1, u_M_doSwap_4, u_M_doSwap_5, u_M_doSwap_6, u_M_doSwap_9, u_M_doSwap_11, u_M_doSwap_12, u_M_doSwap_15, u_M_doSwap_17, u_M_doSwap_18, u_M_doSwap_19, u_M_doSwap_20, u_M_doSwap_23, u_M_doSwap_24, u_M_doSwap_25, h1_156, gt_156_51, gt_156_52, gt_156_53, gt_156_30, h1_169, h2_169, gt_169, pt_169, ne_eq, not_false_eq_true, not_true_eq_false, true_and, and_true, true_or, or_true, eq_self, Option.toList_some, Option.toList_none, List.cons_append, List.nil_append, tc_0, tc_I, tc_L, tc_A, Nat.reduceAdd, Nat.reduceLeDiff, Nat.reduceEqDiff, Int.reduceEq, Int.reduceLT, Int.reduceLE, Int.reduceNeg, Int.reduceToNat, Int.cast_ofNat_Int, if_true, if_false, and_self, or_self, ite_self, bI_0, bI_1, bI_01, Bool.false_eq_true, reduceCtorEq, hN, hW', hI', i1, i2, e169]
    refine p_M_findP (D := d + 3 * c + 3) (by omega) p2 hp2 hR1 hE1 a3 hb hsp2 ?_
    cases hv2 : vP (envC f brN) p2 with
    | error w =>
      rw [hv2] at hSt
      intro g2 b1 b2 b3
      simp only [u_M_doSwap_28, u_M_doSwap_29, u_M_doSwap_32, u_M_doSwap_35, u_M_doSwap_36, u_M_doSwap_39, h1_156, gt_156_46, ne_eq, not_false_eq_true, not_true_eq_false, true_and, and_true, true_or, or_true, eq_self, Option.toList_some, Option.toList_none, List.cons_append, List.nil_append, tc_0, tc_I, tc_L, tc_A, Nat.reduceAdd, Nat.reduceLeDiff, Nat.reduceEqDiff, Int.reduceEq, Int.reduceLT, Int.reduceLE, Int.reduceNeg, Int.reduceToNat, Int.cast_ofNat_Int, if_true, if_false, and_self, or_self, ite_self, bI_0, bI_1, bI_01, Bool.false_eq_true, reduceCtorEq, b2, b3, u_M_doChange_38]
      rw [← hSt.1]
      have hy2 := FY_tr hy (FY_P b1)
      exact hQ _ TH (FZ_Y hy2) (RSt_fr hS hSt.2.2 hy2)
    | ok z =>
      obtain ⟨pl2, q2⟩ := z
      rw [hv2] at hSt
      dsimp only at hSt
      have hok2 := vP_ok hS p2 hp2 hv2
      have hqo2 := QOk_app hqo (vP_qo p2 hp2 hv2)
      intro g2 b1 b2 b3 b4
      have hy2 := FY_tr hy (FY_P b1)
      have hlm1 : hlm g1 = hlm g := by funext z; exact hy 175 _ (by omega)
      rw [hlm1, ← snN_app, ← snI_app] at b3
      have hS2 : RSt f g2 TH := RSt_fr hS FX_refl hy2
      have hplM2 : PlM g2 pl2 := by
        match pl2, b4 with
        | .inl k, b4 => exact b4
        | .inr (r', i'), b4 =>
          refine ⟨?_, b4.2.2⟩
          rw [b4.2.1, hy 175 _ (by omega), hy2 175 _ (by omega)]
      have hpl1' : plN g2 pl (N1, W1, I1) := by
        match pl, hpl1 with
        | .inl k, hpl1 => exact hpl1
        | .inr (r', i'), hpl1 => exact ⟨by rw [hy2 175 _ (by omega), ← hy 175 _ (by omega)]; exact hpl1.1, hpl1.2⟩
      have hpl2 := plN_M hplM2
      generalize hN2 : g2 156 51 = N2 at hpl2
      generalize hW2 : g2 156 52 = W2 at hpl2
      generalize hI2 : g2 156 53 = I2 at hpl2
      have hk1 := kind_M hS2 hok hpl1'
      have hk2 := kind_M hS2 hok2 hpl2
      have hsm := same_M hS2 hok hok2 hpl1' hpl2
      have h175 : ∀ k, g2 175 k = g 175 k := fun k => hy2 175 k (by omega)
      have hse1 := seen_M hS2 hS h175 hqo2 b3 hok hpl1'
      have hse2 := seen_M hS2 hS h175 hqo2 b3 hok2 hpl2
      have hld1 := load_M hS2 hok hpl1'
      have hld2 := load_M hS2 hok2 hpl2
      by_cases hkk : kdP f pl = kdP f pl2
      · rw [if_pos hkk] at hSt
        -- the two kinds are one
        have h86 : ∀ l6, VV L (d + 3 * c + 8) m_M_doSwap 86 [some (tA 156), some (tI r), some (tI (40 * (r : Int) + q)), some (tI N1), some (tI W1), some (tI I1), some (tI l6), none, none, none, none, none, none] [] (WW F t g2) (fun r_1 w1 => VV L (d + 3 * c + 9) m_M_doChange 38 [some (tA 156), some (tI r), some (tI (40 * (r : Int) + q)), some (tI 3), none, none, none, none, none, none, none] (r_1.toList ++ []) w1 Q) := by
          intro l6
          have h187 : ∀ s1 s2 : Int, s1 = bB (decide (spC f pl = spC f pl2)) → s2 = bB (rdP f (snN 0 (q1 ++ q2)) (snI (hld f) (fun _ => 0) (q1 ++ q2)) pl) → VV L (d + 3 * c + 8) m_M_doSwap 187 [some (tA 156), some (tI r), some (tI (40 * (r : Int) + q)), some (tI N1), some (tI W1), some (tI I1), some (tI l6), some (tI s1), some (tI s2), none, none, none, none] [] (WW F t g2) (fun r_1 w1 => VV L (d + 3 * c + 9) m_M_doChange 38 [some (tA 156), some (tI r), some (tI (40 * (r : Int) + q)), some (tI 3), none, none, none, none, none, none, none] (r_1.toList ++ []) w1 Q) := by
            intro s1 s2 e1 e2
            by_cases c1 : spC f pl = spC f pl2
            · rw [if_pos (Or.inl c1)] at hSt
              have e1' : s1 = 1 := by rw [e1, c1]; simp [bB]
              subst e1'
              simp only [u_M_doSwap_187, u_M_doSwap_189, u_M_doSwap_192, u_M_doSwap_194, u_M_doSwap_197, u_M_doSwap_198, u_M_doSwap_201, u_M_doSwap_204, u_M_doSwap_206, ne_eq, not_false_eq_true, not_true_eq_false, true_and, and_true, true_or, or_true, eq_self, Option.toList_some, Option.toList_none, List.cons_append, List.nil_append, tc_0, tc_I, tc_L, tc_A, Nat.reduceAdd, Nat.reduceLeDiff, Nat.reduceEqDiff, Int.reduceEq, Int.reduceLT, Int.reduceLE, Int.reduceNeg, Int.reduceToNat, Int.cast_ofNat_Int, if_true, if_false, and_self, or_self, ite_self, bI_0, bI_1, bI_01, Bool.false_eq_true, reduceCtorEq, u_M_doChange_38]
              rw [← hSt.1]
              exact hQ _ TH (FZ_Y hy2) (RSt_fr hS hSt.2 hy2)
            · have e1' : s1 = 0 := by rw [e1]; simp [bB, c1]
              subst e1'
              by_cases c2 : rdP f (snN 0 (q1 ++ q2)) (snI (hld f) (fun _ => 0) (q1 ++ q2)) pl = true
              · rw [if_pos (Or.inr (Or.inl c2))] at hSt
                have e2' : s2 = 1 := by rw [e2, c2]; rfl
                subst e2'
                simp only [u_M_doSwap_187, u_M_doSwap_189, u_M_doSwap_192, u_M_doSwap_194, u_M_doSwap_197, u_M_doSwap_198, u_M_doSwap_201, u_M_doSwap_204, u_M_doSwap_206, ne_eq, not_false_eq_true, not_true_eq_false, true_and, and_true, true_or, or_true, eq_self, Option.toList_some, Option.toList_none, List.cons_append, List.nil_append, tc_0, tc_I, tc_L, tc_A, Nat.reduceAdd, Nat.reduceLeDiff, Nat.reduceEqDiff, Int.reduceEq, Int.reduceLT, Int.reduceLE, Int.reduceNeg, Int.reduceToNat, Int.cast_ofNat_Int, if_true, if_false, and_self, or_self, ite_self, bI_0, bI_1, bI_01, Bool.false_eq_true, reduceCtorEq, u_M_doChange_38]
                rw [← hSt.1]
                exact hQ _ TH (FZ_Y hy2) (RSt_fr hS hSt.2 hy2)
              · have c2' : rdP f (snN 0 (q1 ++ q2)) (snI (hld f) (fun _ => 0) (q1 ++ q2)) pl = false := by simpa using c2
                have e2' : s2 = 0 := by rw [e2, c2']; rfl
                subst e2'
                have hseen : ∀ (Q : Option TV → Wd → Prop), VV L (d + 3 * c + 7) m_M_isSeen 0 [some (tA 156)] [] (WW F t g2) Q = Q (some (tI (bB (rdP f (snN 0 (q1 ++ q2)) (snI (hld f) (fun _ => 0) (q1 ++ q2)) pl2)))) (WW F t g2) := by
                  intro Q
                  rcases Int.lt_or_le W2 0 with hw | hw
                  · have hb' := hse2.1 hw
                    simp only [u_M_isSeen_0, u_M_isSeen_1, u_M_isSeen_4, u_M_isSeen_7, u_M_isSeen_8, u_M_isSeen_11, u_M_isSeen_12, u_M_isSeen_15, u_M_isSeen_16, u_M_isSeen_17, u_M_isSeen_18, u_M_isSeen_19, u_M_isSeen_22, u_M_isSeen_23, u_M_isSeen_26, u_M_isSeen_27, u_M_isSeen_30, u_M_isSeen_31, u_M_isSeen_34, u_M_isSeen_35, u_M_isSeen_38, u_M_isSeen_39, u_M_isSeen_40, u_M_isSeen_43, u_M_isSeen_44, u_M_isSeen_45, u_M_isSeen_46, u_M_isSeen_47, u_M_isSeen_50, u_M_isSeen_51, u_M_isSeen_54, u_M_isSeen_55, h1_156, gt_156_52, pt_156_52, gt_156_47, pt_156_47, gt_156_51, pt_156_51, gt_156_48, h1_181, h2_181, gt_181, pt_181, gt_156_53, pt_156_53, ne_eq, not_false_eq_true, not_true_eq_false, true_and, and_true, true_or, or_true, eq_self, Option.toList_some, Option.toList_none, List.cons_append, List.nil_append, tc_0, tc_I, tc_L, tc_A, Nat.reduceAdd, Nat.reduceLeDiff, Nat.reduceEqDiff, Int.reduceEq, Int.reduceLT, Int.reduceLE, Int.reduceNeg, Int.reduceToNat, Int.cast_ofNat_Int, if_true, if_false, and_self, or_self, ite_self, bI_0, bI_1, bI_01, Bool.false_eq_true, reduceCtorEq, hN2, hW2, show ¬ 0 ≤ W2 by omega, hb']
                    cases rdP f (snN 0 (q1 ++ q2)) (snI (hld f) (fun _ => 0) (q1 ++ q2)) pl2 <;> simp [bB]
                  · obtain ⟨hw15, hb'⟩ := hse2.2 hw
                    simp only [u_M_isSeen_0, u_M_isSeen_1, u_M_isSeen_4, u_M_isSeen_7, u_M_isSeen_8, u_M_isSeen_11, u_M_isSeen_12, u_M_isSeen_15, u_M_isSeen_16, u_M_isSeen_17, u_M_isSeen_18, u_M_isSeen_19, u_M_isSeen_22, u_M_isSeen_23, u_M_isSeen_26, u_M_isSeen_27, u_M_isSeen_30, u_M_isSeen_31, u_M_isSeen_34, u_M_isSeen_35, u_M_isSeen_38, u_M_isSeen_39, u_M_isSeen_40, u_M_isSeen_43, u_M_isSeen_44, u_M_isSeen_45, u_M_isSeen_46, u_M_isSeen_47, u_M_isSeen_50, u_M_isSeen_51, u_M_isSeen_54, u_M_isSeen_55, h1_156, gt_156_52, pt_156_52, gt_156_47, pt_156_47, gt_156_51, pt_156_51, gt_156_48, h1_181, h2_181, gt_181, pt_181, gt_156_53, pt_156_53, ne_eq, not_false_eq_true, not_true_eq_false, true_and, and_true, true_or, or_true, eq_self, Option.toList_some, Option.toList_none, List.cons_append, List.nil_append, tc_0, tc_I, tc_L, tc_A, Nat.reduceAdd, Nat.reduceLeDiff, Nat.reduceEqDiff, Int.reduceEq, Int.reduceLT, Int.reduceLE, Int.reduceNeg, Int.reduceToNat, Int.cast_ofNat_Int, if_true, if_false, and_self, or_self, ite_self, bI_0, bI_1, bI_01, Bool.false_eq_true, reduceCtorEq, hI2, hW2, hw, show W2 < 16 by omega, hb']
                    cases rdP f (snN 0 (q1 ++ q2)) (snI (hld f) (fun _ => 0) (q1 ++ q2)) pl2 <;> simp [bB]
                by_cases c3 : rdP f (snN 0 (q1 ++ q2)) (snI (hld f) (fun _ => 0) (q1 ++ q2)) pl2 = true
                · rw [if_pos (Or.inr (Or.inr c3))] at hSt
                  simp only [u_M_doSwap_187, u_M_doSwap_189, u_M_doSwap_192, u_M_doSwap_194, u_M_doSwap_197, u_M_doSwap_198, u_M_doSwap_201, u_M_doSwap_204, u_M_doSwap_206, h1_156, ne_eq, not_false_eq_true, not_true_eq_false, true_and, and_true, true_or, or_true, eq_self, Option.toList_some, Option.toList_none, List.cons_append, List.nil_append, tc_0, tc_I, tc_L, tc_A, Nat.reduceAdd, Nat.reduceLeDiff, Nat.reduceEqDiff, Int.reduceEq, Int.reduceLT, Int.reduceLE, Int.reduceNeg, Int.reduceToNat, Int.cast_ofNat_Int, if_true, if_false, and_self, or_self, ite_self, bI_0, bI_1, bI_01, Bool.false_eq_true, reduceCtorEq, hseen, c3, bB_t, u_M_doChange_38]
                  rw [← hSt.1]
                  exact hQ _ TH (FZ_Y hy2) (RSt_fr hS hSt.2 hy2)
                · have c3' : rdP f (snN 0 (q1 ++ q2)) (snI (hld f) (fun _ => 0) (q1 ++ q2)) pl2 = false := by simpa using c3
                  rw [if_neg (fun hh => by rcases hh with hh | hh | hh; exact c1 hh; exact c2 hh; exact c3 hh)] at hSt
                  obtain ⟨hc0, hfx⟩ := hSt
                  subst hc0
                  have h276 : VV L (d + 3 * c + 8) m_M_doSwap 276 [some (tA 156), some (tI r), some (tI (40 * (r : Int) + q)), some (tI N1), some (tI W1), some (tI I1), some (tI l6), some (tI 0), some (tI 0), some (tL (ldP f pl)), none, some (tL (ldP f pl2)), none] [] (WW F t g2) (fun r_1 w1 => VV L (d + 3 * c + 9) m_M_doChange 38 [some (tA 156), some (tI r), some (tI (40 * (r : Int) + q)), some (tI 3), none, none, none, none, none, none, none] (r_1.toList ++ []) w1 Q) := by
                    have hc1 := RC_ld hRC hok
                    have hc2 := RC_ld hRC hok2
                    simp only [u_M_doSwap_276, u_M_doSwap_277, u_M_doSwap_279, h1_156, ne_eq, not_false_eq_true, not_true_eq_false, true_and, and_true, true_or, or_true, eq_self, Option.toList_some, Option.toList_none, List.cons_append, List.nil_append, tc_0, tc_I, tc_L, tc_A, Nat.reduceAdd, Nat.reduceLeDiff, Nat.reduceEqDiff, Int.reduceEq, Int.reduceLT, Int.reduceLE, Int.reduceNeg, Int.reduceToNat, Int.cast_ofNat_Int, if_true, if_false, and_self, or_self, ite_self, bI_0, bI_1, bI_01, Bool.false_eq_true, reduceCtorEq]
                    refine p_M_gives (v := ldP f pl) hS2 hok2 hplM2 ?_ (fun g3 z1 z2 z3 z4 z5 => ?_)
                    · match pl2, hkk with
                      | .inl k, _ => rfl
                      | .inr (r', i'), hkk => show ldP f pl = cutI (f 31 (f 29 r'.toNat).toNat) (ldP f pl); rw [show f 31 (f 29 r'.toNat).toNat = kdP f pl from hkk.symm, hc1]
                    generalize hg4 : mset (mset (mset g3 156 51 N1) 156 52 W1) 156 53 I1 = g4
                    have hy4 : FY g3 g4 := fun b j hh => by rw [← hg4, rd, if_neg (by omega), rd, if_neg (by omega), rd, if_neg (by omega)]
                    have hS4 : RSt (stP f (ldP f pl) pl2) g4 TH := RSt_fr z5 FX_refl hy4
                    have hok4 : OkP (stP f (ldP f pl) pl2) pl := (stP_ok hok2 hok).1
                    have hpl4 : PlM g4 pl := by
                      have v51 : g4 156 51 = N1 := by rw [← hg4, rd, if_neg (by omega), rd, if_neg (by omega), rd, if_pos (by simp)]
                      have v52 : g4 156 52 = W1 := by rw [← hg4, rd, if_neg (by omega), rd, if_pos (by simp)]
                      have v53 : g4 156 53 = I1 := by rw [← hg4, rd, if_pos (by simp)]
                      match pl, hpl1' with
                      | .inl k, hpl1' => exact ⟨by rw [v51]; exact hpl1'.1, by rw [v52]; exact hpl1'.2⟩
                      | .inr (r', i'), hpl1' => exact ⟨by rw [v52, hy4 175 _ (by omega), z3]; exact hpl1'.1, by rw [v53]; exact hpl1'.2⟩
                    simp only [u_M_doSwap_282, u_M_doSwap_283, u_M_doSwap_284, u_M_doSwap_287, u_M_doSwap_288, u_M_doSwap_290, u_M_doSwap_293, u_M_doSwap_294, u_M_doSwap_296, u_M_doSwap_299, u_M_doSwap_300, u_M_doSwap_302, h1_156, pt_156_51, pt_156_52, pt_156_53, ne_eq, not_false_eq_true, not_true_eq_false, true_and, and_true, true_or, or_true, eq_self, Option.toList_some, Option.toList_none, List.cons_append, List.nil_append, tc_0, tc_I, tc_L, tc_A, Nat.reduceAdd, Nat.reduceLeDiff, Nat.reduceEqDiff, Int.reduceEq, Int.reduceLT, Int.reduceLE, Int.reduceNeg, Int.reduceToNat, Int.cast_ofNat_Int, if_true, if_false, and_self, or_self, ite_self, bI_0, bI_1, bI_01, Bool.false_eq_true, reduceCtorEq, hg4]
                    refine p_M_gives (v := ldP f pl2) hS4 hok4 hpl4 ?_ (fun g5 y1 y2 y3 y4 y5 => ?_)
                    · match pl, hkk, hok with
                      | .inl k, _, _ => rfl
                      | .inr (r', i'), hkk, hok =>
                        have k29 : stP f (ldP f (.inr (r', i'))) pl2 29 r'.toNat = f 29 r'.toNat := by
                          match pl2, hok2 with
                          | .inl k, _ => simp only [stP, rd]; rw [if_neg (by omega), if_neg (by omega)]
                          | .inr (r2, i2), hok2 => have := hok2.2.2.1; simp only [stP, rd]; rw [if_neg (by omega)]
                        have k31 : ∀ z, stP f (ldP f (.inr (r', i'))) pl2 31 z = f 31 z := by
                          intro z
                          match pl2, hok2 with
                          | .inl k, _ => simp only [stP, rd]; rw [if_neg (by omega), if_neg (by omega)]
                          | .inr (r2, i2), hok2 => have := hok2.2.2.1; simp only [stP, rd]; rw [if_neg (by omega)]
                        show ldP f pl2 = cutI (stP f (ldP f (.inr (r', i'))) pl2 31 (stP f (ldP f (.inr (r', i'))) pl2 29 r'.toNat).toNat) (ldP f pl2)
                        rw [k29, k31, show f 31 (f 29 r'.toNat).toNat = kdP f pl2 from hkk, hc2]
                    · simp only [u_M_doSwap_305, u_M_doSwap_306, ne_eq, not_false_eq_true, not_true_eq_false, true_and, and_true, true_or, or_true, eq_self, Option.toList_some, Option.toList_none, List.cons_append, List.nil_append, tc_0, tc_I, tc_L, tc_A, Nat.reduceAdd, Nat.reduceLeDiff, Nat.reduceEqDiff, Int.reduceEq, Int.reduceLT, Int.reduceLE, Int.reduceNeg, Int.reduceToNat, Int.cast_ofNat_Int, if_true, if_false, and_self, or_self, ite_self, bI_0, bI_1, bI_01, Bool.false_eq_true, reduceCtorEq, u_M_doChange_38]
                      rw [stP_comm hok hok2 c1] at y5
                      exact hQ _ TH (FZ_tr (FZ_Y hy2) (FZ_tr z1 (FZ_tr (FZ_Y hy4) y1))) (RSt_fr y5 hfx FY_refl)
                  rcases Int.lt_or_le W1 0 with hw | hw
                  · obtain ⟨u1, u2, u3⟩ := hld1.1 hw
                    rcases Int.lt_or_le W2 0 with hw2 | hw2
                    · obtain ⟨v1, v2, v3⟩ := hld2.1 hw2
                      simp only [u_M_doSwap_187, u_M_doSwap_189, u_M_doSwap_192, u_M_doSwap_194, u_M_doSwap_197, u_M_doSwap_198, u_M_doSwap_201, u_M_doSwap_204, u_M_doSwap_206, u_M_doSwap_207, u_M_doSwap_209, u_M_doSwap_212, u_M_doSwap_213, u_M_doSwap_216, u_M_doSwap_217, u_M_doSwap_218, u_M_doSwap_219, u_M_doSwap_222, u_M_doSwap_223, u_M_doSwap_226, u_M_doSwap_228, u_M_doSwap_230, u_M_doSwap_231, u_M_doSwap_233, u_M_doSwap_234, u_M_doSwap_235, u_M_doSwap_237, u_M_doSwap_238, u_M_doSwap_241, u_M_doSwap_244, u_M_doSwap_245, u_M_doSwap_248, u_M_doSwap_249, u_M_doSwap_252, u_M_doSwap_253, u_M_doSwap_254, u_M_doSwap_257, u_M_doSwap_258, u_M_doSwap_261, u_M_doSwap_263, u_M_doSwap_264, u_M_doSwap_267, u_M_doSwap_268, u_M_doSwap_269, u_M_doSwap_272, u_M_doSwap_273, u_M_doSwap_274, h1_156, gt_156_36, gt_156_52, gt_156_51, h1_174, h2_174, gt_174, pt_174, ne_eq, not_false_eq_true, not_true_eq_false, true_and, and_true, true_or, or_true, eq_self, Option.toList_some, Option.toList_none, List.cons_append, List.nil_append, tc_0, tc_I, tc_L, tc_A, Nat.reduceAdd, Nat.reduceLeDiff, Nat.reduceEqDiff, Int.reduceEq, Int.reduceLT, Int.reduceLE, Int.reduceNeg, Int.reduceToNat, Int.cast_ofNat_Int, if_true, if_false, and_self, or_self, ite_self, bI_0, bI_1, bI_01, Bool.false_eq_true, reduceCtorEq, hseen, c3', bB_f, hN2, hW2, show ¬ 0 ≤ W1 by omega, show ¬ 0 ≤ W2 by omega, u1, u2, u3, v1, v2, v3]
                      exact h276
                    · obtain ⟨v1, v2, v3, v4, v5⟩ := hld2.2 hw2
                      simp only [u_M_doSwap_187, u_M_doSwap_189, u_M_doSwap_192, u_M_doSwap_194, u_M_doSwap_197, u_M_doSwap_198, u_M_doSwap_201, u_M_doSwap_204, u_M_doSwap_206, u_M_doSwap_207, u_M_doSwap_209, u_M_doSwap_212, u_M_doSwap_213, u_M_doSwap_216, u_M_doSwap_217, u_M_doSwap_218, u_M_doSwap_219, u_M_doSwap_222, u_M_doSwap_223, u_M_doSwap_226, u_M_doSwap_228, u_M_doSwap_230, u_M_doSwap_231, u_M_doSwap_233, u_M_doSwap_234, u_M_doSwap_235, u_M_doSwap_237, u_M_doSwap_238, u_M_doSwap_241, u_M_doSwap_244, u_M_doSwap_245, u_M_doSwap_248, u_M_doSwap_249, u_M_doSwap_252, u_M_doSwap_253, u_M_doSwap_254, u_M_doSwap_257, u_M_doSwap_258, u_M_doSwap_261, u_M_doSwap_263, u_M_doSwap_264, u_M_doSwap_267, u_M_doSwap_268, u_M_doSwap_269, u_M_doSwap_272, u_M_doSwap_273, u_M_doSwap_274, h1_156, gt_156_36, gt_156_41, gt_156_52, gt_156_53, h1_174, h2_174, gt_174, pt_174, h1_178, h2_178, gt_178, pt_178, ne_eq, not_false_eq_true, not_true_eq_false, true_and, and_true, true_or, or_true, eq_self, Option.toList_some, Option.toList_none, List.cons_append, List.nil_append, tc_0, tc_I, tc_L, tc_A, Nat.reduceAdd, Nat.reduceLeDiff, Nat.reduceEqDiff, Int.reduceEq, Int.reduceLT, Int.reduceLE, Int.reduceNeg, Int.reduceToNat, Int.cast_ofNat_Int, if_true, if_false, and_self, or_self, ite_self, bI_0, bI_1, bI_01, Bool.false_eq_true, reduceCtorEq, hseen, c3', bB_f, hW2, hI2, show ¬ 0 ≤ W1 by omega, hw2, u1, u2, u3, v1, v2, v3, v4, v5]
                      exact h276
                  · obtain ⟨u1, u2, u3, u4, u5⟩ := hld1.2 hw
                    rcases Int.lt_or_le W2 0 with hw2 | hw2
                    · obtain ⟨v1, v2, v3⟩ := hld2.1 hw2
                      simp only [u_M_doSwap_187, u_M_doSwap_189, u_M_doSwap_192, u_M_doSwap_194, u_M_doSwap_197, u_M_doSwap_198, u_M_doSwap_201, u_M_doSwap_204, u_M_doSwap_206, u_M_doSwap_207, u_M_doSwap_209, u_M_doSwap_212, u_M_doSwap_213, u_M_doSwap_216, u_M_doSwap_217, u_M_doSwap_218, u_M_doSwap_219, u_M_doSwap_222, u_M_doSwap_223, u_M_doSwap_226, u_M_doSwap_228, u_M_doSwap_230, u_M_doSwap_231, u_M_doSwap_233, u_M_doSwap_234, u_M_doSwap_235, u_M_doSwap_237, u_M_doSwap_238, u_M_doSwap_241, u_M_doSwap_244, u_M_doSwap_245, u_M_doSwap_248, u_M_doSwap_249, u_M_doSwap_252, u_M_doSwap_253, u_M_doSwap_254, u_M_doSwap_257, u_M_doSwap_258, u_M_doSwap_261, u_M_doSwap_263, u_M_doSwap_264, u_M_doSwap_267, u_M_doSwap_268, u_M_doSwap_269, u_M_doSwap_272, u_M_doSwap_273, u_M_doSwap_274, h1_156, gt_156_36, gt_156_41, gt_156_52, gt_156_51, h1_174, h2_174, gt_174, pt_174, h1_178, h2_178, gt_178, pt_178, ne_eq, not_false_eq_true, not_true_eq_false, true_and, and_true, true_or, or_true, eq_self, Option.toList_some, Option.toList_none, List.cons_append, List.nil_append, tc_0, tc_I, tc_L, tc_A, Nat.reduceAdd, Nat.reduceLeDiff, Nat.reduceEqDiff, Int.reduceEq, Int.reduceLT, Int.reduceLE, Int.reduceNeg, Int.reduceToNat, Int.cast_ofNat_Int, if_true, if_false, and_self, or_self, ite_self, bI_0, bI_1, bI_01, Bool.false_eq_true, reduceCtorEq, hseen, c3', bB_f, hN2, hW2, hw, show ¬ 0 ≤ W2 by omega, u1, u2, u3, u4, u5, v1, v2, v3]
                      exact h276
                    · obtain ⟨v1, v2, v3, v4, v5⟩ := hld2.2 hw2
                      simp only [u_M_doSwap_187, u_M_doSwap_189, u_M_doSwap_192, u_M_doSwap_194, u_M_doSwap_197, u_M_doSwap_198, u_M_doSwap_201, u_M_doSwap_204, u_M_doSwap_206, u_M_doSwap_207, u_M_doSwap_209, u_M_doSwap_212, u_M_doSwap_213, u_M_doSwap_216, u_M_doSwap_217, u_M_doSwap_218, u_M_doSwap_219, u_M_doSwap_222, u_M_doSwap_223, u_M_doSwap_226, u_M_doSwap_228, u_M_doSwap_230, u_M_doSwap_231, u_M_doSwap_233, u_M_doSwap_234, u_M_doSwap_235, u_M_doSwap_237, u_M_doSwap_238, u_M_doSwap_241, u_M_doSwap_244, u_M_doSwap_245, u_M_doSwap_248, u_M_doSwap_249, u_M_doSwap_252, u_M_doSwap_253, u_M_doSwap_254, u_M_doSwap_257, u_M_doSwap_258, u_M_doSwap_261, u_M_doSwap_263, u_M_doSwap_264, u_M_doSwap_267, u_M_doSwap_268, u_M_doSwap_269, u_M_doSwap_272, u_M_doSwap_273, u_M_doSwap_274, h1_156, gt_156_41, gt_156_52, gt_156_53, h1_178, h2_178, gt_178, pt_178, ne_eq, not_false_eq_true, not_true_eq_false, true_and, and_true, true_or, or_true, eq_self, Option.toList_some, Option.toList_none, List.cons_append, List.nil_append, tc_0, tc_I, tc_L, tc_A, Nat.reduceAdd, Nat.reduceLeDiff, Nat.reduceEqDiff, Int.reduceEq, Int.reduceLT, Int.reduceLE, Int.reduceNeg, Int.reduceToNat, Int.cast_ofNat_Int, if_true, if_false, and_self, or_self, ite_self, bI_0, bI_1, bI_01, Bool.false_eq_true, reduceCtorEq, hseen, c3', bB_f, hW2, hI2, hw, hw2, u1, u2, u3, u4, u5, v1, v2, v3, v4, v5]
                      exact h276
          have h139 : ∀ s1 : Int, s1 = bB (decide (spC f pl = spC f pl2)) → VV L (d + 3 * c + 8) m_M_doSwap 139 [some (tA 156), some (tI r), some (tI (40 * (r : Int) + q)), some (tI N1), some (tI W1), some (tI I1), some (tI l6), some (tI s1), none, none, none, none, none] [] (WW F t g2) (fun r_1 w1 => VV L (d + 3 * c + 9) m_M_doChange 38 [some (tA 156), some (tI r), some (tI (40 * (r : Int) + q)), some (tI 3), none, none, none, none, none, none, none] (r_1.toList ++ []) w1 Q) := by
            intro s1 e1
            rcases Int.lt_or_le W1 0 with hw | hw
            · have hb' := hse1.1 hw
              by_cases c2 : rdP f (snN 0 (q1 ++ q2)) (snI (hld f) (fun _ => 0) (q1 ++ q2)) pl = true
              · rw [c2, bB_t] at hb'
                simp only [u_M_doSwap_139, u_M_doSwap_141, u_M_doSwap_144, u_M_doSwap_145, u_M_doSwap_148, u_M_doSwap_149, u_M_doSwap_150, u_M_doSwap_151, u_M_doSwap_152, u_M_doSwap_153, u_M_doSwap_156, u_M_doSwap_157, u_M_doSwap_160, u_M_doSwap_161, u_M_doSwap_164, u_M_doSwap_165, u_M_doSwap_168, u_M_doSwap_170, u_M_doSwap_171, u_M_doSwap_173, u_M_doSwap_174, u_M_doSwap_175, u_M_doSwap_176, u_M_doSwap_177, u_M_doSwap_180, u_M_doSwap_181, u_M_doSwap_184, u_M_doSwap_185, h1_156, gt_156_47, ne_eq, not_false_eq_true, not_true_eq_false, true_and, and_true, true_or, or_true, eq_self, Option.toList_some, Option.toList_none, List.cons_append, List.nil_append, tc_0, tc_I, tc_L, tc_A, Nat.reduceAdd, Nat.reduceLeDiff, Nat.reduceEqDiff, Int.reduceEq, Int.reduceLT, Int.reduceLE, Int.reduceNeg, Int.reduceToNat, Int.cast_ofNat_Int, if_true, if_false, and_self, or_self, ite_self, bI_0, bI_1, bI_01, Bool.false_eq_true, reduceCtorEq, show ¬ 0 ≤ W1 by omega, hb']
                exact h187 s1 1 e1 (by rw [c2]; rfl)
              · have c2' : rdP f (snN 0 (q1 ++ q2)) (snI (hld f) (fun _ => 0) (q1 ++ q2)) pl = false := by simpa using c2
                rw [c2', bB_f] at hb'
                simp only [u_M_doSwap_139, u_M_doSwap_141, u_M_doSwap_144, u_M_doSwap_145, u_M_doSwap_148, u_M_doSwap_149, u_M_doSwap_150, u_M_doSwap_151, u_M_doSwap_152, u_M_doSwap_153, u_M_doSwap_156, u_M_doSwap_157, u_M_doSwap_160, u_M_doSwap_161, u_M_doSwap_164, u_M_doSwap_165, u_M_doSwap_168, u_M_doSwap_170, u_M_doSwap_171, u_M_doSwap_173, u_M_doSwap_174, u_M_doSwap_175, u_M_doSwap_176, u_M_doSwap_177, u_M_doSwap_180, u_M_doSwap_181, u_M_doSwap_184, u_M_doSwap_185, h1_156, gt_156_47, ne_eq, not_false_eq_true, not_true_eq_false, true_and, and_true, true_or, or_true, eq_self, Option.toList_some, Option.toList_none, List.cons_append, List.nil_append, tc_0, tc_I, tc_L, tc_A, Nat.reduceAdd, Nat.reduceLeDiff, Nat.reduceEqDiff, Int.reduceEq, Int.reduceLT, Int.reduceLE, Int.reduceNeg, Int.reduceToNat, Int.cast_ofNat_Int, if_true, if_false, and_self, or_self, ite_self, bI_0, bI_1, bI_01, Bool.false_eq_true, reduceCtorEq, show ¬ 0 ≤ W1 by omega, hb']
                exact h187 s1 0 e1 (by rw [c2']; rfl)
            · obtain ⟨hw15, hb'⟩ := hse1.2 hw
              by_cases c2 : rdP f (snN 0 (q1 ++ q2)) (snI (hld f) (fun _ => 0) (q1 ++ q2)) pl = true
              · rw [c2, bB_t] at hb'
                simp only [u_M_doSwap_139, u_M_doSwap_141, u_M_doSwap_144, u_M_doSwap_145, u_M_doSwap_148, u_M_doSwap_149, u_M_doSwap_150, u_M_doSwap_151, u_M_doSwap_152, u_M_doSwap_153, u_M_doSwap_156, u_M_doSwap_157, u_M_doSwap_160, u_M_doSwap_161, u_M_doSwap_164, u_M_doSwap_165, u_M_doSwap_168, u_M_doSwap_170, u_M_doSwap_171, u_M_doSwap_173, u_M_doSwap_174, u_M_doSwap_175, u_M_doSwap_176, u_M_doSwap_177, u_M_doSwap_180, u_M_doSwap_181, u_M_doSwap_184, u_M_doSwap_185, h1_156, gt_156_48, h1_181, h2_181, gt_181, pt_181, ne_eq, not_false_eq_true, not_true_eq_false, true_and, and_true, true_or, or_true, eq_self, Option.toList_some, Option.toList_none, List.cons_append, List.nil_append, tc_0, tc_I, tc_L, tc_A, Nat.reduceAdd, Nat.reduceLeDiff, Nat.reduceEqDiff, Int.reduceEq, Int.reduceLT, Int.reduceLE, Int.reduceNeg, Int.reduceToNat, Int.cast_ofNat_Int, if_true, if_false, and_self, or_self, ite_self, bI_0, bI_1, bI_01, Bool.false_eq_true, reduceCtorEq, hw, show W1 < 16 by omega, hb']
                exact h187 s1 1 e1 (by rw [c2]; rfl)
              · have c2' : rdP f (snN 0 (q1 ++ q2)) (snI (hld f) (fun _ => 0) (q1 ++ q2)) pl = false := by simpa using c2
                rw [c2', bB_f] at hb'
                simp only [u_M_doSwap_139, u_M_doSwap_141, u_M_doSwap_144, u_M_doSwap_145, u_M_doSwap_148, u_M_doSwap_149, u_M_doSwap_150, u_M_doSwap_151, u_M_doSwap_152, u_M_doSwap_153, u_M_doSwap_156, u_M_doSwap_157, u_M_doSwap_160, u_M_doSwap_161, u_M_doSwap_164, u_M_doSwap_165, u_M_doSwap_168, u_M_doSwap_170, u_M_doSwap_171, u_M_doSwap_173, u_M_doSwap_174, u_M_doSwap_175, u_M_doSwap_176, u_M_doSwap_177, u_M_doSwap_180, u_M_doSwap_181, u_M_doSwap_184, u_M_doSwap_185, h1_156, gt_156_48, h1_181, h2_181, gt_181, pt_181, ne_eq, not_false_eq_true, not_true_eq_false, true_and, and_true, true_or, or_true, eq_self, Option.toList_some, Option.toList_none, List.cons_append, List.nil_append, tc_0, tc_I, tc_L, tc_A, Nat.reduceAdd, Nat.reduceLeDiff, Nat.reduceEqDiff, Int.reduceEq, Int.reduceLT, Int.reduceLE, Int.reduceNeg, Int.reduceToNat, Int.cast_ofNat_Int, if_true, if_false, and_self, or_self, ite_self, bI_0, bI_1, bI_01, Bool.false_eq_true, reduceCtorEq, hw, show W1 < 16 by omega, hb']
                exact h187 s1 0 e1 (by rw [c2']; rfl)
          rcases Int.lt_or_le W1 0 with hw | hw
          · have hs' := hsm.1 hw
            by_cases c1 : W2 < 0
            · by_cases c2 : N1 = N2
              · simp only [u_M_doSwap_86, u_M_doSwap_88, u_M_doSwap_91, u_M_doSwap_92, u_M_doSwap_95, u_M_doSwap_98, u_M_doSwap_99, u_M_doSwap_100, u_M_doSwap_103, u_M_doSwap_106, u_M_doSwap_107, u_M_doSwap_110, u_M_doSwap_111, u_M_doSwap_114, u_M_doSwap_115, u_M_doSwap_118, u_M_doSwap_120, u_M_doSwap_123, u_M_doSwap_124, u_M_doSwap_127, u_M_doSwap_129, u_M_doSwap_132, u_M_doSwap_133, u_M_doSwap_136, u_M_doSwap_137, h1_156, gt_156_52, gt_156_51, ne_eq, not_false_eq_true, not_true_eq_false, true_and, and_true, true_or, or_true, eq_self, Option.toList_some, Option.toList_none, List.cons_append, List.nil_append, tc_0, tc_I, tc_L, tc_A, Nat.reduceAdd, Nat.reduceLeDiff, Nat.reduceEqDiff, Int.reduceEq, Int.reduceLT, Int.reduceLE, Int.reduceNeg, Int.reduceToNat, Int.cast_ofNat_Int, if_true, if_false, and_self, or_self, ite_self, bI_0, bI_1, bI_01, Bool.false_eq_true, reduceCtorEq, show ¬ 0 ≤ W1 by omega, hW2, hN2, show ¬ 0 ≤ W2 by omega, c2]
                subst c2
                exact h139 1 (by rw [hs'.mpr ⟨c1, rfl⟩]; simp [bB])
              · simp only [u_M_doSwap_86, u_M_doSwap_88, u_M_doSwap_91, u_M_doSwap_92, u_M_doSwap_95, u_M_doSwap_98, u_M_doSwap_99, u_M_doSwap_100, u_M_doSwap_103, u_M_doSwap_106, u_M_doSwap_107, u_M_doSwap_110, u_M_doSwap_111, u_M_doSwap_114, u_M_doSwap_115, u_M_doSwap_118, u_M_doSwap_120, u_M_doSwap_123, u_M_doSwap_124, u_M_doSwap_127, u_M_doSwap_129, u_M_doSwap_132, u_M_doSwap_133, u_M_doSwap_136, u_M_doSwap_137, h1_156, gt_156_52, gt_156_51, ne_eq, not_false_eq_true, not_true_eq_false, true_and, and_true, true_or, or_true, eq_self, Option.toList_some, Option.toList_none, List.cons_append, List.nil_append, tc_0, tc_I, tc_L, tc_A, Nat.reduceAdd, Nat.reduceLeDiff, Nat.reduceEqDiff, Int.reduceEq, Int.reduceLT, Int.reduceLE, Int.reduceNeg, Int.reduceToNat, Int.cast_ofNat_Int, if_true, if_false, and_self, or_self, ite_self, bI_0, bI_1, bI_01, Bool.false_eq_true, reduceCtorEq, show ¬ 0 ≤ W1 by omega, hW2, hN2, show ¬ 0 ≤ W2 by omega, c2]
                exact h139 0 (by have : ¬ spC f pl = spC f pl2 := fun hh => c2 (hs'.mp hh).2; simp [bB, this])
            · simp only [u_M_doSwap_86, u_M_doSwap_88, u_M_doSwap_91, u_M_doSwap_92, u_M_doSwap_95, u_M_doSwap_98, u_M_doSwap_99, u_M_doSwap_100, u_M_doSwap_103, u_M_doSwap_106, u_M_doSwap_107, u_M_doSwap_110, u_M_doSwap_111, u_M_doSwap_114, u_M_doSwap_115, u_M_doSwap_118, u_M_doSwap_120, u_M_doSwap_123, u_M_doSwap_124, u_M_doSwap_127, u_M_doSwap_129, u_M_doSwap_132, u_M_doSwap_133, u_M_doSwap_136, u_M_doSwap_137, h1_156, gt_156_52, ne_eq, not_false_eq_true, not_true_eq_false, true_and, and_true, true_or, or_true, eq_self, Option.toList_some, Option.toList_none, List.cons_append, List.nil_append, tc_0, tc_I, tc_L, tc_A, Nat.reduceAdd, Nat.reduceLeDiff, Nat.reduceEqDiff, Int.reduceEq, Int.reduceLT, Int.reduceLE, Int.reduceNeg, Int.reduceToNat, Int.cast_ofNat_Int, if_true, if_false, and_self, or_self, ite_self, bI_0, bI_1, bI_01, Bool.false_eq_true, reduceCtorEq, show ¬ 0 ≤ W1 by omega, hW2, show 0 ≤ W2 by omega]
              exact h139 0 (by have : ¬ spC f pl = spC f pl2 := fun hh => c1 (hs'.mp hh).1; simp [bB, this])
          · have hs' := hsm.2 hw
            by_cases c1 : W2 = W1
            · by_cases c2 : I2 = I1
              · simp only [u_M_doSwap_86, u_M_doSwap_88, u_M_doSwap_91, u_M_doSwap_92, u_M_doSwap_95, u_M_doSwap_98, u_M_doSwap_99, u_M_doSwap_100, u_M_doSwap_103, u_M_doSwap_106, u_M_doSwap_107, u_M_doSwap_110, u_M_doSwap_111, u_M_doSwap_114, u_M_doSwap_115, u_M_doSwap_118, u_M_doSwap_120, u_M_doSwap_123, u_M_doSwap_124, u_M_doSwap_127, u_M_doSwap_129, u_M_doSwap_132, u_M_doSwap_133, u_M_doSwap_136, u_M_doSwap_137, h1_156, gt_156_52, gt_156_53, ne_eq, not_false_eq_true, not_true_eq_false, true_and, and_true, true_or, or_true, eq_self, Option.toList_some, Option.toList_none, List.cons_append, List.nil_append, tc_0, tc_I, tc_L, tc_A, Nat.reduceAdd, Nat.reduceLeDiff, Nat.reduceEqDiff, Int.reduceEq, Int.reduceLT, Int.reduceLE, Int.reduceNeg, Int.reduceToNat, Int.cast_ofNat_Int, if_true, if_false, and_self, or_self, ite_self, bI_0, bI_1, bI_01, Bool.false_eq_true, reduceCtorEq, hw, hW2, hI2, c1, c2]
                exact h139 1 (by rw [hs'.mpr ⟨c1, c2⟩]; simp [bB])
              · simp only [u_M_doSwap_86, u_M_doSwap_88, u_M_doSwap_91, u_M_doSwap_92, u_M_doSwap_95, u_M_doSwap_98, u_M_doSwap_99, u_M_doSwap_100, u_M_doSwap_103, u_M_doSwap_106, u_M_doSwap_107, u_M_doSwap_110, u_M_doSwap_111, u_M_doSwap_114, u_M_doSwap_115, u_M_doSwap_118, u_M_doSwap_120, u_M_doSwap_123, u_M_doSwap_124, u_M_doSwap_127, u_M_doSwap_129, u_M_doSwap_132, u_M_doSwap_133, u_M_doSwap_136, u_M_doSwap_137, h1_156, gt_156_52, gt_156_53, ne_eq, not_false_eq_true, not_true_eq_false, true_and, and_true, true_or, or_true, eq_self, Option.toList_some, Option.toList_none, List.cons_append, List.nil_append, tc_0, tc_I, tc_L, tc_A, Nat.reduceAdd, Nat.reduceLeDiff, Nat.reduceEqDiff, Int.reduceEq, Int.reduceLT, Int.reduceLE, Int.reduceNeg, Int.reduceToNat, Int.cast_ofNat_Int, if_true, if_false, and_self, or_self, ite_self, bI_0, bI_1, bI_01, Bool.false_eq_true, reduceCtorEq, hw, hW2, hI2, c1, c2]
                exact h139 0 (by have : ¬ spC f pl = spC f pl2 := fun hh => c2 (hs'.mp hh).2; simp [bB, this])
            · simp only [u_M_doSwap_86, u_M_doSwap_88, u_M_doSwap_91, u_M_doSwap_92, u_M_doSwap_95, u_M_doSwap_98, u_M_doSwap_99, u_M_doSwap_100, u_M_doSwap_103, u_M_doSwap_106, u_M_doSwap_107, u_M_doSwap_110, u_M_doSwap_111, u_M_doSwap_114, u_M_doSwap_115, u_M_doSwap_118, u_M_doSwap_120, u_M_doSwap_123, u_M_doSwap_124, u_M_doSwap_127, u_M_doSwap_129, u_M_doSwap_132, u_M_doSwap_133, u_M_doSwap_136, u_M_doSwap_137, h1_156, gt_156_52, ne_eq, not_false_eq_true, not_true_eq_false, true_and, and_true, true_or, or_true, eq_self, Option.toList_some, Option.toList_none, List.cons_append, List.nil_append, tc_0, tc_I, tc_L, tc_A, Nat.reduceAdd, Nat.reduceLeDiff, Nat.reduceEqDiff, Int.reduceEq, Int.reduceLT, Int.reduceLE, Int.reduceNeg, Int.reduceToNat, Int.cast_ofNat_Int, if_true, if_false, and_self, or_self, ite_self, bI_0, bI_1, bI_01, Bool.false_eq_true, reduceCtorEq, hw, hW2, c1]
              exact h139 0 (by have : ¬ spC f pl = spC f pl2 := fun hh => c1 (hs'.mp hh).1; simp [bB, this])
        rcases hk1 with ⟨x1, x2⟩ | ⟨x1, x2, x3⟩
        · rcases hk2 with ⟨y1, y2⟩ | ⟨y1, y2, y3⟩
          · simp only [u_M_doSwap_28, u_M_doSwap_29, u_M_doSwap_32, u_M_doSwap_35, u_M_doSwap_36, u_M_doSwap_39, u_M_doSwap_40, u_M_doSwap_42, u_M_doSwap_45, u_M_doSwap_46, u_M_doSwap_49, u_M_doSwap_50, u_M_doSwap_53, u_M_doSwap_55, u_M_doSwap_56, u_M_doSwap_58, u_M_doSwap_60, u_M_doSwap_61, u_M_doSwap_64, u_M_doSwap_67, u_M_doSwap_68, u_M_doSwap_71, u_M_doSwap_72, u_M_doSwap_75, u_M_doSwap_76, u_M_doSwap_79, u_M_doSwap_80, h1_156, gt_156_46, gt_156_52, ne_eq, not_false_eq_true, not_true_eq_false, true_and, and_true, true_or, or_true, eq_self, Option.toList_some, Option.toList_none, List.cons_append, List.nil_append, tc_0, tc_I, tc_L, tc_A, Nat.reduceAdd, Nat.reduceLeDiff, Nat.reduceEqDiff, Int.reduceEq, Int.reduceLT, Int.reduceLE, Int.reduceNeg, Int.reduceToNat, Int.cast_ofNat_Int, if_true, if_false, and_self, or_self, ite_self, bI_0, bI_1, bI_01, Bool.false_eq_true, reduceCtorEq, b2, hW2, show ¬ 0 ≤ W1 by omega, show ¬ 0 ≤ W2 by omega]
            exact h86 _
          · have y3' : g2 176 W2.toNat = 0 := by rw [y3, ← hkk, x2]
            simp only [u_M_doSwap_28, u_M_doSwap_29, u_M_doSwap_32, u_M_doSwap_35, u_M_doSwap_36, u_M_doSwap_39, u_M_doSwap_40, u_M_doSwap_42, u_M_doSwap_45, u_M_doSwap_46, u_M_doSwap_49, u_M_doSwap_50, u_M_doSwap_53, u_M_doSwap_55, u_M_doSwap_56, u_M_doSwap_58, u_M_doSwap_60, u_M_doSwap_61, u_M_doSwap_64, u_M_doSwap_67, u_M_doSwap_68, u_M_doSwap_71, u_M_doSwap_72, u_M_doSwap_75, u_M_doSwap_76, u_M_doSwap_79, u_M_doSwap_80, h1_156, gt_156_46, gt_156_52, gt_156_39, h1_176, h2_176, gt_176, pt_176, ne_eq, not_false_eq_true, not_true_eq_false, true_and, and_true, true_or, or_true, eq_self, Option.toList_some, Option.toList_none, List.cons_append, List.nil_append, tc_0, tc_I, tc_L, tc_A, Nat.reduceAdd, Nat.reduceLeDiff, Nat.reduceEqDiff, Int.reduceEq, Int.reduceLT, Int.reduceLE, Int.reduceNeg, Int.reduceToNat, Int.cast_ofNat_Int, if_true, if_false, and_self, or_self, ite_self, bI_0, bI_1, bI_01, Bool.false_eq_true, reduceCtorEq, b2, hW2, show ¬ 0 ≤ W1 by omega, y1, show W2 < 16 by omega, y3']
            exact h86 _
        · rcases hk2 with ⟨y1, y2⟩ | ⟨y1, y2, y3⟩
          · have x3' : g2 176 W1.toNat = 0 := by rw [x3, hkk, y2]
            simp only [u_M_doSwap_28, u_M_doSwap_29, u_M_doSwap_32, u_M_doSwap_35, u_M_doSwap_36, u_M_doSwap_39, u_M_doSwap_40, u_M_doSwap_42, u_M_doSwap_45, u_M_doSwap_46, u_M_doSwap_49, u_M_doSwap_50, u_M_doSwap_53, u_M_doSwap_55, u_M_doSwap_56, u_M_doSwap_58, u_M_doSwap_60, u_M_doSwap_61, u_M_doSwap_64, u_M_doSwap_67, u_M_doSwap_68, u_M_doSwap_71, u_M_doSwap_72, u_M_doSwap_75, u_M_doSwap_76, u_M_doSwap_79, u_M_doSwap_80, h1_156, gt_156_46, gt_156_52, gt_156_39, h1_176, h2_176, gt_176, pt_176, ne_eq, not_false_eq_true, not_true_eq_false, true_and, and_true, true_or, or_true, eq_self, Option.toList_some, Option.toList_none, List.cons_append, List.nil_append, tc_0, tc_I, tc_L, tc_A, Nat.reduceAdd, Nat.reduceLeDiff, Nat.reduceEqDiff, Int.reduceEq, Int.reduceLT, Int.reduceLE, Int.reduceNeg, Int.reduceToNat, Int.cast_ofNat_Int, if_true, if_false, and_self, or_self, ite_self, bI_0, bI_1, bI_01, Bool.false_eq_true, reduceCtorEq, b2, hW2, x1, show W1 < 16 by omega, x3', show ¬ 0 ≤ W2 by omega]
            exact h86 _
          · have y3' : g2 176 W2.toNat = g2 176 W1.toNat := by rw [y3, x3, hkk]
            simp only [u_M_doSwap_28, u_M_doSwap_29, u_M_doSwap_32, u_M_doSwap_35, u_M_doSwap_36, u_M_doSwap_39, u_M_doSwap_40, u_M_doSwap_42, u_M_doSwap_45, u_M_doSwap_46, u_M_doSwap_49, u_M_doSwap_50, u_M_doSwap_53, u_M_doSwap_55, u_M_doSwap_56, u_M_doSwap_58, u_M_doSwap_60, u_M_doSwap_61, u_M_doSwap_64, u_M_doSwap_67, u_M_doSwap_68, u_M_doSwap_71, u_M_doSwap_72, u_M_doSwap_75, u_M_doSwap_76, u_M_doSwap_79, u_M_doSwap_80, h1_156, gt_156_46, gt_156_52, gt_156_39, h1_176, h2_176, gt_176, pt_176, ne_eq, not_false_eq_true, not_true_eq_false, true_and, and_true, true_or, or_true, eq_self, Option.toList_some, Option.toList_none, List.cons_append, List.nil_append, tc_0, tc_I, tc_L, tc_A, Nat.reduceAdd, Nat.reduceLeDiff, Nat.reduceEqDiff, Int.reduceEq, Int.reduceLT, Int.reduceLE, Int.reduceNeg, Int.reduceToNat, Int.cast_ofNat_Int, if_true, if_false, and_self, or_self, ite_self, bI_0, bI_1, bI_01, Bool.false_eq_true, reduceCtorEq, b2, hW2, x1, show W1 < 16 by omega, y1, show W2 < 16 by omega, y3']
            exact h86 _
      · rw [if_neg hkk] at hSt
        have fin : Q (some (tI 10)) (WW F t g2) := by rw [← hSt.1]; exact hQ _ TH (FZ_Y hy2) (RSt_fr hS hSt.2 hy2)
        rcases hk1 with ⟨x1, x2⟩ | ⟨x1, x2, x3⟩
        · rcases hk2 with ⟨y1, y2⟩ | ⟨y1, y2, y3⟩
          · exact absurd (x2.trans y2.symm) hkk
          · have y3' : ¬ 0 = g2 176 W2.toNat := by rw [y3, ← x2]; exact hkk
            simp only [u_M_doSwap_28, u_M_doSwap_29, u_M_doSwap_32, u_M_doSwap_35, u_M_doSwap_36, u_M_doSwap_39, u_M_doSwap_40, u_M_doSwap_42, u_M_doSwap_45, u_M_doSwap_46, u_M_doSwap_49, u_M_doSwap_50, u_M_doSwap_53, u_M_doSwap_55, u_M_doSwap_56, u_M_doSwap_58, u_M_doSwap_60, u_M_doSwap_61, u_M_doSwap_64, u_M_doSwap_67, u_M_doSwap_68, u_M_doSwap_71, u_M_doSwap_72, u_M_doSwap_75, u_M_doSwap_76, u_M_doSwap_79, u_M_doSwap_80, u_M_doSwap_83, u_M_doSwap_85, h1_156, gt_156_46, gt_156_52, gt_156_39, h1_176, h2_176, gt_176, pt_176, ne_eq, not_false_eq_true, not_true_eq_false, true_and, and_true, true_or, or_true, eq_self, Option.toList_some, Option.toList_none, List.cons_append, List.nil_append, tc_0, tc_I, tc_L, tc_A, Nat.reduceAdd, Nat.reduceLeDiff, Nat.reduceEqDiff, Int.reduceEq, Int.reduceLT, Int.reduceLE, Int.reduceNeg, Int.reduceToNat, Int.cast_ofNat_Int, if_true, if_false, and_self, or_self, ite_self, bI_0, bI_1, bI_01, Bool.false_eq_true, reduceCtorEq, b2, hW2, show ¬ 0 ≤ W1 by omega, y1, show W2 < 16 by omega, y3', u_M_doChange_38]
            exact fin
        · rcases hk2 with ⟨y1, y2⟩ | ⟨y1, y2, y3⟩
          · have x3' : ¬ g2 176 W1.toNat = 0 := by rw [x3, ← y2]; exact hkk
            simp only [u_M_doSwap_28, u_M_doSwap_29, u_M_doSwap_32, u_M_doSwap_35, u_M_doSwap_36, u_M_doSwap_39, u_M_doSwap_40, u_M_doSwap_42, u_M_doSwap_45, u_M_doSwap_46, u_M_doSwap_49, u_M_doSwap_50, u_M_doSwap_53, u_M_doSwap_55, u_M_doSwap_56, u_M_doSwap_58, u_M_doSwap_60, u_M_doSwap_61, u_M_doSwap_64, u_M_doSwap_67, u_M_doSwap_68, u_M_doSwap_71, u_M_doSwap_72, u_M_doSwap_75, u_M_doSwap_76, u_M_doSwap_79, u_M_doSwap_80, u_M_doSwap_83, u_M_doSwap_85, h1_156, gt_156_46, gt_156_52, gt_156_39, h1_176, h2_176, gt_176, pt_176, ne_eq, not_false_eq_true, not_true_eq_false, true_and, and_true, true_or, or_true, eq_self, Option.toList_some, Option.toList_none, List.cons_append, List.nil_append, tc_0, tc_I, tc_L, tc_A, Nat.reduceAdd, Nat.reduceLeDiff, Nat.reduceEqDiff, Int.reduceEq, Int.reduceLT, Int.reduceLE, Int.reduceNeg, Int.reduceToNat, Int.cast_ofNat_Int, if_true, if_false, and_self, or_self, ite_self, bI_0, bI_1, bI_01, Bool.false_eq_true, reduceCtorEq, b2, hW2, x1, show W1 < 16 by omega, x3', show ¬ 0 ≤ W2 by omega, u_M_doChange_38]
            exact fin
          · have y3' : ¬ g2 176 W1.toNat = g2 176 W2.toNat := by rw [y3, x3]; exact hkk
            simp only [u_M_doSwap_28, u_M_doSwap_29, u_M_doSwap_32, u_M_doSwap_35, u_M_doSwap_36, u_M_doSwap_39, u_M_doSwap_40, u_M_doSwap_42, u_M_doSwap_45, u_M_doSwap_46, u_M_doSwap_49, u_M_doSwap_50, u_M_doSwap_53, u_M_doSwap_55, u_M_doSwap_56, u_M_doSwap_58, u_M_doSwap_60, u_M_doSwap_61, u_M_doSwap_64, u_M_doSwap_67, u_M_doSwap_68, u_M_doSwap_71, u_M_doSwap_72, u_M_doSwap_75, u_M_doSwap_76, u_M_doSwap_79, u_M_doSwap_80, u_M_doSwap_83, u_M_doSwap_85, h1_156, gt_156_46, gt_156_52, gt_156_39, h1_176, h2_176, gt_176, pt_176, ne_eq, not_false_eq_true, not_true_eq_false, true_and, and_true, true_or, or_true, eq_self, Option.toList_some, Option.toList_none, List.cons_append, List.nil_append, tc_0, tc_I, tc_L, tc_A, Nat.reduceAdd, Nat.reduceLeDiff, Nat.reduceEqDiff, Int.reduceEq, Int.reduceLT, Int.reduceLE, Int.reduceNeg, Int.reduceToNat, Int.cast_ofNat_Int, if_true, if_false, and_self, or_self, ite_self, bI_0, bI_1, bI_01, Bool.false_eq_true, reduceCtorEq, b2, hW2, x1, show W1 < 16 by omega, y1, show W2 < 16 by omega, y3', u_M_doChange_38]
            exact fin
end
