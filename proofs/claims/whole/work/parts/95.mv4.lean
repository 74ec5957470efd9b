/-! The reference: reckon, findP, seeNothing; the class: start -/
def FM5 (g g' : Mem) : Prop := ∀ b j, ¬ (b = 181 ∨ (b = 156 ∧ 44 ≤ j ∧ j ≤ 47)) → g' b j = g b j
theorem FM5_refl {g : Mem} : FM5 g g := fun _ _ _ => rfl
theorem FM5_tr {f f1 f2 : Mem} (h : FM5 f f1) (h' : FM5 f1 f2) : FM5 f f2 := fun b j hh => (h' b j hh).trans (h b j hh)
theorem FM5_of {f f1 : Mem} (h : FM f f1) : FM5 f f1 := fun b j hh => h b j (by omega)
theorem hlm_FM5 {f f' : Mem} (hf : FM5 f f') : hlm f' = hlm f := by funext r; exact hf 175 _ (by omega)
theorem EnM_FM5 {g g' : Mem} {E : Env} {TH : Nat} (h : EnM g E TH) (hf : FM5 g g') : EnM g' E TH := EnM_fr h (fun b j hh => hf b j (by omega))
theorem RT_FM5 {g g' : Mem} {r len : Nat} {T : Int → Int} (h : RT g r T len) (hf : FM5 g g') : RT g' r T len := RT_fr2 h (fun c k h1 h2 => hf c k (by omega))
def VM5 (g : Mem) (N : Nat) (I : Nat → Nat) (f t : Mem) (Q : Option TV → Wd → Prop) : Rs → Prop
  | .ok (v, q) => ∀ g', FM5 g g' → g' 156 46 = 0 → WM g' (snN N q) (snI (hlm g) I q) → Q (some (tL v)) (WW f t g')
  | .error w => ∀ g' v, FM5 g g' → g' 156 46 = w → ¬ w = 0 → Q (some (tL v)) (WW f t g')
/-- findP: 51 the name, 52 the row, 53 the item -/
def FMP (g g' : Mem) : Prop := ∀ b j, ¬ (b = 181 ∨ (b = 156 ∧ ((44 ≤ j ∧ j ≤ 47) ∨ (51 ≤ j ∧ j ≤ 53)))) → g' b j = g b j
theorem FMP_of {f f1 : Mem} (h : FM5 f f1) : FMP f f1 := fun b j hh => h b j (by omega)
theorem FMP_tr {f f1 f2 : Mem} (h : FMP f f1) (h' : FMP f1 f2) : FMP f f2 := fun b j hh => (h' b j hh).trans (h b j hh)
theorem FMP_m {f : Mem} {j : Nat} {v : Int} (h : (44 ≤ j ∧ j ≤ 47) ∨ (51 ≤ j ∧ j ≤ 53)) : FMP f (mset f 156 j v) := fun b k hh => by rw [rd, if_neg (by omega)]
theorem hlm_FMP {f f' : Mem} (hf : FMP f f') : hlm f' = hlm f := by funext r; exact hf 175 _ (by omega)
theorem EnM_FMP {g g' : Mem} {E : Env} {TH : Nat} (h : EnM g E TH) (hf : FMP g g') : EnM g' E TH := EnM_fr h (fun b j hh => hf b j (by omega))
theorem RT_FMP {g g' : Mem} {r len : Nat} {T : Int → Int} (h : RT g r T len) (hf : FMP g g') : RT g' r T len := RT_fr2 h (fun c k h1 h2 => hf c k (by omega))
def plM (g g' : Mem) : Pl → Prop
  | .inl k => g' 156 51 = k ∧ g' 156 52 = -1
  | .inr (r, i) => g' 156 51 = -1 ∧ g' 156 52 = g 175 r.toNat ∧ g' 156 53 = i
def VMP (g : Mem) (N : Nat) (I : Nat → Nat) (f t : Mem) (Q : Option TV → Wd → Prop) : Except Int (Pl × List (Int × Int)) → Prop
  | .ok (p, q) => ∀ g', FMP g g' → g' 156 46 = 0 → WM g' (snN N q) (snI (hlm g) I q) → plM g g' p → Q none (WW f t g')
  | .error w => ∀ g', FMP g g' → g' 156 46 = w → ¬ w = 0 → Q none (WW f t g')
def zfl (g : Mem) (a n : Nat) (v : Int) : Mem := fun c j => if c = a ∧ j < n then v else g c j
theorem zfl_s {g : Mem} {a n : Nat} {v : Int} : mset (zfl g a n v) a n v = zfl g a (n + 1) v := by
  funext c j; simp only [mset, zfl]; grind
theorem zfl_0 {g : Mem} {a : Nat} {v : Int} : zfl g a 0 v = g := by
  funext c j; simp [zfl]
theorem zfl_o {g : Mem} {a n c j : Nat} {v : Int} (h : ¬ c = a) : zfl g a n v c j = g c j := by simp [zfl, h]
theorem zfl_v {g : Mem} {a n j : Nat} {v : Int} (h : j < n) : zfl g a n v a j = v := by simp [zfl, h]
section
variable {L d r len c : Nat} {f t g : Mem} {T : Int → Int} {Q : Option TV → Wd → Prop} {E : Env} {TH N : Nat} {I : Nat → Nat} {i j v : Int}
theorem p_M_reckon {D : Nat} (hD : 3 * c + 3 ≤ D) (e : EE c) (he : wX e) (hR : RT g r T len) (hE : EnM g E TH) (hW : WM g N I) (hi : 0 ≤ i) (hK : ¬ kEnd (T (i - 1)) = true) (hs : seg T i j (kX e)) (hj : kSum (T j) = false) (hj2 : kPro (T j) = false) (hQ : VM5 g N I f t Q (vE (vF E c) e)) : VV L (D + 3) m_M_reckon 0 [some (tA 156), some (tI r), some (tI i)] [] (WW f t g) Q := by
  obtain ⟨d, rfl⟩ : ∃ d, D = d + 1 := ⟨D - 1, by omega⟩
  have hF : FM5 g (mset (mset (mset g 156 45 r) 156 44 i) 156 46 0) := fun b k hh => by rw [rd, if_neg (by omega), rd, if_neg (by omega), rd, if_neg (by omega)]
  simp only [u_M_reckon_0, u_M_reckon_1, u_M_reckon_2, u_M_reckon_5, u_M_reckon_6, u_M_reckon_7, u_M_reckon_10, u_M_reckon_11, u_M_reckon_12, u_M_reckon_15, u_M_reckon_16, u_M_reckon_19, h1_156, gt_156_45, pt_156_45, gt_156_44, pt_156_44, gt_156_46, pt_156_46, ne_eq, not_false_eq_true, not_true_eq_false, true_and, and_true, true_or, or_true, eq_self, Option.toList_some, Option.toList_none, List.cons_append, List.nil_append, tc_0, tc_I, tc_L, tc_A, Nat.reduceAdd, Nat.reduceLeDiff, Nat.reduceEqDiff, Int.reduceEq, Int.reduceLT, Int.reduceLE, Int.reduceNeg, Int.reduceToNat, Int.cast_ofNat_Int, if_true, if_false, and_self, or_self, ite_self, bI_0, bI_1, bI_01, Bool.false_eq_true, reduceCtorEq]
  refine p_M_sum (D := d) (kF_z c) (p_M_factor c (d + 1) (by omega)) e he _ E TH N I i j _ (RT_FM5 hR hF) (EnM_FM5 hE hF) (WM_m (WM_m (WM_m hW (by omega)) (by omega)) (by omega)) (by rw [rd, if_neg (by omega), rd, if_neg (by omega), rd, if_pos (by simp)]) (by rw [rd, if_neg (by omega), rd, if_pos (by simp)]) (by rw [rd, if_pos (by simp)]) hi hK hs ⟨hj, hj2⟩ ?_
  show VM _ _ _ _ _ _ _ (vE (vF E c) e)
  cases hv : vE (vF E c) e with
  | error w => rw [hv] at hQ; intro g' u a1 a2 a3; simp only [u_M_reckon_19, ne_eq, not_false_eq_true, not_true_eq_false, true_and, and_true, true_or, or_true, eq_self, Option.toList_some, Option.toList_none, List.cons_append, List.nil_append, tc_0, tc_I, tc_L, tc_A, Nat.reduceAdd, Nat.reduceLeDiff, Nat.reduceEqDiff, Int.reduceEq, Int.reduceLT, Int.reduceLE, Int.reduceNeg, Int.reduceToNat, Int.cast_ofNat_Int, if_true, if_false, and_self, or_self, ite_self, bI_0, bI_1, bI_01, Bool.false_eq_true, reduceCtorEq]; exact hQ g' _ (FM5_tr hF (FM5_of a1)) a2 a3
  | ok z =>
    obtain ⟨v, q⟩ := z
    rw [hv] at hQ
    intro g' a1 a2 a3 a4
    rw [hlm_FM5 hF] at a4
    simp only [u_M_reckon_19, ne_eq, not_false_eq_true, not_true_eq_false, true_and, and_true, true_or, or_true, eq_self, Option.toList_some, Option.toList_none, List.cons_append, List.nil_append, tc_0, tc_I, tc_L, tc_A, Nat.reduceAdd, Nat.reduceLeDiff, Nat.reduceEqDiff, Int.reduceEq, Int.reduceLT, Int.reduceLE, Int.reduceNeg, Int.reduceToNat, Int.cast_ofNat_Int, if_true, if_false, and_self, or_self, ite_self, bI_0, bI_1, bI_01, Bool.false_eq_true, reduceCtorEq]
    exact hQ g' (FM5_tr hF (FM5_of a1)) a3 a4
theorem p_M_findP {D : Nat} (hD : 3 * c + 3 ≤ D) (p : PP c) (hp : wP p) (hR : RT g r T len) (hE : EnM g E TH) (hW : WM g N I) (hi : 0 ≤ i) (hs : seg T i j (kP p)) (hQ : VMP g N I f t Q (vP E p)) : VV L (D + 4) m_M_findP 0 [some (tA 156), some (tI r), some (tI i), none, none, none] [] (WW f t g) Q := by
  have hl1 := hR.l1
  generalize hg1 : mset (mset (mset g 156 46 0) 156 51 (-1)) 156 52 (-1) = g1
  have hF : FMP g g1 := fun b k hh => by rw [← hg1, rd, if_neg (by omega), rd, if_neg (by omega), rd, if_neg (by omega)]
  have hW1 : WM g1 N I := by rw [← hg1]; exact WM_m (WM_m (WM_m hW (by omega)) (by omega)) (by omega)
  have hR1 := RT_FMP hR hF
  have hE1 := EnM_FMP hE hF
  have e46 : g1 156 46 = 0 := by rw [← hg1, rd, if_neg (by omega), rd, if_neg (by omega), rd, if_pos (by simp)]
  have e51 : g1 156 51 = -1 := by rw [← hg1, rd, if_neg (by omega), rd, if_pos (by simp)]
  have e52 : g1 156 52 = -1 := by rw [← hg1, rd, if_pos (by simp)]
  match p, hp, hs, hQ with
  | .inl n, hp, hs, hQ =>
    obtain ⟨hv, _⟩ := seg_hd hs
    have hb : 97 ≤ n ∧ n ≤ 122 := by have : kName n = true := hp; unfold kName at this; simpa using this
    have hlt := T_in hR (show ¬ T i = 0 by omega)
    obtain ⟨x1, x2, x3, x4, x5, x6⟩ := hR1.ix hi hlt
    have hn := srt_name (show kName n = true from hp)
    have he : eS T i = 1 := by unfold eS; rw [if_neg (by omega), hv]; exact hn.1
    have nN : (((n - 97).toNat : Nat) : Int) = n - 97 := by omega
    rw [hv, hn.2, ← nN] at x6
    rw [he] at x5
    have hbit : o32 (fun x y => x &&& y) (o32 (fun x y => x >>> (y &&& 31)) (TH : Int) ((n - 97).toNat : Int)) 1 = bB (TH.testBit (n - 97).toNat) := o32_bit (by have := hE.tl; omega) (by omega)
    have e35 : ∀ z, (mset g1 156 51 z) 156 35 = (TH : Int) := fun z => by rw [rd, if_neg (by omega)]; exact hE1.t
    have hen := hE.n (n - 97).toNat (by omega)
    unfold vP at hQ
    dsimp only at hQ
    rw [← nN] at hQ
    rcases hen with ⟨n1, n2⟩ | ⟨n1, n2⟩
    · rw [n2] at hQ
      simp only [u_M_findP_0, u_M_findP_1, u_M_findP_2, u_M_findP_5, u_M_findP_6, u_M_findP_7, u_M_findP_10, u_M_findP_11, u_M_findP_12, u_M_findP_15, u_M_findP_16, u_M_findP_19, u_M_findP_22, u_M_findP_23, u_M_findP_24, u_M_findP_25, u_M_findP_26, u_M_findP_27, u_M_findP_28, u_M_findP_29, u_M_findP_32, u_M_findP_35, u_M_findP_36, u_M_findP_37, u_M_findP_38, u_M_findP_39, u_M_findP_40, u_M_findP_41, u_M_findP_44, u_M_findP_45, u_M_findP_46, u_M_findP_49, u_M_findP_50, u_M_findP_51, u_M_findP_54, u_M_findP_55, u_M_findP_56, u_M_findP_57, u_M_findP_58, u_M_findP_59, u_M_findP_62, u_M_findP_63, u_M_findP_66, u_M_findP_67, u_M_findP_70, h1_156, pt_156_46, pt_156_51, pt_156_52, gt_156_26, gt_156_25, gt_156_35, h1_164, h2_164, gt_164, pt_164, h1_165, h2_165, gt_165, pt_165, ne_eq, not_false_eq_true, not_true_eq_false, true_and, and_true, true_or, or_true, eq_self, Option.toList_some, Option.toList_none, List.cons_append, List.nil_append, tc_0, tc_I, tc_L, tc_A, Nat.reduceAdd, Nat.reduceLeDiff, Nat.reduceEqDiff, Int.reduceEq, Int.reduceLT, Int.reduceLE, Int.reduceNeg, Int.reduceToNat, Int.cast_ofNat_Int, if_true, if_false, and_self, or_self, ite_self, bI_0, bI_1, bI_01, Bool.false_eq_true, reduceCtorEq, hg1, x1, x2, x3, x4, x5, x6, e35, hbit, n1, bB_f]
      exact hQ _ (FMP_tr hF (FMP_tr (FMP_m (by omega)) (FMP_m (by omega)))) (by rw [rd, if_pos (by simp)]) (by omega)
    · rw [n2] at hQ
      simp only [u_M_findP_0, u_M_findP_1, u_M_findP_2, u_M_findP_5, u_M_findP_6, u_M_findP_7, u_M_findP_10, u_M_findP_11, u_M_findP_12, u_M_findP_15, u_M_findP_16, u_M_findP_19, u_M_findP_22, u_M_findP_23, u_M_findP_24, u_M_findP_25, u_M_findP_26, u_M_findP_27, u_M_findP_28, u_M_findP_29, u_M_findP_32, u_M_findP_35, u_M_findP_36, u_M_findP_37, u_M_findP_38, u_M_findP_39, u_M_findP_40, u_M_findP_41, u_M_findP_44, u_M_findP_45, u_M_findP_46, u_M_findP_49, u_M_findP_50, u_M_findP_51, u_M_findP_54, u_M_findP_55, u_M_findP_56, u_M_findP_57, u_M_findP_58, u_M_findP_59, u_M_findP_62, u_M_findP_63, u_M_findP_66, u_M_findP_67, u_M_findP_70, h1_156, pt_156_46, pt_156_51, pt_156_52, gt_156_26, gt_156_25, gt_156_35, h1_164, h2_164, gt_164, pt_164, h1_165, h2_165, gt_165, pt_165, ne_eq, not_false_eq_true, not_true_eq_false, true_and, and_true, true_or, or_true, eq_self, Option.toList_some, Option.toList_none, List.cons_append, List.nil_append, tc_0, tc_I, tc_L, tc_A, Nat.reduceAdd, Nat.reduceLeDiff, Nat.reduceEqDiff, Int.reduceEq, Int.reduceLT, Int.reduceLE, Int.reduceNeg, Int.reduceToNat, Int.cast_ofNat_Int, if_true, if_false, and_self, or_self, ite_self, bI_0, bI_1, bI_01, Bool.false_eq_true, reduceCtorEq, hg1, x1, x2, x3, x4, x5, x6, e35, hbit, n1, bB_t]
      refine hQ _ (FMP_tr hF (FMP_tr (FMP_m (by omega)) (FMP_m (by omega)))) ?_ (WM_m (WM_m hW1 (by omega)) (by omega)) ⟨?_, ?_⟩
      · rw [rd, if_pos (by simp)]
      · rw [rd, if_neg (by omega), rd, if_pos (by simp)]
      · rw [rd, if_neg (by omega), rd, if_neg (by omega)]; exact e52
  | .inr (rr, e), hp, hs, hQ =>
    obtain ⟨hv, hs⟩ := seg_hd hs
    obtain ⟨h91, hs⟩ := seg_hd hs
    obtain ⟨hs1, hs2⟩ := seg_split hs
    obtain ⟨h93, _⟩ := seg_hd hs2
    have hb : 65 ≤ rr ∧ rr ≤ 70 := by have : kRow rr = true := hp.1; unfold kRow at this; simpa using this
    have hlt := T_in hR (show ¬ T i = 0 by omega)
    obtain ⟨x1, x2, x3, x4, x5, x6⟩ := hR1.ix hi hlt
    have hrr := eS_row (T := T) (x := i) (by rw [hv]; exact hp.1)
    have rN : (((rr - 65).toNat : Nat) : Int) = rr - 65 := by omega
    rw [hrr.2, hv, ← rN] at x6
    rw [hrr.1] at x5
    have w2 : w32 (i + 2) = i + 2 := w32_id (by omega) (by omega)
    simp only [u_M_findP_0, u_M_findP_1, u_M_findP_2, u_M_findP_5, u_M_findP_6, u_M_findP_7, u_M_findP_10, u_M_findP_11, u_M_findP_12, u_M_findP_15, u_M_findP_16, u_M_findP_19, u_M_findP_22, u_M_findP_23, u_M_findP_24, u_M_findP_25, u_M_findP_26, u_M_findP_27, u_M_findP_28, u_M_findP_29, u_M_findP_32, u_M_findP_35, u_M_findP_36, u_M_findP_37, u_M_findP_38, u_M_findP_39, u_M_findP_40, u_M_findP_41, u_M_findP_44, u_M_findP_45, u_M_findP_46, u_M_findP_49, u_M_findP_50, u_M_findP_51, u_M_findP_54, u_M_findP_55, u_M_findP_56, u_M_findP_57, u_M_findP_58, u_M_findP_59, u_M_findP_62, u_M_findP_63, u_M_findP_66, u_M_findP_67, u_M_findP_70, u_M_findP_71, u_M_findP_72, u_M_findP_73, u_M_findP_74, u_M_findP_75, u_M_findP_76, h1_156, pt_156_46, pt_156_51, pt_156_52, gt_156_26, gt_156_25, h1_164, h2_164, gt_164, pt_164, h1_165, h2_165, gt_165, pt_165, ne_eq, not_false_eq_true, not_true_eq_false, true_and, and_true, true_or, or_true, eq_self, Option.toList_some, Option.toList_none, List.cons_append, List.nil_append, tc_0, tc_I, tc_L, tc_A, Nat.reduceAdd, Nat.reduceLeDiff, Nat.reduceEqDiff, Int.reduceEq, Int.reduceLT, Int.reduceLE, Int.reduceNeg, Int.reduceToNat, Int.cast_ofNat_Int, if_true, if_false, and_self, or_self, ite_self, bI_0, bI_1, bI_01, Bool.false_eq_true, reduceCtorEq, hg1, x1, x2, x3, x4, x5, x6, w2]
    refine p_M_reckon (D := D) hD e hp.2 hR1 hE1 hW1 (by omega) (by rw [show i + 2 - 1 = i + 1 by omega, h91]; decide) (by rw [show i + 2 = i + 1 + 1 by omega]; exact hs1) (by rw [h93]; decide) (by rw [h93]; decide) ?_
    unfold vP at hQ
    dsimp only at hQ
    rw [vI_1] at hQ
    cases hv2 : vE (vF E c) e with
    | error w =>
      rw [hv2] at hQ
      intro g2 u a1 a2 a3
      simp only [u_M_findP_79, u_M_findP_81, u_M_findP_82, u_M_findP_85, u_M_findP_88, h1_156, gt_156_46, ne_eq, not_false_eq_true, not_true_eq_false, true_and, and_true, true_or, or_true, eq_self, Option.toList_some, Option.toList_none, List.cons_append, List.nil_append, tc_0, tc_I, tc_L, tc_A, Nat.reduceAdd, Nat.reduceLeDiff, Nat.reduceEqDiff, Int.reduceEq, Int.reduceLT, Int.reduceLE, Int.reduceNeg, Int.reduceToNat, Int.cast_ofNat_Int, if_true, if_false, and_self, or_self, ite_self, bI_0, bI_1, bI_01, Bool.false_eq_true, reduceCtorEq, a2, a3]
      exact hQ g2 (FMP_tr hF (FMP_of a1)) a2 a3
    | ok z =>
      obtain ⟨u, q⟩ := z
      rw [hv2] at hQ
      dsimp only at hQ
      intro g2 a1 a2 a3
      rw [hlm_FMP hF] at a3
      have c1 : FMP g g2 := FMP_tr hF (FMP_of a1)
      have c175 : g2 175 (rr - 65).toNat = g 175 (rr - 65).toNat := c1 175 _ (by omega)
      have f51 : g2 156 51 = -1 := by rw [a1 156 51 (by omega)]; exact e51
      have hr' := hE.r (rr - 65).toNat (by omega)
      rw [rN] at hr'
      have p52 : ∀ z : Int, (mset g2 156 52 z) 156 52 = z := fun z => by rw [rd, if_pos (by simp)]
      rcases hr' with ⟨n1, n2⟩ | ⟨n1, n3, n2⟩
      · rw [n2] at hQ
        simp only [u_M_findP_79, u_M_findP_81, u_M_findP_82, u_M_findP_85, u_M_findP_88, u_M_findP_89, u_M_findP_90, u_M_findP_91, u_M_findP_94, u_M_findP_95, u_M_findP_96, u_M_findP_99, u_M_findP_100, u_M_findP_103, u_M_findP_106, u_M_findP_107, u_M_findP_108, u_M_findP_111, u_M_findP_152, h1_156, gt_156_46, pt_156_46, gt_156_37, pt_156_52, gt_156_52, h1_175, h2_175, gt_175, pt_175, ne_eq, not_false_eq_true, not_true_eq_false, true_and, and_true, true_or, or_true, eq_self, Option.toList_some, Option.toList_none, List.cons_append, List.nil_append, tc_0, tc_I, tc_L, tc_A, Nat.reduceAdd, Nat.reduceLeDiff, Nat.reduceEqDiff, Int.reduceEq, Int.reduceLT, Int.reduceLE, Int.reduceNeg, Int.reduceToNat, Int.cast_ofNat_Int, if_true, if_false, and_self, or_self, ite_self, bI_0, bI_1, bI_01, Bool.false_eq_true, reduceCtorEq, a2, show 0 ≤ ((rr - 65).toNat : Int) by omega, show ((rr - 65).toNat : Int) < 14 by omega, Int.toNat_natCast, c175, p52, n1]
        exact hQ _ (FMP_tr c1 (FMP_tr (FMP_m (by omega)) (FMP_m (by omega)))) (by rw [rd, if_pos (by simp)]) (by omega)
      · rw [n2] at hQ
        dsimp only at hQ
        have hc := hE.c (g 175 (rr - 65).toNat).toNat (by omega)
        have c177 : ∀ z : Int, (mset g2 156 52 z) 177 (g 175 (rr - 65).toNat).toNat = g 177 (g 175 (rr - 65).toNat).toNat := fun z => by rw [rd, if_neg (by omega)]; exact c1 177 _ (by omega)
        by_cases hu0 : u < 0
        · rw [if_pos (Or.inl hu0)] at hQ
          simp only [u_M_findP_79, u_M_findP_81, u_M_findP_82, u_M_findP_85, u_M_findP_88, u_M_findP_89, u_M_findP_90, u_M_findP_91, u_M_findP_94, u_M_findP_95, u_M_findP_96, u_M_findP_99, u_M_findP_100, u_M_findP_103, u_M_findP_106, u_M_findP_107, u_M_findP_108, u_M_findP_111, u_M_findP_114, u_M_findP_116, u_M_findP_117, u_M_findP_118, u_M_findP_121, u_M_findP_123, u_M_findP_124, u_M_findP_127, u_M_findP_128, u_M_findP_131, u_M_findP_132, u_M_findP_133, u_M_findP_134, u_M_findP_137, u_M_findP_138, u_M_findP_139, u_M_findP_142, u_M_findP_145, u_M_findP_146, u_M_findP_148, u_M_findP_149, u_M_findP_152, h1_156, gt_156_46, pt_156_46, gt_156_37, pt_156_52, gt_156_52, h1_175, h2_175, gt_175, pt_175, ne_eq, not_false_eq_true, not_true_eq_false, true_and, and_true, true_or, or_true, eq_self, Option.toList_some, Option.toList_none, List.cons_append, List.nil_append, tc_0, tc_I, tc_L, tc_A, Nat.reduceAdd, Nat.reduceLeDiff, Nat.reduceEqDiff, Int.reduceEq, Int.reduceLT, Int.reduceLE, Int.reduceNeg, Int.reduceToNat, Int.cast_ofNat_Int, if_true, if_false, and_self, or_self, ite_self, bI_0, bI_1, bI_01, Bool.false_eq_true, reduceCtorEq, a2, show 0 ≤ ((rr - 65).toNat : Int) by omega, show ((rr - 65).toNat : Int) < 14 by omega, Int.toNat_natCast, c175, p52, n1, lc_lt, hu0]
          exact hQ _ (FMP_tr c1 (FMP_tr (FMP_m (by omega)) (FMP_m (by omega)))) (by rw [rd, if_pos (by simp)]) (by omega)
        · by_cases hu1 : u < g 177 (g 175 (rr - 65).toNat).toNat
          · rw [if_neg (by omega)] at hQ
            have wu : w32 u = u := w32_id (by omega) (by omega)
            simp only [u_M_findP_79, u_M_findP_81, u_M_findP_82, u_M_findP_85, u_M_findP_88, u_M_findP_89, u_M_findP_90, u_M_findP_91, u_M_findP_94, u_M_findP_95, u_M_findP_96, u_M_findP_99, u_M_findP_100, u_M_findP_103, u_M_findP_106, u_M_findP_107, u_M_findP_108, u_M_findP_111, u_M_findP_114, u_M_findP_116, u_M_findP_117, u_M_findP_118, u_M_findP_121, u_M_findP_123, u_M_findP_124, u_M_findP_127, u_M_findP_128, u_M_findP_131, u_M_findP_132, u_M_findP_133, u_M_findP_134, u_M_findP_137, u_M_findP_138, u_M_findP_139, u_M_findP_142, u_M_findP_145, u_M_findP_146, u_M_findP_148, u_M_findP_149, u_M_findP_152, h1_156, gt_156_46, pt_156_46, pt_156_53, gt_156_37, gt_156_40, pt_156_52, gt_156_52, h1_175, h2_175, gt_175, pt_175, h1_177, h2_177, gt_177, pt_177, ne_eq, not_false_eq_true, not_true_eq_false, true_and, and_true, true_or, or_true, eq_self, Option.toList_some, Option.toList_none, List.cons_append, List.nil_append, tc_0, tc_I, tc_L, tc_A, Nat.reduceAdd, Nat.reduceLeDiff, Nat.reduceEqDiff, Int.reduceEq, Int.reduceLT, Int.reduceLE, Int.reduceNeg, Int.reduceToNat, Int.cast_ofNat_Int, if_true, if_false, and_self, or_self, ite_self, bI_0, bI_1, bI_01, Bool.false_eq_true, reduceCtorEq, a2, show 0 ≤ ((rr - 65).toNat : Int) by omega, show ((rr - 65).toNat : Int) < 14 by omega, Int.toNat_natCast, c175, p52, n1, show g 175 (rr - 65).toNat < 16 by omega, c177, lc_lt, hu0, hu1, wu]
            refine hQ _ (FMP_tr c1 (FMP_tr (FMP_m (by omega)) (FMP_m (by omega)))) ?_ (WM_m (WM_m a3 (by omega)) (by omega)) ⟨?_, ?_, ?_⟩
            · rw [rd, if_neg (by omega), rd, if_neg (by omega)]; exact a2
            · rw [rd, if_neg (by omega), rd, if_neg (by omega)]; exact f51
            · rw [rd, if_neg (by omega), p52]
            · rw [rd, if_pos (by simp)]
          · rw [if_pos (Or.inr (by omega))] at hQ
            simp only [u_M_findP_79, u_M_findP_81, u_M_findP_82, u_M_findP_85, u_M_findP_88, u_M_findP_89, u_M_findP_90, u_M_findP_91, u_M_findP_94, u_M_findP_95, u_M_findP_96, u_M_findP_99, u_M_findP_100, u_M_findP_103, u_M_findP_106, u_M_findP_107, u_M_findP_108, u_M_findP_111, u_M_findP_114, u_M_findP_116, u_M_findP_117, u_M_findP_118, u_M_findP_121, u_M_findP_123, u_M_findP_124, u_M_findP_127, u_M_findP_128, u_M_findP_131, u_M_findP_132, u_M_findP_133, u_M_findP_134, u_M_findP_137, u_M_findP_138, u_M_findP_139, u_M_findP_142, u_M_findP_145, u_M_findP_146, u_M_findP_148, u_M_findP_149, u_M_findP_152, h1_156, gt_156_46, pt_156_46, gt_156_37, gt_156_40, pt_156_52, gt_156_52, h1_175, h2_175, gt_175, pt_175, h1_177, h2_177, gt_177, pt_177, ne_eq, not_false_eq_true, not_true_eq_false, true_and, and_true, true_or, or_true, eq_self, Option.toList_some, Option.toList_none, List.cons_append, List.nil_append, tc_0, tc_I, tc_L, tc_A, Nat.reduceAdd, Nat.reduceLeDiff, Nat.reduceEqDiff, Int.reduceEq, Int.reduceLT, Int.reduceLE, Int.reduceNeg, Int.reduceToNat, Int.cast_ofNat_Int, if_true, if_false, and_self, or_self, ite_self, bI_0, bI_1, bI_01, Bool.false_eq_true, reduceCtorEq, a2, show 0 ≤ ((rr - 65).toNat : Int) by omega, show ((rr - 65).toNat : Int) < 14 by omega, Int.toNat_natCast, c175, p52, n1, show g 175 (rr - 65).toNat < 16 by omega, c177, lc_lt, hu0, hu1]
            exact hQ _ (FMP_tr c1 (FMP_tr (FMP_m (by omega)) (FMP_m (by omega)))) (by rw [rd, if_pos (by simp)]) (by omega)
def sn0 (g : Mem) : Mem := zfl (mset (mset g 156 47 0) 156 49 (-1)) 181 16 0
theorem l_seeN : ∀ (m k : Nat), k + m = 16 → VV L d m_M_seeNothing 12 [some (tA 156), some (tI k)] [] (WW f t (zfl g 181 k 0)) Q = Q none (WW f t (zfl g 181 16 0)) := by
  intro m
  induction m with
  | zero =>
    intro k hk
    have : k = 16 := by omega
    subst this
    rw [u_M_seeNothing_12]
    simp only [u_M_seeNothing_0, u_M_seeNothing_1, u_M_seeNothing_2, u_M_seeNothing_5, u_M_seeNothing_6, u_M_seeNothing_7, u_M_seeNothing_10, u_M_seeNothing_11, u_M_seeNothing_13, u_M_seeNothing_15, u_M_seeNothing_18, u_M_seeNothing_19, u_M_seeNothing_22, u_M_seeNothing_23, u_M_seeNothing_24, u_M_seeNothing_25, u_M_seeNothing_28, u_M_seeNothing_31, h1_156, gt_156_47, pt_156_47, gt_156_49, pt_156_49, gt_156_48, h1_181, h2_181, gt_181, pt_181, ne_eq, not_false_eq_true, not_true_eq_false, true_and, and_true, true_or, or_true, eq_self, Option.toList_some, Option.toList_none, List.cons_append, List.nil_append, tc_0, tc_I, tc_L, tc_A, Nat.reduceAdd, Nat.reduceLeDiff, Nat.reduceEqDiff, Int.reduceEq, Int.reduceLT, Int.reduceLE, Int.reduceNeg, Int.reduceToNat, Int.cast_ofNat_Int, if_true, if_false, and_self, or_self, ite_self, bI_0, bI_1, bI_01, Bool.false_eq_true, reduceCtorEq, show (16 : Int) ≤ ((16 : Nat) : Int) by omega]
  | succ m ih =>
    intro k hk
    have wk : w32 ((k : Int) + 1) = ((k + 1 : Nat) : Int) := by rw [w32_id (by omega) (by omega)]; omega
    rw [u_M_seeNothing_12]
    simp only [u_M_seeNothing_0, u_M_seeNothing_1, u_M_seeNothing_2, u_M_seeNothing_5, u_M_seeNothing_6, u_M_seeNothing_7, u_M_seeNothing_10, u_M_seeNothing_11, u_M_seeNothing_13, u_M_seeNothing_15, u_M_seeNothing_18, u_M_seeNothing_19, u_M_seeNothing_22, u_M_seeNothing_23, u_M_seeNothing_24, u_M_seeNothing_25, u_M_seeNothing_28, u_M_seeNothing_31, h1_156, gt_156_47, pt_156_47, gt_156_49, pt_156_49, gt_156_48, h1_181, h2_181, gt_181, pt_181, ne_eq, not_false_eq_true, not_true_eq_false, true_and, and_true, true_or, or_true, eq_self, Option.toList_some, Option.toList_none, List.cons_append, List.nil_append, tc_0, tc_I, tc_L, tc_A, Nat.reduceAdd, Nat.reduceLeDiff, Nat.reduceEqDiff, Int.reduceEq, Int.reduceLT, Int.reduceLE, Int.reduceNeg, Int.reduceToNat, Int.cast_ofNat_Int, if_true, if_false, and_self, or_self, ite_self, bI_0, bI_1, bI_01, Bool.false_eq_true, reduceCtorEq, show ¬ (16 : Int) ≤ k by omega, show 0 ≤ (k : Int) by omega, show (k : Int) < 16 by omega, Int.toNat_natCast, wk, zfl_s]
    exact ih (k + 1) (by omega)
theorem s_M_seeNothing : VV L d m_M_seeNothing 0 [some (tA 156), none] [] (WW f t g) Q = Q none (WW f t (sn0 g)) := by
  have h := l_seeN (L := L) (d := d) (f := f) (t := t) (g := mset (mset g 156 47 0) 156 49 (-1)) (Q := Q) 16 0 (by omega)
  rw [zfl_0] at h
  simp only [u_M_seeNothing_0, u_M_seeNothing_1, u_M_seeNothing_2, u_M_seeNothing_5, u_M_seeNothing_6, u_M_seeNothing_7, u_M_seeNothing_10, u_M_seeNothing_11, h1_156, pt_156_47, pt_156_49, ne_eq, not_false_eq_true, not_true_eq_false, true_and, and_true, true_or, or_true, eq_self, Option.toList_some, Option.toList_none, List.cons_append, List.nil_append, tc_0, tc_I, tc_L, tc_A, Nat.reduceAdd, Nat.reduceLeDiff, Nat.reduceEqDiff, Int.reduceEq, Int.reduceLT, Int.reduceLE, Int.reduceNeg, Int.reduceToNat, Int.cast_ofNat_Int, if_true, if_false, and_self, or_self, ite_self, bI_0, bI_1, bI_01, Bool.false_eq_true, reduceCtorEq]
  exact h
theorem l_fill150 : ∀ (m k : Nat), k + m = 15 → VV L d m_JArr_fillI 5 [some (tA 150), some (tI v), some (tI k), some (tI 15)] [] (WW (zfl f 150 k v) t g) Q = Q none (WW (zfl f 150 15 v) t g) := by
  intro m
  induction m with
  | zero =>
    intro k hk
    have : k = 15 := by omega
    subst this
    rw [u_JArr_fillI_5]
    simp only [u_JArr_fillI_6, u_JArr_fillI_7, u_JArr_fillI_10, u_JArr_fillI_11, u_JArr_fillI_12, u_JArr_fillI_13, u_JArr_fillI_14, u_JArr_fillI_17, u_JArr_fillI_20, ne_eq, not_false_eq_true, not_true_eq_false, true_and, and_true, true_or, or_true, eq_self, Option.toList_some, Option.toList_none, List.cons_append, List.nil_append, tc_0, tc_I, tc_L, tc_A, Nat.reduceAdd, Nat.reduceLeDiff, Nat.reduceEqDiff, Int.reduceEq, Int.reduceLT, Int.reduceLE, Int.reduceNeg, Int.reduceToNat, Int.cast_ofNat_Int, if_true, if_false, and_self, or_self, ite_self, bI_0, bI_1, bI_01, Bool.false_eq_true, reduceCtorEq, show (15 : Int) ≤ ((15 : Nat) : Int) by omega]
  | succ m ih =>
    intro k hk
    have wk : w32 ((k : Int) + 1) = ((k + 1 : Nat) : Int) := by rw [w32_id (by omega) (by omega)]; omega
    rw [u_JArr_fillI_5]
    simp only [u_JArr_fillI_6, u_JArr_fillI_7, u_JArr_fillI_10, u_JArr_fillI_11, u_JArr_fillI_12, u_JArr_fillI_13, u_JArr_fillI_14, u_JArr_fillI_17, u_JArr_fillI_20, h1_150, h2_150, gt_150, pt_150, ne_eq, not_false_eq_true, not_true_eq_false, true_and, and_true, true_or, or_true, eq_self, Option.toList_some, Option.toList_none, List.cons_append, List.nil_append, tc_0, tc_I, tc_L, tc_A, Nat.reduceAdd, Nat.reduceLeDiff, Nat.reduceEqDiff, Int.reduceEq, Int.reduceLT, Int.reduceLE, Int.reduceNeg, Int.reduceToNat, Int.cast_ofNat_Int, if_true, if_false, and_self, or_self, ite_self, bI_0, bI_1, bI_01, Bool.false_eq_true, reduceCtorEq, show ¬ (15 : Int) ≤ k by omega, show 0 ≤ (k : Int) by omega, show (k : Int) < 15 by omega, Int.toNat_natCast, wk, zfl_s]
    exact ih (k + 1) (by omega)
def wo0 (f : Mem) : Mem := mset (mset (mset (zfl f 150 15 0) 149 3 0) 149 4 (-1)) 149 7 0
theorem s_Wo_start : VV L (d + 1) m_Wo_start 0 [some (tA 149)] [] (WW f t g) Q = Q none (WW (wo0 f) t g) := by
  have h := fun Q => l_fill150 (L := L) (d := d) (f := f) (t := t) (g := g) (Q := Q) (v := 0) 15 0 (by omega)
  simp only [zfl_0] at h
  have hf : ∀ Q, VV L d m_JArr_fillI 0 [some (tA 150), some (tI 0), none, none] [] (WW f t g) Q = Q none (WW (zfl f 150 15 0) t g) := by
    intro Q
    simp only [u_JArr_fillI_0, u_JArr_fillI_1, u_JArr_fillI_2, u_JArr_fillI_3, u_JArr_fillI_4, h1_150, h2_150, gt_150, pt_150, ne_eq, not_false_eq_true, not_true_eq_false, true_and, and_true, true_or, or_true, eq_self, Option.toList_some, Option.toList_none, List.cons_append, List.nil_append, tc_0, tc_I, tc_L, tc_A, Nat.reduceAdd, Nat.reduceLeDiff, Nat.reduceEqDiff, Int.reduceEq, Int.reduceLT, Int.reduceLE, Int.reduceNeg, Int.reduceToNat, Int.cast_ofNat_Int, if_true, if_false, and_self, or_self, ite_self, bI_0, bI_1, bI_01, Bool.false_eq_true, reduceCtorEq]
    exact h Q
  simp only [u_Wo_start_0, u_Wo_start_1, u_Wo_start_4, u_Wo_start_5, h1_149, gt_149_2, ne_eq, not_false_eq_true, not_true_eq_false, true_and, and_true, true_or, or_true, eq_self, Option.toList_some, Option.toList_none, List.cons_append, List.nil_append, tc_0, tc_I, tc_L, tc_A, Nat.reduceAdd, Nat.reduceLeDiff, Nat.reduceEqDiff, Int.reduceEq, Int.reduceLT, Int.reduceLE, Int.reduceNeg, Int.reduceToNat, Int.cast_ofNat_Int, if_true, if_false, and_self, or_self, ite_self, bI_0, bI_1, bI_01, Bool.false_eq_true, reduceCtorEq, hf]
  simp only [u_Wo_start_8, u_Wo_start_9, u_Wo_start_10, u_Wo_start_13, u_Wo_start_14, u_Wo_start_15, u_Wo_start_18, u_Wo_start_19, u_Wo_start_20, u_Wo_start_23, h1_149, pt_149_3, pt_149_4, pt_149_7, ne_eq, not_false_eq_true, not_true_eq_false, true_and, and_true, true_or, or_true, eq_self, Option.toList_some, Option.toList_none, List.cons_append, List.nil_append, tc_0, tc_I, tc_L, tc_A, Nat.reduceAdd, Nat.reduceLeDiff, Nat.reduceEqDiff, Int.reduceEq, Int.reduceLT, Int.reduceLE, Int.reduceNeg, Int.reduceToNat, Int.cast_ofNat_Int, if_true, if_false, and_self, or_self, ite_self, bI_0, bI_1, bI_01, Bool.false_eq_true, reduceCtorEq]
  rfl
end
