/-! Worth: sumAt, find -/
def FW5 (f f' : Mem) : Prop := ∀ b j, ¬ (b = 150 ∨ (b = 149 ∧ (j = 3 ∨ j = 5 ∨ j = 6 ∨ j = 7))) → f' b j = f b j
theorem FW5_refl {f : Mem} : FW5 f f := fun _ _ _ => rfl
theorem FW5_tr {f f1 f2 : Mem} (h : FW5 f f1) (h' : FW5 f1 f2) : FW5 f f2 := fun b j hh => (h' b j hh).trans (h b j hh)
theorem FW5_of {f f1 : Mem} (h : FW f f1) : FW5 f f1 := fun b j hh => h b j (by omega)
theorem EnC_FW5 {f f' : Mem} {E : Env} (h : EnC f E) (hf : FW5 f f') : EnC f' E := by
  refine ⟨fun k hk => ?_, fun r hr => ?_, fun n hn => ?_, fun r i hr h0 hi => ?_, fun r i hr h0 hi => ?_⟩
  · rw [hf 20 k (by omega), hf 21 k (by omega)]; exact h.n k hk
  · rw [hf 29 r (by omega), hf 32 _ (by omega)]; exact h.r r hr
  · rw [hf 32 n (by omega)]; exact h.c n hn
  · rw [hf 29 r (by omega)] at h0
    rw [hf 29 r (by omega), hf 32 _ (by omega)] at hi
    rw [hf 29 r (by omega), hf _ _ (by have := h.r r hr; omega)]
    exact h.i r i hr h0 hi
  · rw [hf 29 r (by omega)] at h0
    rw [hf 29 r (by omega), hf 149 4 (by omega)]
    exact h.b r i hr h0 hi
theorem hld_FW5 {f f' : Mem} (hf : FW5 f f') : hld f' = hld f := by funext r; exact hf 29 _ (by omega)
def VQ5 (f : Mem) (N : Nat) (I : Nat → Nat) (t g : Mem) (Q : Option TV → Wd → Prop) : Rs → Prop
  | .ok (v, q) => ∀ f', FW5 f f' → f' 149 7 = 0 → WS f' (snN N q) (snI (hld f) I q) → Q (some (tL v)) (WW f' t g)
  | .error w => ∀ f' v, FW5 f f' → f' 149 7 = w → ¬ w = 0 → Q (some (tL v)) (WW f' t g)
abbrev Pl : Type := Int ⊕ (Int × Int)
def vP {c : Nat} (E : Env) : PP c → Except Int (Pl × List (Int × Int))
  | .inl n => match E.1 (n - 97) with
    | none => .error 1
    | some _ => .ok (.inl (n - 97), [])
  | .inr (r, e) => match vI E (r - 65) (vE (vF E c) e) with
    | .error w => .error w
    | .ok (i, q) => .ok (.inr (r - 65, i), q)
def spC (f : Mem) : Pl → Int
  | .inl k => k
  | .inr (r, i) => 26 + f 29 r.toNat * 12 + i
def VP5 (f : Mem) (N : Nat) (I : Nat → Nat) (t g : Mem) (Q : Option TV → Wd → Prop) : Except Int (Pl × List (Int × Int)) → Prop
  | .ok (p, q) => ∀ f', FW5 f f' → f' 149 7 = 0 → WS f' (snN N q) (snI (hld f) I q) → Q (some (tI (spC f p))) (WW f' t g)
  | .error w => ∀ f' v, FW5 f f' → f' 149 7 = w → ¬ w = 0 → Q (some (tI v)) (WW f' t g)
section
variable {L a c : Nat} {t g f : Mem} {E : Env} {N : Nat} {I : Nat → Nat} {i j : Int} {Q : Option TV → Wd → Prop}
theorem p_Wo_sumAt {D : Nat} (hT : isT a) (hl : t a 1 ≤ 1000) (hc : c ≤ 12) (hD : 5 * c + 4 ≤ D) (e : EE c) (he : wX e) (hE : EnC f E) (hW : WS f N I) (h7 : f 149 7 = 0) (hi : 0 ≤ i) (hs : seg (tok t a) i j (kX e)) (hj : kSum (tok t a j) = false) (hj2 : kPro (tok t a j) = false) (hQ : VQ5 f N I t g Q (vE (vF E c) e)) : VV L (D + 3) m_Wo_sumAt 0 [some (tA 149), some (tA a), some (tI i)] [] (WW f t g) Q := by
  have a0 := xT_0 hT
  obtain ⟨d, rfl⟩ : ∃ d, D = d + 1 := ⟨D - 1, by omega⟩
  have hF : FW5 f (mset (mset f 149 5 a) 149 6 i) := fun b k hh => by rw [rd, if_neg (by omega), rd, if_neg (by omega)]
  simp only [u_Wo_sumAt_0, u_Wo_sumAt_1, u_Wo_sumAt_2, u_Wo_sumAt_5, u_Wo_sumAt_6, u_Wo_sumAt_7, u_Wo_sumAt_10, u_Wo_sumAt_11, u_Wo_sumAt_12, u_Wo_sumAt_15, h1_149, gt_149_5, pt_149_5, gt_149_6, pt_149_6, ne_eq, not_false_eq_true, not_true_eq_false, true_and, and_true, true_or, or_true, eq_self, Option.toList_some, Option.toList_none, List.cons_append, List.nil_append, tc_0, tc_I, tc_L, tc_A, Nat.reduceAdd, Nat.reduceLeDiff, Nat.reduceEqDiff, Int.reduceEq, Int.reduceLT, Int.reduceLE, Int.reduceNeg, Int.reduceToNat, Int.cast_ofNat_Int, if_true, if_false, and_self, or_self, ite_self, bI_0, bI_1, bI_01, Bool.false_eq_true, reduceCtorEq, a0]
  refine p_Wo_sum (D := d) hT hl (p_Wo_factor hT hl c (d + 1) 0 (by omega) (by omega) (by omega)) e he _ E N I i j _ (EnC_FW5 hE hF) (WS_m (WS_m hW (by omega)) (by omega)) (by rw [rd, if_neg (by omega), rd, if_pos (by simp)]; simp) (by rw [rd, if_pos (by simp)]) (by rw [rd, if_neg (by omega), rd, if_neg (by omega)]; exact h7) hi hs ⟨hj, hj2⟩ ?_
  show VQ _ _ _ _ _ _ _ (vE (vF E c) e)
  cases hv : vE (vF E c) e with
  | error w => rw [hv] at hQ; intro f' u a1 a2 a3; simp only [u_Wo_sumAt_15, ne_eq, not_false_eq_true, not_true_eq_false, true_and, and_true, true_or, or_true, eq_self, Option.toList_some, Option.toList_none, List.cons_append, List.nil_append, tc_0, tc_I, tc_L, tc_A, Nat.reduceAdd, Nat.reduceLeDiff, Nat.reduceEqDiff, Int.reduceEq, Int.reduceLT, Int.reduceLE, Int.reduceNeg, Int.reduceToNat, Int.cast_ofNat_Int, if_true, if_false, and_self, or_self, ite_self, bI_0, bI_1, bI_01, Bool.false_eq_true, reduceCtorEq]; exact hQ f' _ (FW5_tr hF (FW5_of a1)) a2 a3
  | ok z =>
    obtain ⟨v, q⟩ := z
    rw [hv] at hQ
    intro f' a1 a2 a3 a4
    rw [hld_FW5 hF] at a4
    simp only [u_Wo_sumAt_15, ne_eq, not_false_eq_true, not_true_eq_false, true_and, and_true, true_or, or_true, eq_self, Option.toList_some, Option.toList_none, List.cons_append, List.nil_append, tc_0, tc_I, tc_L, tc_A, Nat.reduceAdd, Nat.reduceLeDiff, Nat.reduceEqDiff, Int.reduceEq, Int.reduceLT, Int.reduceLE, Int.reduceNeg, Int.reduceToNat, Int.cast_ofNat_Int, if_true, if_false, and_self, or_self, ite_self, bI_0, bI_1, bI_01, Bool.false_eq_true, reduceCtorEq]
    exact hQ f' (FW5_tr hF (FW5_of a1)) a3 a4
theorem p_Wo_find {D : Nat} (hT : isT a) (hl : t a 1 ≤ 1000) (hc : c ≤ 11) (hD : 5 * c + 6 ≤ D) (p : PP c) (hp : wP p) (hE : EnC f E) (hW : WS f N I) (h7 : f 149 7 = 0) (hi : 0 ≤ i) (hs : seg (tok t a) i j (kP p)) (hQ : VP5 f N I t g Q (vP E p)) : VV L (D + 3) m_Wo_find 0 [some (tA 149), some (tA a), some (tI i), none] [] (WW f t g) Q := by
  have a0 := xT_0 hT
  obtain ⟨d, rfl⟩ : ∃ d, D = d + 3 := ⟨D - 3, by omega⟩
  have hF : FW5 f (mset (mset f 149 5 a) 149 6 (i + 1)) := fun b k hh => by rw [rd, if_neg (by omega), rd, if_neg (by omega)]
  have hW1 : WS (mset (mset f 149 5 a) 149 6 (i + 1)) N I := WS_m (WS_m hW (by omega)) (by omega)
  have e5 : ((mset (mset f 149 5 (a : Int)) 149 6 (i + 1)) 149 5).toNat = a := by rw [rd, if_neg (by omega), rd, if_pos (by simp)]; simp
  have e6 : (mset (mset f 149 5 (a : Int)) 149 6 (i + 1)) 149 6 = i + 1 := by rw [rd, if_pos (by simp)]
  have e7 : (mset (mset f 149 5 (a : Int)) 149 6 (i + 1)) 149 7 = 0 := by rw [rd, if_neg (by omega), rd, if_neg (by omega)]; exact h7
  have hE1 := EnC_FW5 hE hF
  match p, hp, hs, hQ with
  | .inl n, hp, hs, hQ =>
    obtain ⟨hv, _⟩ := seg_hd hs
    have hb : 97 ≤ n ∧ n ≤ 122 := by have : kName n = true := hp; unfold kName at this; simpa using this
    have hlt := tok_ne (show ¬ tok t a i = 0 by omega)
    have wi : w32 (i + 1) = i + 1 := w32_id (by omega) (by omega)
    have p3 : kRow n = false := by unfold kRow; simp; omega
    have wn : w32 (n - 97) = n - 97 := w32_id (by omega) (by omega)
    have nN : (((n - 97).toNat : Nat) : Int) = n - 97 := by omega
    have hn := hE1.n (n - 97).toNat (by omega)
    rw [nN] at hn
    unfold vP at hQ
    dsimp only at hQ
    rcases hn with ⟨n1, n2⟩ | ⟨n1, n2⟩
    · rw [n2] at hQ
      have ht : thr (mset (mset f 149 5 (a : Int)) 149 6 (i + 1)) (n - 97) = false := by unfold thr; simp [n1]
      simp only [u_Wo_find_0, u_Wo_find_1, u_Wo_find_2, u_Wo_find_5, u_Wo_find_6, u_Wo_find_7, u_Wo_find_8, u_Wo_find_9, u_Wo_find_12, u_Wo_find_13, u_Wo_find_14, u_Wo_find_17, u_Wo_find_18, u_Wo_find_19, u_Wo_find_22, u_Wo_find_25, u_Wo_find_26, u_Wo_find_29, u_Wo_find_30, u_Wo_find_32, u_Wo_find_33, u_Wo_find_36, u_Wo_find_37, u_Wo_find_38, u_Wo_find_40, u_Wo_find_41, u_Wo_find_42, u_Wo_find_45, u_Wo_find_48, u_Wo_find_49, u_Wo_find_50, u_Wo_find_53, u_Wo_find_54, u_Wo_find_56, u_Wo_find_57, u_Wo_find_60, u_Wo_find_63, u_Wo_find_64, u_Wo_find_65, h1_149, h1_19, pt_149_5, pt_149_6, gt_149_0, xT_h1, ne_eq, not_false_eq_true, not_true_eq_false, true_and, and_true, true_or, or_true, eq_self, Option.toList_some, Option.toList_none, List.cons_append, List.nil_append, tc_0, tc_I, tc_L, tc_A, Nat.reduceAdd, Nat.reduceLeDiff, Nat.reduceEqDiff, Int.reduceEq, Int.reduceLT, Int.reduceLE, Int.reduceNeg, Int.reduceToNat, Int.cast_ofNat_Int, if_true, if_false, and_self, or_self, ite_self, bI_0, bI_1, bI_01, Bool.false_eq_true, reduceCtorEq, a0, hT, wi, s_Tx_token hT hl, hv, s_Tk_isRow, p3, bB_f, wn, s_St_isThere, ht, s_Wo_refuse, e7]
      simp only [u_Wo_find_68, u_Wo_find_69, u_Wo_find_71, u_Wo_find_72, ne_eq, not_false_eq_true, not_true_eq_false, true_and, and_true, true_or, or_true, eq_self, Option.toList_some, Option.toList_none, List.cons_append, List.nil_append, tc_0, tc_I, tc_L, tc_A, Nat.reduceAdd, Nat.reduceLeDiff, Nat.reduceEqDiff, Int.reduceEq, Int.reduceLT, Int.reduceLE, Int.reduceNeg, Int.reduceToNat, Int.cast_ofNat_Int, if_true, if_false, and_self, or_self, ite_self, bI_0, bI_1, bI_01, Bool.false_eq_true, reduceCtorEq, wn]
      refine hQ _ _ (FW5_tr hF (fun b k hh => by rw [rd, if_neg (by omega)])) (by rw [rd, if_pos (by simp)]) (by omega)
    · rw [n2] at hQ
      have ht : thr (mset (mset f 149 5 (a : Int)) 149 6 (i + 1)) (n - 97) = true := by unfold thr; simp [n1]; omega
      simp only [u_Wo_find_0, u_Wo_find_1, u_Wo_find_2, u_Wo_find_5, u_Wo_find_6, u_Wo_find_7, u_Wo_find_8, u_Wo_find_9, u_Wo_find_12, u_Wo_find_13, u_Wo_find_14, u_Wo_find_17, u_Wo_find_18, u_Wo_find_19, u_Wo_find_22, u_Wo_find_25, u_Wo_find_26, u_Wo_find_29, u_Wo_find_30, u_Wo_find_32, u_Wo_find_33, u_Wo_find_36, u_Wo_find_37, u_Wo_find_38, u_Wo_find_40, u_Wo_find_41, u_Wo_find_42, u_Wo_find_45, u_Wo_find_48, u_Wo_find_49, u_Wo_find_50, u_Wo_find_53, u_Wo_find_54, u_Wo_find_56, u_Wo_find_57, u_Wo_find_60, u_Wo_find_63, u_Wo_find_64, u_Wo_find_65, u_Wo_find_68, u_Wo_find_69, u_Wo_find_71, u_Wo_find_72, h1_149, h1_19, pt_149_5, pt_149_6, gt_149_0, xT_h1, ne_eq, not_false_eq_true, not_true_eq_false, true_and, and_true, true_or, or_true, eq_self, Option.toList_some, Option.toList_none, List.cons_append, List.nil_append, tc_0, tc_I, tc_L, tc_A, Nat.reduceAdd, Nat.reduceLeDiff, Nat.reduceEqDiff, Int.reduceEq, Int.reduceLT, Int.reduceLE, Int.reduceNeg, Int.reduceToNat, Int.cast_ofNat_Int, if_true, if_false, and_self, or_self, ite_self, bI_0, bI_1, bI_01, Bool.false_eq_true, reduceCtorEq, a0, hT, wi, s_Tx_token hT hl, hv, s_Tk_isRow, p3, bB_f, bB_t, wn, s_St_isThere, ht]
      exact hQ _ hF e7 hW1
  | .inr (r, e), hp, hs, hQ =>
    obtain ⟨hv, hs⟩ := seg_hd hs
    obtain ⟨h91, hs⟩ := seg_hd hs
    obtain ⟨hs1, hs2⟩ := seg_split hs
    obtain ⟨h93, _⟩ := seg_hd hs2
    have hb : 65 ≤ r ∧ r ≤ 70 := by have : kRow r = true := hp.1; unfold kRow at this; simpa using this
    have hlt := tok_ne (show ¬ tok t a i = 0 by omega)
    have wi : w32 (i + 1) = i + 1 := w32_id (by omega) (by omega)
    have p3 : kRow r = true := hp.1
    have wr : w32 (r - 65) = ((r - 65).toNat : Int) := by rw [w32_id (by omega) (by omega)]; omega
    have rN : (((r - 65).toNat : Nat) : Int) = r - 65 := by omega
    have hrw : rwH (mset (mset f 149 5 (a : Int)) 149 6 (i + 1)) ((r - 65).toNat : Int) = f 29 (r - 65).toNat := by
      unfold rwH; rw [if_pos (by omega), Int.toNat_natCast]; exact hF 29 _ (by omega)
    simp only [u_Wo_find_0, u_Wo_find_1, u_Wo_find_2, u_Wo_find_5, u_Wo_find_6, u_Wo_find_7, u_Wo_find_8, u_Wo_find_9, u_Wo_find_12, u_Wo_find_13, u_Wo_find_14, u_Wo_find_17, u_Wo_find_18, u_Wo_find_19, u_Wo_find_22, u_Wo_find_25, u_Wo_find_26, u_Wo_find_29, u_Wo_find_30, u_Wo_find_32, u_Wo_find_33, u_Wo_find_36, u_Wo_find_37, u_Wo_find_38, u_Wo_find_40, u_Wo_find_41, u_Wo_find_42, h1_149, h1_28, pt_149_5, pt_149_6, gt_149_1, xT_h1, ne_eq, not_false_eq_true, not_true_eq_false, true_and, and_true, true_or, or_true, eq_self, Option.toList_some, Option.toList_none, List.cons_append, List.nil_append, tc_0, tc_I, tc_L, tc_A, Nat.reduceAdd, Nat.reduceLeDiff, Nat.reduceEqDiff, Int.reduceEq, Int.reduceLT, Int.reduceLE, Int.reduceNeg, Int.reduceToNat, Int.cast_ofNat_Int, if_true, if_false, and_self, or_self, ite_self, bI_0, bI_1, bI_01, Bool.false_eq_true, reduceCtorEq, a0, hT, wi, s_Tx_token hT hl, hv, s_Tk_isRow, p3, bB_t, wr, s_Sf_heldByRow, hrw]
    refine p_Wo_itemAhead (D := d + 3) (δ := 0) hT hl (by omega) (by omega) (kf := kF c) (wf := wF c) (vf := fun E => vF E c) (p_Wo_sum (D := d + 1) hT hl (p_Wo_factor hT hl c (d + 2) (0 + 1) (by omega) (by omega) (by omega))) e hp.2 (r := (r - 65).toNat) (by omega) _ E N I (i + 1) _ _ hE1 hW1 e5 e6 e7 (by omega) h91 hs1 h93 ?_
    rw [rN]
    unfold vP at hQ
    dsimp only at hQ
    cases hv2 : vI E (r - 65) (vE (vF E c) e) with
    | error w =>
      rw [hv2] at hQ
      intro f' u a1 a2 a3
      simp only [u_Wo_find_45, u_Wo_find_48, ne_eq, not_false_eq_true, not_true_eq_false, true_and, and_true, true_or, or_true, eq_self, Option.toList_some, Option.toList_none, List.cons_append, List.nil_append, tc_0, tc_I, tc_L, tc_A, Nat.reduceAdd, Nat.reduceLeDiff, Nat.reduceEqDiff, Int.reduceEq, Int.reduceLT, Int.reduceLE, Int.reduceNeg, Int.reduceToNat, Int.cast_ofNat_Int, if_true, if_false, and_self, or_self, ite_self, bI_0, bI_1, bI_01, Bool.false_eq_true, reduceCtorEq, s_Wo_spotOf]
      exact hQ f' _ (FW5_tr hF (FW5_of a1)) a2 a3
    | ok z =>
      obtain ⟨u, q⟩ := z
      rw [hv2] at hQ
      intro f' a1 a2 a3 a4
      rw [hld_FW5 hF] at a4
      have hin : 0 ≤ f 29 (r - 65).toNat ∧ f 29 (r - 65).toNat < 15 ∧ 0 ≤ u ∧ u ≤ 12 := by
        rw [vI_1] at hv2
        cases hv3 : vE (vF E c) e with
        | error w => rw [hv3] at hv2; cases hv2
        | ok z =>
          obtain ⟨u', q'⟩ := z
          rw [hv3] at hv2
          dsimp only at hv2
          have h := hE.r (r - 65).toNat (by omega)
          rw [rN] at h
          rcases h with ⟨n1, n2⟩ | ⟨n1, n3, n2⟩
          · rw [n2] at hv2; cases hv2
          · rw [n2] at hv2
            dsimp only at hv2
            have hcc := hE.c (f 29 (r - 65).toNat).toNat (by omega)
            split at hv2
            · cases hv2
            · cases hv2; omega
      have ws : w32 (w32 (26 + w32 (f 29 (r - 65).toNat * 12)) + u) = 26 + f 29 (r - 65).toNat * 12 + u := by
        rw [w32_id (x := f 29 (r - 65).toNat * 12) (by omega) (by omega), w32_id (x := 26 + f 29 (r - 65).toNat * 12) (by omega) (by omega), w32_id (by omega) (by omega)]
      simp only [u_Wo_find_45, u_Wo_find_48, ne_eq, not_false_eq_true, not_true_eq_false, true_and, and_true, true_or, or_true, eq_self, Option.toList_some, Option.toList_none, List.cons_append, List.nil_append, tc_0, tc_I, tc_L, tc_A, Nat.reduceAdd, Nat.reduceLeDiff, Nat.reduceEqDiff, Int.reduceEq, Int.reduceLT, Int.reduceLE, Int.reduceNeg, Int.reduceToNat, Int.cast_ofNat_Int, if_true, if_false, and_self, or_self, ite_self, bI_0, bI_1, bI_01, Bool.false_eq_true, reduceCtorEq, s_Wo_spotOf, ws]
      exact hQ f' (FW5_tr hF (FW5_of a1)) a3 a4
end
