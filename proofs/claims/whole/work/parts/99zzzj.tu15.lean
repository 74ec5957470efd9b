/-! turn, the reference: blocks -/
section
variable {L d r len c : Nat} {f t g : Mem} {T : Int → Int} {Q : Option TV → Wd → Prop} {i j cn dp fr to : Int} {P : List (Int × Int)} {u7 u8 u9 u10 : Option TV} {Y : Type} {kb : Y → List Int} {wb : Y → Prop} {ku : Y → List Int}
theorem SMr_of {k n i j : Int} {e : EE c} (h : RT g r T len) (hn : kName n = true) (he : wX e) (h0 : 0 ≤ i) (hs : seg T i j (k :: n :: 61 :: (kX e ++ [59]))) : SMr g r len T i (j - 1) n (kX e) := by
  have ej := seg_len hs
  simp only [List.length_cons, List.length_append, List.length_nil] at ej
  obtain ⟨r1, hs⟩ := seg_hd hs
  obtain ⟨r2, hs⟩ := seg_hd hs
  obtain ⟨r3, hs⟩ := seg_hd hs
  obtain ⟨r4, hs⟩ := seg_split hs
  obtain ⟨r5, hs⟩ := seg_hd hs
  have e1 : i + 1 + 1 + 1 + ((kX e).length : Int) = j - 1 := by omega
  rw [e1] at r4 r5
  rw [show i + 1 + 1 + 1 = i + 3 by omega] at r4
  rw [show i + 1 + 1 = i + 2 by omega] at r3
  have kl : 1 ≤ (kX e).length := by
    have := kE_z (kF_z c) e he (i + 3) (j - 1) r4
    have := seg_len r4
    omega
  have jl : j - 1 < len := by
    by_cases hq : j - 1 < len
    · exact hq
    · have := h.z (j - 1) (Or.inr (by omega)); omega
  exact ⟨h, h0, r2, r3, r4, r5, jl, kX_e e he, hn, kl, gok_X e he, kX_a e he⟩
theorem s_M_tset {k n : Int} {e : EE c} (h : RT g r T len) (hk : k = 214) (hn : kName n = true) (he : wX e) (h0 : 0 ≤ i) (hsE : ∀ P Q, VV L (d + 4) m_M_stepEnd 0 [some (tA 156), some (tI r), some (tI i), none] [] (WW f t (emM g P)) Q = Q (some (tI j)) (WW f t (emM g P))) (hs : seg T i j (k :: n :: 61 :: (kX e ++ [59]))) (hlen : P.length + (kTu n (kX e)).length ≤ 1600) : ∃ v7 v8 v9 v10, ∀ Q, VV L (d + 5) m_M_turns 10 [some (tA 156), some (tI r), some (tI fr), some (tI to), some (tI dp), some (tI cn), some (tI i), u7, u8, u9, u10] [] (WW f t (emM g P)) Q = (if to ≤ i then VV L (d + 5) m_M_turns 346 [some (tA 156), some (tI r), some (tI fr), some (tI to), some (tI dp), some (tI cn), some (tI i), u7, u8, u9, u10] [] (WW f t (emM g P)) Q else VV L (d + 5) m_M_turns 10 [some (tA 156), some (tI r), some (tI fr), some (tI to), some (tI dp), some (tI cn), some (tI j), v7, v8, v9, v10] [] (WW f t (emM g (P ++ pqL 0 (kTu n (kX e))))) Q) := by
  have hS := SMr_of h hn he h0 hs
  have hjl := hS.hjl
  have hl1 := h.l1
  have r1 := (seg_hd hs).1
  have ej := seg_len hs
  have wj : w32 (j - 1) = j - 1 := w32_id (by omega) (by omega)
  obtain ⟨x1, x2, x3, x4, _, x6⟩ := (RT_em (P := P) h).ix h0 (show i < len by simp only [List.length_cons] at ej; omega)
  have hwk : whc (T i) = 14 := by rw [r1, hk]; decide
  rw [hwk] at x6
  refine ⟨some (tI 14), u8, u9, u10, fun Q => ?_⟩
  have hT := fun Q => s_M_turnSet (L := L) (d := d) (f := f) (t := t) (Q := Q) (P := P) hS hlen
  have hE1 := fun Q => hsE P Q
  have hE2 := fun Q => hsE (P ++ pqL 0 (kTu n (kX e))) Q
  rw [u_M_turns_10]
  by_cases hto : to ≤ i
  · simp only [u_M_turns_12, u_M_turns_13, ne_eq, not_false_eq_true, not_true_eq_false, true_and, and_true, true_or, or_true, eq_self, Option.toList_some, Option.toList_none, List.cons_append, List.nil_append, tc_0, tc_I, tc_L, tc_A, Nat.reduceAdd, Nat.reduceLeDiff, Nat.reduceEqDiff, Int.reduceEq, Int.reduceLT, Int.reduceLE, Int.reduceNeg, Int.reduceToNat, Int.cast_ofNat_Int, if_true, if_false, and_self, or_self, ite_self, bI_0, bI_1, bI_01, Bool.false_eq_true, reduceCtorEq, hto]
  · simp only [u_M_turns_12, u_M_turns_13, u_M_turns_16, u_M_turns_17, u_M_turns_20, u_M_turns_23, u_M_turns_24, u_M_turns_25, u_M_turns_27, u_M_turns_28, u_M_turns_29, u_M_turns_31, u_M_turns_33, u_M_turns_35, u_M_turns_38, u_M_turns_39, u_M_turns_40, u_M_turns_42, u_M_turns_43, u_M_turns_44, u_M_turns_46, u_M_turns_49, u_M_turns_50, u_M_turns_51, u_M_turns_54, u_M_turns_334, u_M_turns_335, u_M_turns_336, u_M_turns_338, u_M_turns_341, u_M_turns_343, h1_156, gt_156_26, h1_165, h2_165, gt_165, pt_165, ne_eq, not_false_eq_true, not_true_eq_false, true_and, and_true, true_or, or_true, eq_self, Option.toList_some, Option.toList_none, List.cons_append, List.nil_append, tc_0, tc_I, tc_L, tc_A, Nat.reduceAdd, Nat.reduceLeDiff, Nat.reduceEqDiff, Int.reduceEq, Int.reduceLT, Int.reduceLE, Int.reduceNeg, Int.reduceToNat, Int.cast_ofNat_Int, if_true, if_false, and_self, or_self, ite_self, bI_0, bI_1, bI_01, Bool.false_eq_true, reduceCtorEq, hto, x1, x2, x3, x4, x6, hE1, wj, hT, hE2]
theorem lstD_l {pv v : Int} {l : List Int} : lstD pv (l ++ [v]) = v := by rw [lstD_app]; rfl
theorem kTu_l {n : Int} {k : List Int} {pv : Int} : lstD pv (kTu n k) = 59 := by
  unfold kTu
  split
  · show lstD (chB (k.getD 1 0)) (k.drop 2 ++ [59]) = 59
    exact lstD_l
  · split
    · rw [lstD_app, lstD_app]; rfl
    · rw [lstD_app]; exact lstD_l
theorem kt1_l {pv : Int} (s : SS c ⊕ CC c Y) (hw : w1 true wb s) : lstD pv (kt1 ku cn s) = 59 := by
  match s, hw with
  | .inl (.inl (k, n, e)), _ => exact kTu_l
  | .inl (.inr s), hw =>
    exfalso
    match s, hw with
    | .inl (q, o, e), hw => exact absurd hw.1 (by decide)
    | .inr (.inl (q, q2)), hw => exact absurd hw.1 (by decide)
    | .inr (.inr (.inl (k, n, s))), hw => exact absurd hw.1 (by decide)
    | .inr (.inr (.inr (.inl (k, r, dd, e)))), hw => exact absurd hw.1 (by decide)
    | .inr (.inr (.inr (.inr (k, n)))), hw => exact absurd hw.1 (by decide)
  | .inr (.inl (k, e, x, y, e2)), hw => exact absurd hw.1 (by decide)
  | .inr (.inr (.inl (e, x, y))), _ =>
    show lstD pv (kWhn cn (kX e) (ku x) (ku y)) = 59
    unfold kWhn
    rw [lstD_app, lstD_app, lstD_app, lstD_app, lstD_app, lstD_app]; rfl
  | .inr (.inr (.inr (e, x))), _ =>
    show lstD pv (kWhl cn (kX e) (ku x)) = 59
    unfold kWhl
    rw [lstD_app, lstD_app, lstD_app, lstD_app]; rfl
theorem l_M_tL (h : RT g r T len) (hb : ∀ x, wb x → ∀ p, 0 < p → Wl brc p (kb x) p) (hR : TRok L (d + 4) r len T f t g kb wb ku (dp + 1)) (hcn : kName cn = true) (hcd : cn - 97 = 24 - dp) (hd : 0 ≤ dp ∧ dp ≤ 7) (hj : j ≤ len) : ∀ (xs : List (SS c ⊕ CC c Y)) (i : Int) (P : List (Int × Int)) (u7 u8 u9 u10 : Option TV), allL (w1 true wb) xs → 0 ≤ i → seg T i j (xs.flatMap (k1 kb)) → P.length + (xs.flatMap (kt1 ku cn)).length ≤ 1600 → VV L (d + 5) m_M_turns 10 [some (tA 156), some (tI r), some (tI fr), some (tI j), some (tI dp), some (tI (cn - 97)), some (tI i), u7, u8, u9, u10] [] (WW f t (emM g P)) Q = Q none (WW f t (emM g (P ++ pqL 0 (xs.flatMap (kt1 ku cn))))) := by
  intro xs
  induction xs with
  | nil =>
    intro i P u7 u8 u9 u10 _ h0 hs _
    have e := seg_len hs
    simp only [List.flatMap_nil, List.length_nil] at e
    have hij : j ≤ i := by omega
    rw [u_M_turns_10]
    simp only [u_M_turns_12, u_M_turns_13, u_M_turns_346, ne_eq, not_false_eq_true, not_true_eq_false, true_and, and_true, true_or, or_true, eq_self, Option.toList_some, Option.toList_none, List.cons_append, List.nil_append, tc_0, tc_I, tc_L, tc_A, Nat.reduceAdd, Nat.reduceLeDiff, Nat.reduceEqDiff, Int.reduceEq, Int.reduceLT, Int.reduceLE, Int.reduceNeg, Int.reduceToNat, Int.cast_ofNat_Int, if_true, if_false, and_self, or_self, ite_self, bI_0, bI_1, bI_01, Bool.false_eq_true, reduceCtorEq, hij, List.flatMap_nil, pqL, List.append_nil]
  | cons s xs ih =>
    intro i P u7 u8 u9 u10 hw h0 hs hlen
    have hws := hw s (List.mem_cons_self ..)
    rw [List.flatMap_cons] at hs
    obtain ⟨s1, s2⟩ := seg_split hs
    rw [List.flatMap_cons, List.length_append] at hlen
    rw [List.flatMap_cons, pqL_j (Or.inr (by rw [kt1_l s hws]; decide)), ← List.append_assoc]
    obtain ⟨_, _, _, a4⟩ := st_seg hb s hws s1
    have e2 := seg_len s2
    have hsE : ∀ P Q, VV L (d + 4) m_M_stepEnd 0 [some (tA 156), some (tI r), some (tI i), none] [] (WW f t (emM g P)) Q = Q (some (tI (i + ((k1 kb s).length : Int)))) (WW f t (emM g P)) := fun P Q => s_M_sE (L := L) (d := d + 2) (f := f) (t := t) (Q := Q) (RT_em (P := P) h) hb s hws h0 s1
    generalize hq2 : i + ((k1 kb s).length : Int) = q2 at *
    have hq2l : q2 ≤ len := by omega
    have hstep : ∃ v7 v8 v9 v10, ∀ Q, VV L (d + 5) m_M_turns 10 [some (tA 156), some (tI r), some (tI fr), some (tI j), some (tI dp), some (tI (cn - 97)), some (tI i), u7, u8, u9, u10] [] (WW f t (emM g P)) Q = (if j ≤ i then VV L (d + 5) m_M_turns 346 [some (tA 156), some (tI r), some (tI fr), some (tI j), some (tI dp), some (tI (cn - 97)), some (tI i), u7, u8, u9, u10] [] (WW f t (emM g P)) Q else VV L (d + 5) m_M_turns 10 [some (tA 156), some (tI r), some (tI fr), some (tI j), some (tI dp), some (tI (cn - 97)), some (tI q2), v7, v8, v9, v10] [] (WW f t (emM g (P ++ pqL 0 (kt1 ku cn s)))) Q) := by
      match s, hws, s1, hlen with
      | .inl (.inl (k, n, e)), hws, s1, hlen =>
        have hk : k = 214 := by have := hws.1; simpa using this
        have hl2 : P.length + ((kTu n (kX e)).length + (xs.flatMap (kt1 ku cn)).length) ≤ 1600 := hlen
        exact s_M_tset h hk hws.2.1 hws.2.2 h0 hsE s1 (by omega)
      | .inl (.inr s), hws, _, _ =>
        exfalso
        match s, hws with
        | .inl (q, o, e), hws => exact absurd hws.1 (by decide)
        | .inr (.inl (q, q2)), hws => exact absurd hws.1 (by decide)
        | .inr (.inr (.inl (k, n, s))), hws => exact absurd hws.1 (by decide)
        | .inr (.inr (.inr (.inl (k, r, dd, e)))), hws => exact absurd hws.1 (by decide)
        | .inr (.inr (.inr (.inr (k, n)))), hws => exact absurd hws.1 (by decide)
      | .inr (.inl (k, e, x, y, e2)), hws, _, _ => exact absurd hws.1 (by decide)
      | .inr (.inr (.inl (e, x, y))), hws, s1, hlen =>
        have hl2 : P.length + ((kWhn cn (kX e) (ku x) (ku y)).length + (xs.flatMap (kt1 ku cn)).length) ≤ 1600 := hlen
        exact s_M_twhen h hb hR e x y hws.2.1 hws.2.2.1 hws.2.2.2 hcn hcd hd h0 hq2l hsE s1 (by omega)
      | .inr (.inr (.inr (e, x))), hws, s1, hlen =>
        have hl2 : P.length + ((kWhl cn (kX e) (ku x)).length + (xs.flatMap (kt1 ku cn)).length) ≤ 1600 := hlen
        exact s_M_twhile h hb hR e x hws.2.1 hws.2.2 hcn hcd hd h0 hq2l hsE s1 (by omega)
    obtain ⟨v7, v8, v9, v10, hst⟩ := hstep
    rw [hst Q, if_neg (by omega), ih q2 (P ++ pqL 0 (kt1 ku cn s)) v7 v8 v9 v10 (fun v hv => hw v (List.mem_cons_of_mem _ hv)) (by omega) s2 (by rw [List.length_append, pqL_len]; omega)]
theorem s_M_tL (h : RT g r T len) (hb : ∀ x, wb x → ∀ p, 0 < p → Wl brc p (kb x) p) (hR : TRok L (d + 4) r len T f t g kb wb ku (dp + 1)) (hcn : kName cn = true) (hcd : cn - 97 = 24 - dp) (hd : 0 ≤ dp ∧ dp ≤ 7) : TRok L (d + 5) r len T f t g (fun x : List (SS c ⊕ CC c Y) => x.flatMap (k1 kb)) (fun x => allL (w1 true wb) x) (fun x => x.flatMap (kt1 ku cn)) dp := by
  intro x hx i j P Q h0 hj hs hlen
  have wc : w32 (24 - dp) = 24 - dp := w32_id (by omega) (by omega)
  have key := l_M_tL (L := L) (d := d) (f := f) (t := t) (Q := Q) (fr := i) h hb hR hcn hcd hd hj x i P none none none none hx h0 hs hlen
  rw [← key, hcd]
  simp only [u_M_turns_0, u_M_turns_2, u_M_turns_4, u_M_turns_5, u_M_turns_7, u_M_turns_8, ne_eq, not_false_eq_true, not_true_eq_false, true_and, and_true, true_or, or_true, eq_self, Option.toList_some, Option.toList_none, List.cons_append, List.nil_append, tc_0, tc_I, tc_L, tc_A, Nat.reduceAdd, Nat.reduceLeDiff, Nat.reduceEqDiff, Int.reduceEq, Int.reduceLT, Int.reduceLE, Int.reduceNeg, Int.reduceToNat, Int.cast_ofNat_Int, if_true, if_false, and_self, or_self, ite_self, bI_0, bI_1, bI_01, Bool.false_eq_true, reduceCtorEq, wc]
end
section
variable {L d r len c : Nat} {f t g : Mem} {T : Int → Int}
theorem s_M_tB (h : RT g r T len) : ∀ (bb : Nat) (dp : Int), dp = 6 - bb → bb ≤ 6 → TRok L (d + bb + 4) r len T f t g (kB (c := c) bb) (wB true bb) (fun x => kB bb (tuB bb (115 + bb) x)) dp := by
  intro bb
  induction bb with
  | zero => intro dp _ _ x; exact nomatch x
  | succ bb ih =>
    intro dp hd hb
    have hR := ih (dp + 1) (by omega) (by omega)
    have hcn : kName (121 - dp) = true := by unfold kName; simp; omega
    have hL := s_M_tL (c := c) (Y := TB c bb) (d := d + bb) h (fun y hy p hp => kB_c bb y hy p hp) hR hcn (by omega) (by omega)
    intro x hx i j P Q h1 h2 h3 h4
    have ek := (tuB_k (c := c) bb (115 + ((bb + 1 : Nat) : Int)) rfl hb x hx).1
    rw [show (115 : Int) + ((bb + 1 : Nat) : Int) - 1 = 115 + bb by omega, show (115 : Int) + ((bb + 1 : Nat) : Int) = 121 - dp by omega] at ek
    have e2 : List.flatMap (kt1 (fun y => kB bb (tuB bb (115 + bb) y)) (121 - dp)) x = kB (bb + 1) (tuB (bb + 1) (115 + ((bb + 1 : Nat) : Int)) x) := by
      rw [← ek, show (121 : Int) - dp = 115 + ((bb + 1 : Nat) : Int) by omega]
    have h4' : P.length + (List.flatMap (kt1 (fun y => kB bb (tuB bb (115 + bb) y)) (121 - dp)) x).length ≤ 1600 := by
      rw [e2]; exact h4
    exact (hL x hx i j P Q h1 h2 h3 h4').trans (congrArg (fun m => Q none (WW f t (emM g (P ++ pqL 0 m)))) e2)
end
