/-! turn of both -/
section
variable {c : Nat}
theorem tuS_le {n : Int} (e : EE c) (hw : wX e) (hn : kName n = true) : (tuS n e).length ≤ 4 := by
  rw [tuS_len e hw hn]; (repeat' split) <;> omega
theorem nt1_le {Y : Type} {nb nu : Y → Nat} {wb : Y → Prop} (hb : ∀ x, wb x → nu x ≤ 7 * nb x) (s : SS c ⊕ CC c Y) (hw : w1 true wb s) : nt1 nu s ≤ 7 * n1 nb s := by
  match s, hw with
  | .inl (.inl (k, n, e)), hw =>
    have := tuS_le e hw.2.2 hw.2.1
    show (tuS n e).length ≤ 7 * 1
    omega
  | .inl (.inr s), hw => exact Nat.zero_le _
  | .inr (.inl (k, e, x, y, e2)), hw => exact absurd hw.1 (by decide)
  | .inr (.inr (.inl (e, x, y))), hw =>
    have := hb x hw.2.2.1
    have := hb y hw.2.2.2
    show nu x + nu y + 6 ≤ 7 * (nb x + nb y + 3)
    omega
  | .inr (.inr (.inr (e, x))), hw =>
    have := hb x hw.2.2
    show nu x + 7 ≤ 7 * (nb x + 2)
    omega
theorem ntL_le {Y : Type} {nb nu : Y → Nat} {wb : Y → Prop} (hb : ∀ x, wb x → nu x ≤ 7 * nb x) : ∀ (x : List (SS c ⊕ CC c Y)), allL (w1 true wb) x → (x.map (nt1 nu)).sum ≤ 7 * (x.map (n1 nb)).sum := by
  intro x
  induction x with
  | nil => intro _; exact Nat.le_refl _
  | cons s x ih =>
    intro hw
    have h1 := nt1_le hb s (hw s (List.mem_cons_self ..))
    have h2 := ih (fun v hv => hw v (List.mem_cons_of_mem _ hv))
    rw [List.map_cons, List.sum_cons, List.map_cons, List.sum_cons]; omega
theorem tuB_7 : ∀ (bb : Nat), bb ≤ 6 → ∀ (x : TB c bb), wB true bb x → nB bb (tuB bb (115 + bb) x) ≤ 7 * nB bb x := by
  intro bb
  induction bb with
  | zero => intro _ x; exact nomatch x
  | succ bb ih =>
    intro hb x hx
    have ek := (tuB_k (c := c) bb (115 + ((bb + 1 : Nat) : Int)) rfl hb x hx).2
    rw [show (115 : Int) + ((bb + 1 : Nat) : Int) - 1 = 115 + bb by omega] at ek
    rw [ek]
    exact ntL_le (fun y hy => ih (by omega) y hy) x hx
end
section
variable {X : Nat → Tre} {TH : Nat} {f t g : Mem}
theorem Rel_18 {k : Nat} {v : Int} (h : RelX X TH f t g) : RelX X TH (mset f 18 k v) t g := by
  have e : ∀ b j, ¬ b = 18 → mset f 18 k v b j = f b j := fun b j hb => by rw [rd, if_neg (fun hh => hb hh.1)]
  exact RelX_mk ⟨Rtape_fr h.tp (fun b j hh => e b j (by omega)) (fun _ _ _ => rfl), Rtext_fr h.tx (fun b j hh => e b j (by omega)) (fun _ _ _ => rfl), Rout_fr h.ou (fun b j hh => e b j (by omega)) (fun _ _ _ => rfl), RSt_fr2 h.st (fun b j _ _ => e b j (by omega)) (fun _ _ _ => rfl), RC_fr h.rc (hC_15 h.st) (fun b j _ _ => e b j (by omega)), Rrun_fr h.rn (fun b j hh => e b j (by omega)) (fun _ _ _ => rfl), Rflt_fr h.fl (fun b j hh => e b j (by omega)) (fun _ _ _ => rfl)⟩
end
theorem trail_iff {T : Int → Int} {len : Nat} {k : List Int} (hs : seg T 0 len k) : (¬ nmN T len &&& 66060288 = 0) ↔ ∃ x : Int, 20 ≤ x ∧ x < 26 ∧ (97 + x) ∈ k := by
  have hk : k = tks T 0 len := by
    have := hs.2
    rw [show ((len : Int) - 0).toNat = len by omega] at this
    exact this
  rw [trail_bits (nmN_lt len)]
  constructor
  · intro h
    apply Classical.byContradiction
    intro hc
    apply h
    intro x h1 h2
    cases hb : (nmN T len).testBit x with
    | false => rfl
    | true =>
      have := (nm_bit h2 len).mp hb
      exact absurd ⟨(x : Int), by omega, by omega, by rw [hk, show 97 + (x : Int) = x + 97 by omega]; exact this⟩ hc
  · rintro ⟨x, h1, h2, h3⟩ h
    have hx := h x.toNat (by omega) (by omega)
    have := (nm_bit (T := T) (x := x.toNat) (by omega) len).mpr (by rw [← hk, show ((x.toNat : Nat) : Int) + 97 = 97 + x by omega]; exact h3)
    rw [hx] at this
    exact absurd this (by decide)
theorem B_turn {k kt : Int} : Both tI m_T_turn [some (tA 1), some (tI k), some (tI kt)] m_M_turn [some (tA 156), some (tI k), some (tI kt), none] := by
  refine Both_of (fun L d X TH f t g Q hR hQ => ?_)
  by_cases hk : (0 ≤ k ∧ k ≤ 9) ∧ (0 ≤ kt ∧ kt ≤ 9)
  · obtain ⟨hk, hkt⟩ := hk
    have hk' : 0 ≤ k ∧ k < 10 := by omega
    have hkt' : 0 ≤ kt ∧ kt < 10 := by omega
    obtain ⟨r, rfl⟩ : ∃ n : Nat, k = (n : Int) := ⟨k.toNat, by omega⟩
    obtain ⟨q, rfl⟩ : ∃ n : Nat, kt = (n : Int) := ⟨kt.toNat, by omega⟩
    have hr : r < 10 := by omega
    have hq : q < 10 := by omega
    have hT := hR.tx.tc.tt r hr
    have b0 := xT_0 hT
    have hra : (f 3 r).toNat = aT f r := rfl
    have tha := hR.tx.tm.th r hr
    by_cases hv : t (aT f r) 15 = 1 ∧ kOrd (tok t (aT f r) 0) = true
    · obtain ⟨hv1, hv2⟩ := hv
      have hx := hR.tx.tc.ok r hr hv1
      have hy := hR.tx.tm.ok r hr hv1
      have hz := hR.tx.tk r hr hv1
      have ho : (X r).2.1 = true := by rw [← hx.od]; exact hv2
      have hxw := hx.w
      rw [ho] at hxw
      obtain ⟨w6, w24, c8⟩ := hz.wo ho
      have ln := hx.ln
      have l1 := hx.l1
      have hn4 := hx.n40
      have hsp := hR.tx.sp
      have a0 := xT_0 hsp
      have hne : ¬ aT f r = (f 1 3).toNat := hR.tx.sd r hr
      have h9 : t (aT f r) 9 ≤ 40 := by rw [hx.f9]; omega
      have hsg := hx.sg
      have hsgL := hx.sg
      rw [ln] at hsgL
      have hrt := hy.rt
      have e161 : g 161 r = 1 := by rw [← tha]; exact hv1
      have e162 : g 162 r = 1 := by rw [hy.od, ho]; rfl
      have e14 := hz.f14
      rw [ln, Int.toNat_natCast] at e14
      have hok : ∀ v ∈ kB 6 (X r).2.2, okT v := kB_a 6 (X r).2.2 hx.w
      have tr := trail_iff hsgL
      have hst1 : ∀ (Q : Option TV → Wd → Prop), VV L (d + 200) m_T_turn 0 [some (tA 1), some (tI r), some (tI q)] [] (WW f t g) Q = if nmN (tok t (aT f r)) (kB 6 (X r).2.2).length &&& 66060288 = 0 then VV L (d + 199 + 1) m_T_turn 39 [some (tA 1), some (tI r), some (tI q)] [] (WW f t g) Q else Q (some (tI (-2))) (WW f t g) := by
        intro Q
        by_cases hnm : nmN (tok t (aT f r)) (kB 6 (X r).2.2).length &&& 66060288 = 0
        · rw [if_pos hnm]
          simp only [u_T_turn_0, u_T_turn_1, u_T_turn_4, u_T_turn_7, u_T_turn_8, u_T_turn_11, u_T_turn_14, u_T_turn_15, u_T_turn_16, u_T_turn_17, u_T_turn_18, u_T_turn_21, u_T_turn_24, u_T_turn_25, u_T_turn_28, u_T_turn_29, u_T_turn_30, u_T_turn_33, u_T_turn_36, u_T_turn_38, h1_1, gt_1_2, h1_3, h2_3, gt_3, pt_3, xT_h1, ne_eq, not_false_eq_true, not_true_eq_false, true_and, and_true, true_or, or_true, eq_self, Option.toList_some, Option.toList_none, List.cons_append, List.nil_append, tc_0, tc_I, tc_L, tc_A, Nat.reduceAdd, Nat.reduceLeDiff, Nat.reduceEqDiff, Int.reduceEq, Int.reduceLT, Int.reduceLE, Int.reduceNeg, Int.reduceToNat, Int.cast_ofNat_Int, if_true, if_false, and_self, or_self, ite_self, bI_0, bI_1, bI_01, Bool.false_eq_true, reduceCtorEq, s_T_isRoutine, hk', hkt', hv1, hv2, s_T_isForgetful hR.tx.tc hr, and_self, decide_true, bB_t, Int.toNat_natCast, hra, b0, hT, s_Tx_trail hT e14 (nmN_lt _), hnm, not_true_eq_false, decide_false, bB_f]
        · rw [if_neg hnm]
          simp only [u_T_turn_0, u_T_turn_1, u_T_turn_4, u_T_turn_7, u_T_turn_8, u_T_turn_11, u_T_turn_14, u_T_turn_15, u_T_turn_16, u_T_turn_17, u_T_turn_18, u_T_turn_21, u_T_turn_24, u_T_turn_25, u_T_turn_28, u_T_turn_29, u_T_turn_30, u_T_turn_33, u_T_turn_36, u_T_turn_38, h1_1, gt_1_2, h1_3, h2_3, gt_3, pt_3, xT_h1, ne_eq, not_false_eq_true, not_true_eq_false, true_and, and_true, true_or, or_true, eq_self, Option.toList_some, Option.toList_none, List.cons_append, List.nil_append, tc_0, tc_I, tc_L, tc_A, Nat.reduceAdd, Nat.reduceLeDiff, Nat.reduceEqDiff, Int.reduceEq, Int.reduceLT, Int.reduceLE, Int.reduceNeg, Int.reduceToNat, Int.cast_ofNat_Int, if_true, if_false, and_self, or_self, ite_self, bI_0, bI_1, bI_01, Bool.false_eq_true, reduceCtorEq, s_T_isRoutine, hk', hkt', hv1, hv2, s_T_isForgetful hR.tx.tc hr, and_self, decide_true, bB_t, Int.toNat_natCast, hra, b0, hT, s_Tx_trail hT e14 (nmN_lt _), hnm, not_false_eq_true]
      have hM0 : ∀ (L d : Nat) (f t : Mem) (Q : Option TV → Wd → Prop), VV L (d + 200) m_M_turn 0 [some (tA 156), some (tI r), some (tI q), none] [] (WW f t g) Q = VV L (d + 198 + 2) m_M_turn 40 [some (tA 156), some (tI r), some (tI q), some (tI 20)] [] (WW f t g) Q := by
        intro L d f t Q
        simp only [u_M_turn_0, u_M_turn_1, u_M_turn_4, u_M_turn_7, u_M_turn_8, u_M_turn_11, u_M_turn_14, u_M_turn_15, u_M_turn_16, u_M_turn_17, u_M_turn_20, u_M_turn_21, u_M_turn_22, u_M_turn_25, u_M_turn_26, u_M_turn_29, u_M_turn_30, u_M_turn_31, u_M_turn_34, u_M_turn_36, u_M_turn_37, u_M_turn_39, h1_156, gt_156_22, gt_156_23, h1_161, h2_161, gt_161, pt_161, h1_162, h2_162, gt_162, pt_162, ne_eq, not_false_eq_true, not_true_eq_false, true_and, and_true, true_or, or_true, eq_self, Option.toList_some, Option.toList_none, List.cons_append, List.nil_append, tc_0, tc_I, tc_L, tc_A, Nat.reduceAdd, Nat.reduceLeDiff, Nat.reduceEqDiff, Int.reduceEq, Int.reduceLT, Int.reduceLE, Int.reduceNeg, Int.reduceToNat, Int.cast_ofNat_Int, if_true, if_false, and_self, or_self, ite_self, bI_0, bI_1, bI_01, Bool.false_eq_true, reduceCtorEq, s_M_isRoutine, hk, hkt, hk', and_self, decide_true, bB_t, Int.toNat_natCast, e161, e162]
      rw [hst1]
      by_cases hnm : nmN (tok t (aT f r)) (kB 6 (X r).2.2).length &&& 66060288 = 0
      · rw [if_pos hnm]
        have hno : ∀ x : Int, 20 ≤ x → x < 26 → ¬ (97 + x) ∈ kB 6 (X r).2.2 := fun x q1 q2 q3 => tr.mpr ⟨x, q1, q2, q3⟩ hnm
        obtain ⟨N, eN⟩ : ∃ N, N = nB 6 (tuB 6 (115 + ((6 : Nat) : Int)) (X r).2.2) := ⟨_, rfl⟩
        have hN := tuB_7 6 (by omega) (X r).2.2 hxw
        rw [← eN] at hN
        have hM1 : ∀ (L d : Nat) (f t : Mem) (Q : Option TV → Wd → Prop), VV L (d + 200) m_M_turn 0 [some (tA 156), some (tI r), some (tI q), none] [] (WW f t g) Q = VV L (d + 199) m_M_turnedSize 0 [some (tA 156), some (tI r), none, none, none, none, none, none, none, none] [] (WW f t g) (fun v w => VV L (d + 199 + 1) m_M_turn 76 [some (tA 156), some (tI r), some (tI q), some (tI 26)] (v.toList ++ []) w Q) := by
          intro L d f t Q
          rw [hM0, (l_M_trail (L := L) (d := d + 198) (f := f) (t := t) (Q := Q) (kt := q) hrt hsgL hok 6 20 (by omega) (by omega)).2 hno]
          simp only [u_M_turn_71, u_M_turn_72, u_M_turn_73, h1_156, ne_eq, not_false_eq_true, not_true_eq_false, true_and, and_true, true_or, or_true, eq_self, Option.toList_some, Option.toList_none, List.cons_append, List.nil_append, tc_0, tc_I, tc_L, tc_A, Nat.reduceAdd, Nat.reduceLeDiff, Nat.reduceEqDiff, Int.reduceEq, Int.reduceLT, Int.reduceLE, Int.reduceNeg, Int.reduceToNat, Int.cast_ofNat_Int, if_true, if_false, and_self, or_self, ite_self, bI_0, bI_1, bI_01, Bool.false_eq_true, reduceCtorEq]
        have hMS : ∀ (L d : Nat) (f t : Mem) (Q : Option TV → Wd → Prop), VV L (d + 199) m_M_turnedSize 0 [some (tA 156), some (tI r), none, none, none, none, none, none, none, none] [] (WW f t g) Q = Q (some (tI (N : Int))) (WW f t g) := by
          intro L d f t Q
          obtain ⟨v4, v5, v6, v7, v8, v9, hZ⟩ := s_M_zB (c := (X r).1) (L := L) (d := d + 196) (f := f) (t := t) hrt (by rw [hy.nn]; omega) 6 (by omega) (X r).2.2 hxw 0 _ 0 0 none none none none none none (by omega) (by omega) (by rw [hy.nn]; omega) hsgL hy.ro (by show (0 : Int) + (nB 6 (tuB 6 (115 + ((6 : Nat) : Int)) (X r).2.2) : Int) ≤ 100000; rw [← eN]; omega)
          have hZ2 := hZ Q
          dsimp only at hZ2
          rw [← eN] at hZ2
          have z0 : ((0 : Nat) : Int) = 0 := rfl
          have e6 : g 166 r = ((0 + nB 6 (X r).2.2 : Nat) : Int) := by rw [hy.nn]; omega
          have r0 : (0 : Int) ≤ r := by omega
          have r1 : (r : Int) < 10 := by omega
          rw [z0, Int.zero_add] at hZ2
          have hst : VV L (d + 199) m_M_turnedSize 0 [some (tA 156), some (tI r), none, none, none, none, none, none, none, none] [] (WW f t g) Q = VV L (d + 196 + 3) m_M_turnedSize 4 [some (tA 156), some (tI r), some (tI 0), some (tI 0), none, none, none, none, none, none] [] (WW f t g) Q := by
            simp only [u_M_turnedSize_0, u_M_turnedSize_1, u_M_turnedSize_2, u_M_turnedSize_3, ne_eq, not_false_eq_true, not_true_eq_false, true_and, and_true, true_or, or_true, eq_self, Option.toList_some, Option.toList_none, List.cons_append, List.nil_append, tc_0, tc_I, tc_L, tc_A, Nat.reduceAdd, Nat.reduceLeDiff, Nat.reduceEqDiff, Int.reduceEq, Int.reduceLT, Int.reduceLE, Int.reduceNeg, Int.reduceToNat, Int.cast_ofNat_Int, if_true, if_false, and_self, or_self, ite_self, bI_0, bI_1, bI_01, Bool.false_eq_true, reduceCtorEq]
          rw [hst, hZ2, u_M_turnedSize_4]
          simp only [u_M_turnedSize_5, u_M_turnedSize_6, u_M_turnedSize_9, u_M_turnedSize_10, u_M_turnedSize_11, u_M_turnedSize_245, u_M_turnedSize_246, h1_156, gt_156_27, h1_166, h2_166, gt_166, pt_166, ne_eq, not_false_eq_true, not_true_eq_false, true_and, and_true, true_or, or_true, eq_self, Option.toList_some, Option.toList_none, List.cons_append, List.nil_append, tc_0, tc_I, tc_L, tc_A, Nat.reduceAdd, Nat.reduceLeDiff, Nat.reduceEqDiff, Int.reduceEq, Int.reduceLT, Int.reduceLE, Int.reduceNeg, Int.reduceToNat, Int.cast_ofNat_Int, if_true, if_false, and_self, or_self, ite_self, bI_0, bI_1, bI_01, Bool.false_eq_true, reduceCtorEq, r0, r1, Int.toNat_natCast, e6, Int.le_refl]
        have hF0 : (mset f 18 0 (aT f r)) 18 0 = (aT f r : Int) := by rw [rd, if_pos (by simp)]
        have hSZ : SZ (aT f r) (mset f 18 0 (aT f r)) t := ⟨hT, by rw [hF0, Int.toNat_natCast], l1, h9⟩
        have hCS : ∀ (Q : Option TV → Wd → Prop), VV L (d + 199) m_Sh_turnedSize 0 [some (tA 18), some (tA (aT f r)), none, none] [] (WW f t g) Q = Q (some (tI (N : Int))) (WW (mset f 18 0 (aT f r)) t g) := by
          intro Q
          have hZ := s_Sh_sB (c := (X r).1) (L := L) (d := d + 194) (g := g) (ab := aT f r) hSZ 6 (by omega) (X r).2.2 hxw 0 _ 0 0 (by omega) (by omega) (by omega) (by rw [hx.f9]; omega) hsg hx.tb (by show (0 : Int) + (nB 6 (tuB 6 (115 + ((6 : Nat) : Int)) (X r).2.2) : Int) ≤ 100000; rw [← eN]; omega) Q
          dsimp only at hZ
          rw [← eN, Int.zero_add, Int.zero_add, ← hx.f9] at hZ
          have hst : VV L (d + 199) m_Sh_turnedSize 0 [some (tA 18), some (tA (aT f r)), none, none] [] (WW f t g) Q = VV L (d + 194 + 5) m_Sh_turnedSize 9 [some (tA 18), some (tA (aT f r)), some (tI 0), some (tI 0)] [] (WW (mset f 18 0 (aT f r)) t g) Q := by
            simp only [u_Sh_turnedSize_0, u_Sh_turnedSize_1, u_Sh_turnedSize_2, u_Sh_turnedSize_5, u_Sh_turnedSize_6, u_Sh_turnedSize_7, u_Sh_turnedSize_8, h1_18, pt_18_0, ne_eq, not_false_eq_true, not_true_eq_false, true_and, and_true, true_or, or_true, eq_self, Option.toList_some, Option.toList_none, List.cons_append, List.nil_append, tc_0, tc_I, tc_L, tc_A, Nat.reduceAdd, Nat.reduceLeDiff, Nat.reduceEqDiff, Int.reduceEq, Int.reduceLT, Int.reduceLE, Int.reduceNeg, Int.reduceToNat, Int.cast_ofNat_Int, if_true, if_false, and_self, or_self, ite_self, bI_0, bI_1, bI_01, Bool.false_eq_true, reduceCtorEq, b0]
          rw [hst, hZ, u_Sh_turnedSize_9]
          simp only [u_Sh_turnedSize_10, u_Sh_turnedSize_11, u_Sh_turnedSize_14, u_Sh_turnedSize_17, u_Sh_turnedSize_105, u_Sh_turnedSize_106, h1_18, gt_18_0, xT_h1, ne_eq, not_false_eq_true, not_true_eq_false, true_and, and_true, true_or, or_true, eq_self, Option.toList_some, Option.toList_none, List.cons_append, List.nil_append, tc_0, tc_I, tc_L, tc_A, Nat.reduceAdd, Nat.reduceLeDiff, Nat.reduceEqDiff, Int.reduceEq, Int.reduceLT, Int.reduceLE, Int.reduceNeg, Int.reduceToNat, Int.cast_ofNat_Int, if_true, if_false, and_self, or_self, ite_self, bI_0, bI_1, bI_01, Bool.false_eq_true, reduceCtorEq, hF0, Int.toNat_natCast, b0, hT, s_Tx_size hT, Int.le_refl]
        by_cases hfull : N ≤ 40
        · have hTu := tuB_p (c := (X r).1) 6 (115 + ((6 : Nat) : Int)) rfl (by omega) (X r).2.2 hxw
          obtain ⟨u1, u2, u3⟩ := hTu
          rw [← eN] at u2 u3
          obtain ⟨F, eF⟩ : ∃ F, F = mset (mset (mset f 18 0 (aT f r)) 18 0 (aT f r)) 18 1 (f 1 3).toNat := ⟨_, rfl⟩
          have F0 : F 18 0 = (aT f r : Int) := by rw [eF, rd, if_neg (by omega), rd, if_pos (by simp)]
          have F1 : F 18 1 = ((f 1 3).toNat : Int) := by rw [eF, rd, if_pos (by simp)]
          have FO : ∀ b j, ¬ b = 18 → F b j = f b j := fun b j hb => by rw [eF, rd, if_neg (by omega), rd, if_neg (by omega), rd, if_neg (by omega)]
          have e13 : mset f 18 0 (aT f r) 1 3 = f 1 3 := by rw [rd, if_neg (by omega)]
          have hSW : SW (f 1 3).toNat (aT f r) F t := ⟨hsp, hT, hne, by rw [F0, Int.toNat_natCast], by rw [F1, Int.toNat_natCast], l1, h9⟩
          obtain ⟨u', hW⟩ := s_Sh_tB (c := (X r).1) (L := L) (d := d + 193) (g := g) (y1 := some (tA (aT f r))) (aa := (f 1 3).toNat) hSW 6 0 (by omega) (by omega) (X r).2.2 hxw 0 _ 0 [] none (by omega) (by omega) (by rw [hx.f9]; omega) hsg hx.tb (by show ([] : List Int).length + (kB 6 (tuB 6 (115 + ((6 : Nat) : Int)) (X r).2.2)).length ≤ 1000; simp only [List.length_nil]; omega)
          have hCW : ∀ (Q : Option TV → Wd → Prop), VV L (d + 199) m_Sh_writeTurned 0 [some (tA 18), some (tA (aT f r)), some (tA (f 1 3).toNat), none, none, none] [] (WW (mset f 18 0 (aT f r)) t g) Q = Q none (WW F (PSt ((f 1 3).toNat + 1) (f 1 3).toNat 1 t (kB 6 (tuB 6 (115 + ((6 : Nat) : Int)) (X r).2.2))) g) := by
            intro Q
            have hZ := hW Q
            dsimp only at hZ
            rw [List.nil_append, Int.zero_add, ← hx.f9] at hZ
            have s9 : ∀ l, PSt ((f 1 3).toNat + 1) (f 1 3).toNat 1 t l (aT f r) 9 = t (aT f r) 9 := fun l => PT_far (n := 0) hsp hT hne (by omega)
            have hst : VV L (d + 199) m_Sh_writeTurned 0 [some (tA 18), some (tA (aT f r)), some (tA (f 1 3).toNat), none, none, none] [] (WW (mset f 18 0 (aT f r)) t g) Q = VV L (d + 193 + 6) m_Sh_writeTurned 22 [some (tA 18), some (tA (aT f r)), some (tA (f 1 3).toNat), some (tI 0), some (tI 0), none] [] (WW F (PSt ((f 1 3).toNat + 1) (f 1 3).toNat 1 t []) g) Q := by
              simp only [u_Sh_writeTurned_0, u_Sh_writeTurned_1, u_Sh_writeTurned_2, u_Sh_writeTurned_5, u_Sh_writeTurned_6, u_Sh_writeTurned_7, h1_18, pt_18_0, pt_18_1, ne_eq, not_false_eq_true, not_true_eq_false, true_and, and_true, true_or, or_true, eq_self, Option.toList_some, Option.toList_none, List.cons_append, List.nil_append, tc_0, tc_I, tc_L, tc_A, Nat.reduceAdd, Nat.reduceLeDiff, Nat.reduceEqDiff, Int.reduceEq, Int.reduceLT, Int.reduceLE, Int.reduceNeg, Int.reduceToNat, Int.cast_ofNat_Int, if_true, if_false, and_self, or_self, ite_self, bI_0, bI_1, bI_01, Bool.false_eq_true, reduceCtorEq, b0, a0]
              rw [← eF]
              simp only [u_Sh_writeTurned_10, u_Sh_writeTurned_11, u_Sh_writeTurned_14, u_Sh_writeTurned_17, u_Sh_writeTurned_18, u_Sh_writeTurned_19, u_Sh_writeTurned_20, h1_18, gt_18_1, xT_h1, ne_eq, not_false_eq_true, not_true_eq_false, true_and, and_true, true_or, or_true, eq_self, Option.toList_some, Option.toList_none, List.cons_append, List.nil_append, tc_0, tc_I, tc_L, tc_A, Nat.reduceAdd, Nat.reduceLeDiff, Nat.reduceEqDiff, Int.reduceEq, Int.reduceLT, Int.reduceLE, Int.reduceNeg, Int.reduceToNat, Int.cast_ofNat_Int, if_true, if_false, and_self, or_self, ite_self, bI_0, bI_1, bI_01, Bool.false_eq_true, reduceCtorEq, F1, Int.toNat_natCast, a0, hsp, s_Tx_clearP hsp]
            rw [hst, hZ, u_Sh_writeTurned_22]
            simp only [u_Sh_writeTurned_24, u_Sh_writeTurned_25, u_Sh_writeTurned_28, u_Sh_writeTurned_31, u_Sh_writeTurned_133, h1_18, gt_18_0, xT_h1, ne_eq, not_false_eq_true, not_true_eq_false, true_and, and_true, true_or, or_true, eq_self, Option.toList_some, Option.toList_none, List.cons_append, List.nil_append, tc_0, tc_I, tc_L, tc_A, Nat.reduceAdd, Nat.reduceLeDiff, Nat.reduceEqDiff, Int.reduceEq, Int.reduceLT, Int.reduceLE, Int.reduceNeg, Int.reduceToNat, Int.cast_ofNat_Int, if_true, if_false, and_self, or_self, ite_self, bI_0, bI_1, bI_01, Bool.false_eq_true, reduceCtorEq, F0, Int.toNat_natCast, b0, hT, s_Tx_size hT, s9, Int.le_refl]
          have hN40 : (N : Int) ≤ 40 := by omega
          have hra2 : (mset f 18 0 (aT f r) 3 r).toNat = aT f r := by rw [rd, if_neg (by omega)]; rfl
          simp only [u_T_turn_39, u_T_turn_40, u_T_turn_43, u_T_turn_44, u_T_turn_47, u_T_turn_48, u_T_turn_49, u_T_turn_52, u_T_turn_54, u_T_turn_57, u_T_turn_59, u_T_turn_60, u_T_turn_61, u_T_turn_64, u_T_turn_65, u_T_turn_68, u_T_turn_69, u_T_turn_70, u_T_turn_71, u_T_turn_74, h1_1, gt_1_2, gt_1_3, gt_1_6, h1_3, h2_3, gt_3, pt_3, h1_18, xT_h1, ne_eq, not_false_eq_true, not_true_eq_false, true_and, and_true, true_or, or_true, eq_self, Option.toList_some, Option.toList_none, List.cons_append, List.nil_append, tc_0, tc_I, tc_L, tc_A, Nat.reduceAdd, Nat.reduceLeDiff, Nat.reduceEqDiff, Int.reduceEq, Int.reduceLT, Int.reduceLE, Int.reduceNeg, Int.reduceToNat, Int.cast_ofNat_Int, if_true, if_false, and_self, or_self, ite_self, bI_0, bI_1, bI_01, Bool.false_eq_true, reduceCtorEq, hk', Int.toNat_natCast, hra, hra2, e13, b0, a0, hCS, hN40, hCW]
          simp only [u_T_turn_77, u_T_turn_78, u_T_turn_79, h1_1, ne_eq, not_false_eq_true, not_true_eq_false, true_and, and_true, true_or, or_true, eq_self, Option.toList_some, Option.toList_none, List.cons_append, List.nil_append, tc_0, tc_I, tc_L, tc_A, Nat.reduceAdd, Nat.reduceLeDiff, Nat.reduceEqDiff, Int.reduceEq, Int.reduceLT, Int.reduceLE, Int.reduceNeg, Int.reduceToNat, Int.cast_ofNat_Int, if_true, if_false, and_self, or_self, ite_self, bI_0, bI_1, bI_01, Bool.false_eq_true, reduceCtorEq]
          refine bec_both (d := d + 194) (tuB 6 (115 + ((6 : Nat) : Int)) (X r).2.2) (by omega) u1 (by rw [← eN]; exact hfull) (by omega) (by omega) hR hq FO (fun v f' t' hM => ?_)
          simp only [u_T_turn_82, ne_eq, not_false_eq_true, not_true_eq_false, true_and, and_true, true_or, or_true, eq_self, Option.toList_some, Option.toList_none, List.cons_append, List.nil_append, tc_0, tc_I, tc_L, tc_A, Nat.reduceAdd, Nat.reduceLeDiff, Nat.reduceEqDiff, Int.reduceEq, Int.reduceLT, Int.reduceLE, Int.reduceNeg, Int.reduceToNat, Int.cast_ofNat_Int, if_true, if_false, and_self, or_self, ite_self, bI_0, bI_1, bI_01, Bool.false_eq_true, reduceCtorEq]
          refine hQ v f' t' (fun L d Q hq2 => ?_)
          rw [hM1, hMS]
          have e163 : emM g [] 163 r = ((kB 6 (X r).2.2).length : Int) := by rw [emM_o (by omega)]; exact hrt.l
          have R1 := fun Q => s_M_tB (c := (X r).1) (L := L) (d := d + 189) (f := f') (t := t') hrt 6 0 (by omega) (by omega) (X r).2.2 hxw 0 ((kB 6 (X r).2.2).length : Int) [] Q (by omega) (by omega) hsgL (by show ([] : List (Int × Int)).length + (kB 6 (tuB 6 (115 + ((6 : Nat) : Int)) (X r).2.2)).length ≤ 1600; simp only [List.length_nil]; omega)
          dsimp only at R1
          rw [List.nil_append, show d + 189 + 6 + 4 = d + 199 by omega] at R1
          simp only [u_M_turn_76, u_M_turn_78, u_M_turn_81, u_M_turn_83, u_M_turn_84, u_M_turn_85, u_M_turn_86, h1_156, pt_156_11, ne_eq, not_false_eq_true, not_true_eq_false, true_and, and_true, true_or, or_true, eq_self, Option.toList_some, Option.toList_none, List.cons_append, List.nil_append, tc_0, tc_I, tc_L, tc_A, Nat.reduceAdd, Nat.reduceLeDiff, Nat.reduceEqDiff, Int.reduceEq, Int.reduceLT, Int.reduceLE, Int.reduceNeg, Int.reduceToNat, Int.cast_ofNat_Int, if_true, if_false, and_self, or_self, ite_self, bI_0, bI_1, bI_01, Bool.false_eq_true, reduceCtorEq, hN40]
          rw [emM_0]
          simp only [u_M_turn_89, u_M_turn_90, u_M_turn_91, u_M_turn_92, u_M_turn_93, u_M_turn_96, u_M_turn_97, u_M_turn_98, u_M_turn_99, h1_156, gt_156_24, h1_163, h2_163, gt_163, pt_163, ne_eq, not_false_eq_true, not_true_eq_false, true_and, and_true, true_or, or_true, eq_self, Option.toList_some, Option.toList_none, List.cons_append, List.nil_append, tc_0, tc_I, tc_L, tc_A, Nat.reduceAdd, Nat.reduceLeDiff, Nat.reduceEqDiff, Int.reduceEq, Int.reduceLT, Int.reduceLE, Int.reduceNeg, Int.reduceToNat, Int.cast_ofNat_Int, if_true, if_false, and_self, or_self, ite_self, bI_0, bI_1, bI_01, Bool.false_eq_true, reduceCtorEq, hk', Int.toNat_natCast, e163, R1]
          simp only [u_M_turn_102, u_M_turn_103, u_M_turn_104, u_M_turn_105, h1_156, ne_eq, not_false_eq_true, not_true_eq_false, true_and, and_true, true_or, or_true, eq_self, Option.toList_some, Option.toList_none, List.cons_append, List.nil_append, tc_0, tc_I, tc_L, tc_A, Nat.reduceAdd, Nat.reduceLeDiff, Nat.reduceEqDiff, Int.reduceEq, Int.reduceLT, Int.reduceLE, Int.reduceNeg, Int.reduceToNat, Int.cast_ofNat_Int, if_true, if_false, and_self, or_self, ite_self, bI_0, bI_1, bI_01, Bool.false_eq_true, reduceCtorEq]
          refine hM L (d + 185) _ (fun g' h1 h2 => ?_)
          simp only [u_M_turn_108, ne_eq, not_false_eq_true, not_true_eq_false, true_and, and_true, true_or, or_true, eq_self, Option.toList_some, Option.toList_none, List.cons_append, List.nil_append, tc_0, tc_I, tc_L, tc_A, Nat.reduceAdd, Nat.reduceLeDiff, Nat.reduceEqDiff, Int.reduceEq, Int.reduceLT, Int.reduceLE, Int.reduceNeg, Int.reduceToNat, Int.cast_ofNat_Int, if_true, if_false, and_self, or_self, ite_self, bI_0, bI_1, bI_01, Bool.false_eq_true, reduceCtorEq]
          exact hq2 g' h1 h2
        · have hN40 : ¬ (N : Int) ≤ 40 := by omega
          simp only [u_T_turn_39, u_T_turn_40, u_T_turn_43, u_T_turn_44, u_T_turn_47, u_T_turn_48, u_T_turn_49, u_T_turn_52, u_T_turn_54, u_T_turn_57, u_T_turn_59, h1_1, gt_1_2, gt_1_6, h1_3, h2_3, gt_3, pt_3, h1_18, xT_h1, ne_eq, not_false_eq_true, not_true_eq_false, true_and, and_true, true_or, or_true, eq_self, Option.toList_some, Option.toList_none, List.cons_append, List.nil_append, tc_0, tc_I, tc_L, tc_A, Nat.reduceAdd, Nat.reduceLeDiff, Nat.reduceEqDiff, Int.reduceEq, Int.reduceLT, Int.reduceLE, Int.reduceNeg, Int.reduceToNat, Int.cast_ofNat_Int, if_true, if_false, and_self, or_self, ite_self, bI_0, bI_1, bI_01, Bool.false_eq_true, reduceCtorEq, hk', Int.toNat_natCast, hra, b0, hCS, hN40]
          refine hQ _ (mset f 18 0 (aT f r)) t (RefP_0 (Rel_18 hR) (fun L d Q => ?_))
          rw [hM1, hMS]
          simp only [u_M_turn_76, u_M_turn_78, u_M_turn_81, u_M_turn_83, ne_eq, not_false_eq_true, not_true_eq_false, true_and, and_true, true_or, or_true, eq_self, Option.toList_some, Option.toList_none, List.cons_append, List.nil_append, tc_0, tc_I, tc_L, tc_A, Nat.reduceAdd, Nat.reduceLeDiff, Nat.reduceEqDiff, Int.reduceEq, Int.reduceLT, Int.reduceLE, Int.reduceNeg, Int.reduceToNat, Int.cast_ofNat_Int, if_true, if_false, and_self, or_self, ite_self, bI_0, bI_1, bI_01, Bool.false_eq_true, reduceCtorEq, hN40]
      · rw [if_neg hnm]
        refine hQ _ f t (RefP_0 hR (fun L d Q => ?_))
        rw [hM0, (l_M_trail (L := L) (d := d + 198) (f := f) (t := t) (Q := Q) (kt := q) hrt hsgL hok 6 20 (by omega) (by omega)).1 (tr.mp hnm)]
    · have hst : VV L (d + 200) m_T_turn 0 [some (tA 1), some (tI r), some (tI q)] [] (WW f t g) Q = Q (some (tI (-2))) (WW f t g) := by
        simp only [u_T_turn_0, u_T_turn_1, u_T_turn_4, u_T_turn_7, u_T_turn_8, u_T_turn_11, u_T_turn_14, u_T_turn_15, u_T_turn_16, u_T_turn_17, u_T_turn_18, u_T_turn_21, u_T_turn_24, u_T_turn_25, u_T_turn_28, u_T_turn_29, u_T_turn_30, u_T_turn_33, u_T_turn_36, u_T_turn_38, h1_1, ne_eq, not_false_eq_true, not_true_eq_false, true_and, and_true, true_or, or_true, eq_self, Option.toList_some, Option.toList_none, List.cons_append, List.nil_append, tc_0, tc_I, tc_L, tc_A, Nat.reduceAdd, Nat.reduceLeDiff, Nat.reduceEqDiff, Int.reduceEq, Int.reduceLT, Int.reduceLE, Int.reduceNeg, Int.reduceToNat, Int.cast_ofNat_Int, if_true, if_false, and_self, or_self, ite_self, bI_0, bI_1, bI_01, Bool.false_eq_true, reduceCtorEq, s_T_isRoutine, hk', hkt', s_T_isForgetful hR.tx.tc hr, hv, and_self, decide_true, decide_false, bB_t, bB_f]
      rw [hst]
      refine hQ _ f t (RefP_0 hR (fun L d Q => ?_))
      rcases hR.tx.tc.th r hr with h | h
      · rw [h] at tha
        simp only [u_M_turn_0, u_M_turn_1, u_M_turn_4, u_M_turn_7, u_M_turn_8, u_M_turn_11, u_M_turn_14, u_M_turn_15, u_M_turn_16, u_M_turn_17, u_M_turn_20, u_M_turn_21, u_M_turn_22, u_M_turn_25, u_M_turn_26, u_M_turn_29, u_M_turn_30, u_M_turn_31, u_M_turn_34, u_M_turn_36, h1_156, gt_156_22, gt_156_23, h1_161, h2_161, gt_161, pt_161, h1_162, h2_162, gt_162, pt_162, ne_eq, not_false_eq_true, not_true_eq_false, true_and, and_true, true_or, or_true, eq_self, Option.toList_some, Option.toList_none, List.cons_append, List.nil_append, tc_0, tc_I, tc_L, tc_A, Nat.reduceAdd, Nat.reduceLeDiff, Nat.reduceEqDiff, Int.reduceEq, Int.reduceLT, Int.reduceLE, Int.reduceNeg, Int.reduceToNat, Int.cast_ofNat_Int, if_true, if_false, and_self, or_self, ite_self, bI_0, bI_1, bI_01, Bool.false_eq_true, reduceCtorEq, s_M_isRoutine, hk, hkt, hk', and_self, decide_true, bB_t, Int.toNat_natCast, ← tha]
      · have hx := hR.tx.tc.ok r hr h
        have hy := hR.tx.tm.ok r hr h
        rw [h] at tha
        have ho : (X r).2.1 = false := by
          rw [← hx.od]
          cases hb : kOrd (tok t (aT f r) 0) with
          | false => rfl
          | true => exact absurd ⟨h, hb⟩ hv
        have e162 : g 162 r = 0 := by rw [hy.od, ho]; rfl
        simp only [u_M_turn_0, u_M_turn_1, u_M_turn_4, u_M_turn_7, u_M_turn_8, u_M_turn_11, u_M_turn_14, u_M_turn_15, u_M_turn_16, u_M_turn_17, u_M_turn_20, u_M_turn_21, u_M_turn_22, u_M_turn_25, u_M_turn_26, u_M_turn_29, u_M_turn_30, u_M_turn_31, u_M_turn_34, u_M_turn_36, h1_156, gt_156_22, gt_156_23, h1_161, h2_161, gt_161, pt_161, h1_162, h2_162, gt_162, pt_162, ne_eq, not_false_eq_true, not_true_eq_false, true_and, and_true, true_or, or_true, eq_self, Option.toList_some, Option.toList_none, List.cons_append, List.nil_append, tc_0, tc_I, tc_L, tc_A, Nat.reduceAdd, Nat.reduceLeDiff, Nat.reduceEqDiff, Int.reduceEq, Int.reduceLT, Int.reduceLE, Int.reduceNeg, Int.reduceToNat, Int.cast_ofNat_Int, if_true, if_false, and_self, or_self, ite_self, bI_0, bI_1, bI_01, Bool.false_eq_true, reduceCtorEq, s_M_isRoutine, hk, hkt, hk', and_self, decide_true, bB_t, Int.toNat_natCast, ← tha, e162]
  · have hst : VV L (d + 200) m_T_turn 0 [some (tA 1), some (tI k), some (tI kt)] [] (WW f t g) Q = Q (some (tI (-1))) (WW f t g) := by
      by_cases h1 : 0 ≤ k ∧ k < 10
      · have h2 : ¬ (0 ≤ kt ∧ kt < 10) := by omega
        simp only [u_T_turn_0, u_T_turn_1, u_T_turn_4, u_T_turn_7, u_T_turn_8, u_T_turn_11, u_T_turn_14, u_T_turn_15, ne_eq, not_false_eq_true, not_true_eq_false, true_and, and_true, true_or, or_true, eq_self, Option.toList_some, Option.toList_none, List.cons_append, List.nil_append, tc_0, tc_I, tc_L, tc_A, Nat.reduceAdd, Nat.reduceLeDiff, Nat.reduceEqDiff, Int.reduceEq, Int.reduceLT, Int.reduceLE, Int.reduceNeg, Int.reduceToNat, Int.cast_ofNat_Int, if_true, if_false, and_self, or_self, ite_self, bI_0, bI_1, bI_01, Bool.false_eq_true, reduceCtorEq, s_T_isRoutine, h1, h2, and_self, decide_true, decide_false, bB_t, bB_f]
      · simp only [u_T_turn_0, u_T_turn_1, u_T_turn_4, u_T_turn_7, u_T_turn_8, u_T_turn_11, u_T_turn_14, u_T_turn_15, ne_eq, not_false_eq_true, not_true_eq_false, true_and, and_true, true_or, or_true, eq_self, Option.toList_some, Option.toList_none, List.cons_append, List.nil_append, tc_0, tc_I, tc_L, tc_A, Nat.reduceAdd, Nat.reduceLeDiff, Nat.reduceEqDiff, Int.reduceEq, Int.reduceLT, Int.reduceLE, Int.reduceNeg, Int.reduceToNat, Int.cast_ofNat_Int, if_true, if_false, and_self, or_self, ite_self, bI_0, bI_1, bI_01, Bool.false_eq_true, reduceCtorEq, s_T_isRoutine, h1, decide_false, bB_f]
    rw [hst]
    refine hQ _ f t (RefP_0 hR (fun L d Q => ?_))
    by_cases h1 : 0 ≤ k ∧ k ≤ 9
    · have h2 : ¬ (0 ≤ kt ∧ kt ≤ 9) := by omega
      simp only [u_M_turn_0, u_M_turn_1, u_M_turn_4, u_M_turn_7, u_M_turn_8, u_M_turn_11, u_M_turn_14, u_M_turn_15, ne_eq, not_false_eq_true, not_true_eq_false, true_and, and_true, true_or, or_true, eq_self, Option.toList_some, Option.toList_none, List.cons_append, List.nil_append, tc_0, tc_I, tc_L, tc_A, Nat.reduceAdd, Nat.reduceLeDiff, Nat.reduceEqDiff, Int.reduceEq, Int.reduceLT, Int.reduceLE, Int.reduceNeg, Int.reduceToNat, Int.cast_ofNat_Int, if_true, if_false, and_self, or_self, ite_self, bI_0, bI_1, bI_01, Bool.false_eq_true, reduceCtorEq, s_M_isRoutine, h1, h2, and_self, decide_true, decide_false, bB_t, bB_f]
    · simp only [u_M_turn_0, u_M_turn_1, u_M_turn_4, u_M_turn_7, u_M_turn_8, u_M_turn_11, u_M_turn_14, u_M_turn_15, ne_eq, not_false_eq_true, not_true_eq_false, true_and, and_true, true_or, or_true, eq_self, Option.toList_some, Option.toList_none, List.cons_append, List.nil_append, tc_0, tc_I, tc_L, tc_A, Nat.reduceAdd, Nat.reduceLeDiff, Nat.reduceEqDiff, Int.reduceEq, Int.reduceLT, Int.reduceLE, Int.reduceNeg, Int.reduceToNat, Int.cast_ofNat_Int, if_true, if_false, and_self, or_self, ite_self, bI_0, bI_1, bI_01, Bool.false_eq_true, reduceCtorEq, s_M_isRoutine, h1, decide_false, bB_f]
