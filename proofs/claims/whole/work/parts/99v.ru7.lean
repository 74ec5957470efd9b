/-! The run: one GO of both -/
theorem TMo_fr {c : Nat} {g g' : Mem} {r : Nat} {T : Int → Int} {o : Bool} {x : TB c 6} (h : TMo g r T o x) (hg : FG g g') : TMo g' r T o x := by
  refine ⟨RT_fr2 h.rt (fun c k h1 h2 => hg c k (by omega)), RLt_mono _ _ h.ro (fun c k h1 h2 _ _ => hg c _ (by omega)), ?_, ?_⟩
  · rw [hg 166 r (by omega)]; exact h.nn
  · rw [hg 162 r (by omega)]; exact h.od
theorem TM_fr {X : Nat → Tre} {f f' t g g' : Mem} (h : TM X f t g) (hg : FG g g') (ha : ∀ r, aT f' r = aT f r) : TM X f' t g' := by
  refine ⟨fun r hr => ?_, fun r hr h1 => ?_⟩
  · rw [ha, hg 161 r (by omega)]; exact h.th r hr
  · rw [ha] at h1 ⊢; exact TMo_fr (h.ok r hr h1) hg
theorem TC_fr {X : Nat → Tre} {f f' t : Mem} (h : TC X f t) (ha : ∀ r, aT f' r = aT f r) : TC X f' t := by
  refine ⟨fun r hr => ?_, fun r hr => ?_, fun r hr h1 => ?_⟩
  · rw [ha]; exact h.tt r hr
  · rw [ha]; exact h.th r hr
  · rw [ha] at h1 ⊢; exact h.ok r hr h1
abbrev RR (X : Nat → Tre) (f t g : Mem) (TH : Nat) : Prop := (TC X f t) ∧ (TM X f t g) ∧ (RnC f t) ∧ (RnM 1 f g) ∧ (RSt f g TH) ∧ (RC f) ∧ (w32 (f 151 9) = f 151 9)
theorem RR.tc {X : Nat → Tre} {f t g : Mem} {TH : Nat} (hSelf : RR X f t g TH) : TC X f t := hSelf.1
theorem RR.tm {X : Nat → Tre} {f t g : Mem} {TH : Nat} (hSelf : RR X f t g TH) : TM X f t g := hSelf.2.1
theorem RR.rn {X : Nat → Tre} {f t g : Mem} {TH : Nat} (hSelf : RR X f t g TH) : RnC f t := hSelf.2.2.1
theorem RR.rm {X : Nat → Tre} {f t g : Mem} {TH : Nat} (hSelf : RR X f t g TH) : RnM 1 f g := hSelf.2.2.2.1
theorem RR.st {X : Nat → Tre} {f t g : Mem} {TH : Nat} (hSelf : RR X f t g TH) : RSt f g TH := hSelf.2.2.2.2.1
theorem RR.rc {X : Nat → Tre} {f t g : Mem} {TH : Nat} (hSelf : RR X f t g TH) : RC f := hSelf.2.2.2.2.2.1
theorem RR.w9 {X : Nat → Tre} {f t g : Mem} {TH : Nat} (hSelf : RR X f t g TH) : w32 (f 151 9) = f 151 9 := hSelf.2.2.2.2.2.2
/-- which way the class goes -/
def fwO (f : Mem) (rn : Int) : Int := if f 151 8 = 1 then 1 - rn else rn
def stC (f : Mem) (code rn : Int) : Mem := if code = 0 then mset (mset f 151 10 0) 151 9 (w32 (f 151 9 + (if rn = 1 then -1 else 1))) else mset f 151 10 code
theorem stC_o {f : Mem} {code rn : Int} {b j : Nat} (h : ¬ (b = 151 ∧ (j = 9 ∨ j = 10))) : stC f code rn b j = f b j := by
  unfold stC
  split
  · rw [rd, if_neg (by omega), rd, if_neg (by omega)]
  · rw [rd, if_neg (by omega)]
theorem stC_10 {f : Mem} {code rn : Int} : stC f code rn 151 10 = code := by
  unfold stC
  split
  · rename_i h; rw [rd, if_neg (by omega), rd, if_pos (by simp)]; exact h.symm
  · rw [rd, if_pos (by simp)]
section
variable {L d c : Nat} {X : Nat → Tre} {F f f' t g : Mem} {Q : Option TV → Wd → Prop} {TH : Nat} {fw code rn sg : Int}
theorem RnM_way {s s' : Int} {wy : Int} (h : RnM s f g) (hw : wy = s' * f 151 8) : RnM s' f (mset g 156 57 wy) := by
  refine ⟨?_, ?_, ?_, ?_, ?_, fun k hk => ?_⟩
  · rw [rd, if_neg (by omega)]; exact h.r6
  · rw [rd, if_neg (by omega)]; exact h.r7
  · rw [rd, if_pos (by simp)]; exact hw
  · rw [rd, if_neg (by omega)]; exact h.r9
  · rw [rd, if_neg (by omega)]; exact h.r5
  · rw [rd, if_neg (by omega), rd, if_neg (by omega)]; exact h.fr k hk
theorem ar_go {w rn wy : Int} (h : w = 1 ∨ w = -1) (hr : rn = 0 ∨ rn = 1) (hw : wy = (if rn = 1 then -1 else 1) * w) : w32 (0 - w) = -w ∧ ((if w = 1 then 1 - rn else rn) = 1 ∧ wy = 1) ∨ w32 (0 - w) = -w ∧ ((if w = 1 then 1 - rn else rn) = 0 ∧ wy = -1) := by
  rcases h with rfl | rfl <;> rcases hr with rfl | rfl <;> simp at hw <;> subst hw <;> decide
/-- what leaving wants of the reference -/
theorem lv_do0 {a r2 q : Nat} (o : Bool) (x : TB c 6) (hx : TCo t a o x) (hy : TMo g r2 (tok t a) o x) (hko : kOrd (tok t a 0) = false) (hq : (q : Int) < t a 9) (hop : t (a + 2) q = 206 ∨ t (a + 2) q = 207) : g 167 (40 * r2 + q) = t (a + 2) q - 200 := by
  have hn9 := hx.f9
  obtain ⟨e, he⟩ : ∃ e, (t9B 6 x 0 0)[q]? = some e := ⟨_, List.getElem?_eq_getElem (by rw [t9B_len]; rw [hn9] at hq; exact Int.ofNat_lt.mp hq)⟩
  have hE := TO9_get _ 0 q e hx.tb he
  rw [Nat.zero_add] at hE
  have ho : o = false := by rw [← hx.od]; exact hko
  subst ho
  have hG := GL_get _ 0 q e (GL_B (u := uT) 6 x hx.w 0 _ 0 (Int.le_refl _) hx.sg) he
  have hO := RLt_get _ 0 q e hy.ro he
  rw [Nat.zero_add] at hO
  have e1 : t (a + 2) q = e.1.1 := hE.1.1
  rw [e1] at hop ⊢
  have no200 : ¬ e.1.1 < 200 := by rcases hop with h | h <;> rw [h] <;> decide
  rcases hG with ⟨r0, _⟩ | ⟨g1, g2, _⟩
  · unfold RO at hO
    rw [if_pos r0] at hO
    rw [hO.1]; unfold dzS; rw [if_neg no200]
  · rw [if_neg (by decide)] at g2
    rcases hop with h | h <;> rw [h] at g2 <;> exact absurd g2 (by decide)
theorem lv_do {r2 q : Nat} (hX : TC X f t) (hY : TM X f t g) (hv : RvC f t r2) (hq : (q : Int) < t (aT f r2) 9) (hop : t (aT f r2 + 2) q = 206 ∨ t (aT f r2 + 2) q = 207) : g 167 (40 * r2 + q) = t (aT f r2 + 2) q - 200 :=
  lv_do0 _ _ (hX.ok r2 hv.1 hv.2.1) (hY.ok r2 hv.1 hv.2.1) hv.2.2 hq hop
theorem p_M_goes (hR : RR X f t g TH) (hrn : rn = 0 ∨ rn = 1) (hG : GoC (X (f 151 6).toNat).2.2 f t (fwO f rn) code f') (hQ : ∀ g' TH', RR X (stC f' code rn) t g' TH' → g' 156 62 = code → FG g g' → Q (some (tI (if code = 0 then 1 else 0))) (WW F t g')) : VV L (d + 45) m_M_goes 0 [some (tA 156), some (tI rn), none] [] (WW F t g) Q := by
  obtain ⟨hX, hY, hN, hM, hS, hRC, h9⟩ := hR
  obtain ⟨r, h6, hv, hp0, hp9⟩ := hN.cur
  have hr := hv.1
  have hcr : (f 151 6).toNat = r := by rw [h6]; exact Int.toNat_natCast r
  have hx := hX.ok r hv.1 hv.2.1
  have hy := hY.ok r hv.1 hv.2.1
  rw [hcr] at hG
  obtain ⟨wy, hwy⟩ : ∃ wy, wy = (if rn = 1 then -1 else 1) * f 151 8 := ⟨_, rfl⟩
  have hM1 := RnM_way (s' := if rn = 1 then -1 else 1) (wy := wy) hM hwy
  have hgo := ar_go hN.wy hrn hwy
  have hwn : w32 (0 - f 151 8) = - f 151 8 := by rcases hgo with h | h <;> exact h.1
  have hfw : (fwO f rn = 1 ∧ wy = 1) ∨ (fwO f rn = 0 ∧ wy = -1) := hgo.elim (fun h => Or.inl h.2) (fun h => Or.inr h.2)
  have hfw' : fwO f rn = 0 ∨ fwO f rn = 1 := hfw.elim (fun h => Or.inr h.1) (fun h => Or.inl h.1)
  generalize fwO f rn = fw at *
  generalize hg1 : mset g 156 57 wy = g1 at hM1
  have FG1 : FG g g1 := by rw [← hg1]; exact FG_m (by omega)
  have h57 : g1 156 57 = wy := by rw [← hg1, rd, if_pos (by simp)]
  have h56 : g1 156 56 = f 151 7 := hM1.r7
  have h55 : g1 156 55 = (r : Int) := hM1.r6.trans h6
  have hS1 : RSt f g1 TH := RSt_fr2 hS (fun _ _ _ _ => rfl) (fun b j hh => by rw [← hg1, rd, if_neg (by omega)])
  have hY1 : TM X f t g1 := TM_fr hY FG1 (fun _ => rfl)
  have hfw1 : (fw = 1 ∧ g1 156 57 = 1) ∨ (fw = 0 ∧ g1 156 57 = -1) := by rw [h57]; exact hfw
  have w8 : g 156 57 = f 151 8 := by rw [hM.r8, Int.one_mul]
  have hst : VV L (d + 45) m_M_goes 0 [some (tA 156), some (tI rn), none] [] (WW F t g) Q = VV L (d + 45) m_M_goes 21 [some (tA 156), some (tI rn), none] [] (WW F t g1) Q := by
    rw [← hg1, hwy]
    rcases hrn with rfl | rfl
    · simp only [u_M_goes_0, u_M_goes_1, u_M_goes_2, u_M_goes_5, u_M_goes_6, u_M_goes_7, u_M_goes_10, u_M_goes_11, u_M_goes_14, u_M_goes_15, u_M_goes_18, h1_156, gt_156_57, pt_156_57, ne_eq, not_false_eq_true, not_true_eq_false, true_and, and_true, true_or, or_true, eq_self, Option.toList_some, Option.toList_none, List.cons_append, List.nil_append, tc_0, tc_I, tc_L, tc_A, Nat.reduceAdd, Nat.reduceLeDiff, Nat.reduceEqDiff, Int.reduceEq, Int.reduceLT, Int.reduceLE, Int.reduceNeg, Int.reduceToNat, Int.cast_ofNat_Int, if_true, if_false, and_self, or_self, ite_self, bI_0, bI_1, bI_01, Bool.false_eq_true, reduceCtorEq, w8, Int.reduceEq, if_false, Int.one_mul]
    · simp only [u_M_goes_0, u_M_goes_1, u_M_goes_2, u_M_goes_5, u_M_goes_6, u_M_goes_7, u_M_goes_10, u_M_goes_11, u_M_goes_14, u_M_goes_15, u_M_goes_18, h1_156, gt_156_57, pt_156_57, ne_eq, not_false_eq_true, not_true_eq_false, true_and, and_true, true_or, or_true, eq_self, Option.toList_some, Option.toList_none, List.cons_append, List.nil_append, tc_0, tc_I, tc_L, tc_A, Nat.reduceAdd, Nat.reduceLeDiff, Nat.reduceEqDiff, Int.reduceEq, Int.reduceLT, Int.reduceLE, Int.reduceNeg, Int.reduceToNat, Int.cast_ofNat_Int, if_true, if_false, and_self, or_self, ite_self, bI_0, bI_1, bI_01, Bool.false_eq_true, reduceCtorEq, w8, hwn, if_true, Int.neg_mul, Int.one_mul]
  rw [hst]
  /- behind the step -/
  have after : ∀ g2 TH2, RnM (if rn = 1 then -1 else 1) f' g2 → RSt f' g2 TH2 → FG g1 g2 → ∀ o2, VV L (d + 45) m_M_goes 103 [some (tA 156), some (tI rn), o2] [tI code, tA 156] (WW F t g2) Q := by
    intro g2 TH2 k1 k2 k3 o2
    obtain ⟨hFR, hN', hRC', h99⟩ := GoC_ok _ _ hX (by rw [hcr]; exact hx) hN hS hRC hfw' hG (hC_15 k2)
    have k57 : g2 156 57 = (if rn = 1 then -1 else 1) * f' 151 8 := k1.r8
    have k58 : g2 156 58 = f' 151 9 := k1.r9
    have hwn' : w32 (0 - (if rn = 1 then -1 else 1) * f' 151 8) = (if rn = 1 then 1 else -1) * f' 151 8 := by
      rcases hN'.wy with h | h <;> rw [h] <;> rcases hrn with rfl | rfl <;> decide
    have w90 : w32 (f' 151 9 + 0) = f' 151 9 := by rw [h99, Int.add_zero]; exact h9
    have ha : ∀ r, aT (stC f' code rn) r = aT f r := fun r => by unfold aT; rw [stC_o (by omega)]; exact congrArg _ (hFR 3 r (by omega) (by omega) (by omega) (by omega) (by omega) (by omega))
    have hN2 : RnC (stC f' code rn) t := by
      obtain ⟨r', q1, q2, q3, q4⟩ := hN'.cur
      exact RnC_pl hN' q1 (fun b j hh => stC_o (by omega)) (by rw [stC_o (by omega)]; exact ⟨q3, q4⟩)
    have fin : ∀ s58 : Int, s58 = stC f' code rn 151 9 → Q (some (tI (if code = 0 then 1 else 0))) (WW F t (mset (mset (mset g2 156 62 code) 156 57 (f' 151 8)) 156 58 s58)) := by
      intro s58 hs58
      have hFG : FG g2 (mset (mset (mset g2 156 62 code) 156 57 (f' 151 8)) 156 58 s58) := FG_tr (FG_tr (FG_m (by omega)) (FG_m (by omega))) (FG_m (by omega))
      refine hQ _ TH2 ⟨TC_fr hX ha, TM_fr hY1 (FG_tr k3 hFG) ha, hN2, ⟨?_, ?_, ?_, ?_, ?_, fun k hk => ?_⟩, RSt_fr2 k2 (fun b j _ _ => stC_o (by omega)) (fun b j hh => ?_), RC_fr hRC' (hC_15 k2) (fun b j _ _ => stC_o (by omega)), ?_⟩ ?_ (FG_tr FG1 (FG_tr k3 hFG))
      · rw [stC_o (by omega)]; simp only [rd, Nat.reduceEqDiff, and_false, if_false]; exact k1.r6
      · rw [stC_o (by omega)]; simp only [rd, Nat.reduceEqDiff, and_false, if_false]; exact k1.r7
      · rw [stC_o (by omega)]; simp only [rd, Nat.reduceEqDiff, and_false, if_false, and_self, if_true]; rw [Int.one_mul]
      · simp only [rd, and_self, if_true]; exact hs58
      · rw [stC_o (by omega)]; simp only [rd, Nat.reduceEqDiff, and_false, if_false]; exact k1.r5
      · rw [stC_o (by omega)] at hk
        rw [stC_o (by omega), stC_o (by omega)]; simp only [rd, Nat.reduceEqDiff, false_and, if_false]; exact k1.fr k hk
      · simp only [rd]; rw [if_neg (by omega), if_neg (by omega), if_neg (by omega)]
      · unfold stC
        split
        · rw [rd, if_pos (by simp)]; exact w32_w32
        · rw [rd, if_neg (by omega), h99]; exact h9
      · simp only [rd, Nat.reduceEqDiff, and_false, if_false, and_self, if_true]
    have way2 : (if rn = 1 then (w32 (0 - g2 156 57)) else g2 156 57) = f' 151 8 := by
      rw [k57, hwn']
      rcases hrn with rfl | rfl <;> simp
    have hmid : VV L (d + 45) m_M_goes 103 [some (tA 156), some (tI rn), o2] [tI code, tA 156] (WW F t g2) Q = VV L (d + 45) m_M_goes 127 [some (tA 156), some (tI rn), o2] [] (WW F t (mset (mset g2 156 62 code) 156 57 (f' 151 8))) Q := by
      rw [← way2]
      rcases hrn with rfl | rfl <;> simp only [u_M_goes_103, u_M_goes_106, u_M_goes_107, u_M_goes_108, u_M_goes_111, u_M_goes_112, u_M_goes_113, u_M_goes_116, u_M_goes_117, u_M_goes_120, u_M_goes_121, u_M_goes_124, h1_156, pt_156_62, gt_156_57, pt_156_57, ne_eq, not_false_eq_true, not_true_eq_false, true_and, and_true, true_or, or_true, eq_self, Option.toList_some, Option.toList_none, List.cons_append, List.nil_append, tc_0, tc_I, tc_L, tc_A, Nat.reduceAdd, Nat.reduceLeDiff, Nat.reduceEqDiff, Int.reduceEq, Int.reduceLT, Int.reduceLE, Int.reduceNeg, Int.reduceToNat, Int.cast_ofNat_Int, if_true, if_false, and_self, or_self, ite_self, bI_0, bI_1, bI_01, Bool.false_eq_true, reduceCtorEq, rd, Nat.reduceEqDiff, and_false, if_false, Int.reduceEq, if_true]
    rw [hmid]
    have l58 : (mset (mset g2 156 62 code) 156 57 (f' 151 8)) 156 58 = f' 151 9 := by simp only [rd, Nat.reduceEqDiff, and_false, if_false]; exact k58
    have l62 : (mset (mset g2 156 62 code) 156 57 (f' 151 8)) 156 62 = code := by simp only [rd, Nat.reduceEqDiff, and_false, if_false, and_self, if_true]
    have l62' : ∀ v, (mset (mset (mset g2 156 62 code) 156 57 (f' 151 8)) 156 58 v) 156 62 = code := fun v => by simp only [rd, Nat.reduceEqDiff, and_false, if_false, and_self, if_true]
    by_cases hc0 : code = 0
    · have fin' := fin (w32 (f' 151 9 + (if rn = 1 then -1 else 1))) (by unfold stC; rw [if_pos hc0]; simp only [rd, and_self, if_true])
      rw [if_pos hc0] at fin'
      subst hc0
      rcases hrn with rfl | rfl <;> simp only [u_M_goes_127, u_M_goes_128, u_M_goes_129, u_M_goes_132, u_M_goes_133, u_M_goes_136, u_M_goes_139, u_M_goes_140, u_M_goes_143, u_M_goes_144, u_M_goes_147, u_M_goes_148, u_M_goes_151, u_M_goes_152, u_M_goes_153, u_M_goes_156, u_M_goes_157, u_M_goes_160, u_M_goes_163, u_M_goes_164, u_M_goes_167, u_M_goes_168, h1_156, gt_156_58, pt_156_58, gt_156_62, ne_eq, not_false_eq_true, not_true_eq_false, true_and, and_true, true_or, or_true, eq_self, Option.toList_some, Option.toList_none, List.cons_append, List.nil_append, tc_0, tc_I, tc_L, tc_A, Nat.reduceAdd, Nat.reduceLeDiff, Nat.reduceEqDiff, Int.reduceEq, Int.reduceLT, Int.reduceLE, Int.reduceNeg, Int.reduceToNat, Int.cast_ofNat_Int, if_true, if_false, and_self, or_self, ite_self, bI_0, bI_1, bI_01, Bool.false_eq_true, reduceCtorEq, l58, l62, l62'] <;> simp only [Int.reduceEq, if_true, if_false] at fin' <;> exact fin'
    · have fin' := fin (f' 151 9) (by unfold stC; rw [if_neg hc0, rd, if_neg (by omega)])
      rw [if_neg hc0] at fin'
      simp only [u_M_goes_127, u_M_goes_128, u_M_goes_129, u_M_goes_132, u_M_goes_133, u_M_goes_136, u_M_goes_139, u_M_goes_140, u_M_goes_143, u_M_goes_144, u_M_goes_147, u_M_goes_148, u_M_goes_151, u_M_goes_152, u_M_goes_153, u_M_goes_156, u_M_goes_157, u_M_goes_160, u_M_goes_163, u_M_goes_164, u_M_goes_167, u_M_goes_168, h1_156, gt_156_58, pt_156_58, gt_156_62, ne_eq, not_false_eq_true, not_true_eq_false, true_and, and_true, true_or, or_true, eq_self, Option.toList_some, Option.toList_none, List.cons_append, List.nil_append, tc_0, tc_I, tc_L, tc_A, Nat.reduceAdd, Nat.reduceLeDiff, Nat.reduceEqDiff, Int.reduceEq, Int.reduceLT, Int.reduceLE, Int.reduceNeg, Int.reduceToNat, Int.cast_ofNat_Int, if_true, if_false, and_self, or_self, ite_self, bI_0, bI_1, bI_01, Bool.false_eq_true, reduceCtorEq, l58, l62, l62', hc0, w90]
      exact fin'
  have hn9 := hx.f9
  have hnn : g1 166 r = (nB 6 (X r).2.2 : Int) := by rw [FG1 166 r (by omega)]; exact hy.nn
  have i1 : (0 : Int) ≤ r := by omega
  have i2 : (r : Int) < 10 := by omega
  have hG' := hG
  unfold GoC at hG
  rw [hcr] at hG
  by_cases hend : f 151 7 = (if fw = 1 then (nB 6 (X r).2.2 : Int) else 0)
  · rw [if_pos hend] at hG
    have st2 : VV L (d + 45) m_M_goes 21 [some (tA 156), some (tI rn), none] [] (WW F t g1) Q = VV L (d + 44) m_M_leaves 0 [some (tA 156), none, none, none] [] (WW F t g1) (fun r_1 w1 => VV L (d + 44 + 1) m_M_goes 75 [some (tA 156), some (tI rn), some (tI 1)] (r_1.toList ++ [tA 156]) w1 Q) := by
      rcases hfw1 with ⟨rfl, k57⟩ | ⟨rfl, k57⟩
      · rw [if_pos rfl] at hend
        simp only [u_M_goes_21, u_M_goes_22, u_M_goes_25, u_M_goes_26, u_M_goes_29, u_M_goes_30, u_M_goes_33, u_M_goes_34, u_M_goes_37, u_M_goes_38, u_M_goes_41, u_M_goes_42, u_M_goes_45, u_M_goes_46, u_M_goes_49, u_M_goes_50, u_M_goes_53, u_M_goes_54, u_M_goes_57, u_M_goes_60, u_M_goes_61, u_M_goes_64, u_M_goes_65, u_M_goes_66, u_M_goes_67, u_M_goes_68, u_M_goes_71, u_M_goes_72, h1_156, gt_156_27, gt_156_55, gt_156_56, gt_156_57, h1_166, h2_166, gt_166, pt_166, ne_eq, not_false_eq_true, not_true_eq_false, true_and, and_true, true_or, or_true, eq_self, Option.toList_some, Option.toList_none, List.cons_append, List.nil_append, tc_0, tc_I, tc_L, tc_A, Nat.reduceAdd, Nat.reduceLeDiff, Nat.reduceEqDiff, Int.reduceEq, Int.reduceLT, Int.reduceLE, Int.reduceNeg, Int.reduceToNat, Int.cast_ofNat_Int, if_true, if_false, and_self, or_self, ite_self, bI_0, bI_1, bI_01, Bool.false_eq_true, reduceCtorEq, k57, h56, h55, i1, i2, Int.toNat_natCast, hnn, hend]
      · rw [if_neg (by decide)] at hend
        simp only [u_M_goes_21, u_M_goes_22, u_M_goes_25, u_M_goes_26, u_M_goes_29, u_M_goes_30, u_M_goes_33, u_M_goes_34, u_M_goes_37, u_M_goes_38, u_M_goes_41, u_M_goes_42, u_M_goes_45, u_M_goes_46, u_M_goes_49, u_M_goes_50, u_M_goes_53, u_M_goes_54, u_M_goes_57, u_M_goes_60, u_M_goes_61, u_M_goes_64, u_M_goes_65, u_M_goes_66, u_M_goes_67, u_M_goes_68, u_M_goes_71, u_M_goes_72, h1_156, gt_156_27, gt_156_55, gt_156_56, gt_156_57, h1_166, h2_166, gt_166, pt_166, ne_eq, not_false_eq_true, not_true_eq_false, true_and, and_true, true_or, or_true, eq_self, Option.toList_some, Option.toList_none, List.cons_append, List.nil_append, tc_0, tc_I, tc_L, tc_A, Nat.reduceAdd, Nat.reduceLeDiff, Nat.reduceEqDiff, Int.reduceEq, Int.reduceLT, Int.reduceLE, Int.reduceNeg, Int.reduceToNat, Int.cast_ofNat_Int, if_true, if_false, and_self, or_self, ite_self, bI_0, bI_1, bI_01, Bool.false_eq_true, reduceCtorEq, k57, h56, hend]
    rw [st2]
    by_cases h5 : f 151 5 = 0
    · rw [if_pos h5] at hG
      rw [s_M_leaves0 (by rw [hM1.r5]; exact h5)]
      simp only [u_M_goes_75, ne_eq, not_false_eq_true, not_true_eq_false, true_and, and_true, true_or, or_true, eq_self, Option.toList_some, Option.toList_none, List.cons_append, List.nil_append, tc_0, tc_I, tc_L, tc_A, Nat.reduceAdd, Nat.reduceLeDiff, Nat.reduceEqDiff, Int.reduceEq, Int.reduceLT, Int.reduceLE, Int.reduceNeg, Int.reduceToNat, Int.cast_ofNat_Int, if_true, if_false, and_self, or_self, ite_self, bI_0, bI_1, bI_01, Bool.false_eq_true, reduceCtorEq]
      have := after g1 TH (by rw [hG.2]; exact hM1) (by rw [hG.2]; exact hS1) FG_refl (some (tI 1))
      rw [hG.1] at this; exact this
    · rw [if_neg h5] at hG
      have hgg := hN.hg
      obtain ⟨r2, b1, b2, b3, b4, b5⟩ := hN.fr (f 151 5 - 1).toNat (by omega)
      have b1' : (f 153 (f 151 5 - 1).toNat).toNat = r2 := by rw [b1]; exact Int.toNat_natCast r2
      have hx2 := hX.ok r2 b2.1 b2.2.1
      rw [b1'] at hG
      have hdo := lv_do (q := (f 154 (f 151 5 - 1).toNat).toNat) hX hY1 b2 (by omega) b5
      refine p_M_leaves hM1 (by omega) hgg.2 b1 b2.1 ⟨b3, by rw [hx2.f9] at b4; have := hx2.n40; omega⟩ b5 hdo hfw1 (fun g' k1 k2 => ?_)
      simp only [u_M_goes_75, ne_eq, not_false_eq_true, not_true_eq_false, true_and, and_true, true_or, or_true, eq_self, Option.toList_some, Option.toList_none, List.cons_append, List.nil_append, tc_0, tc_I, tc_L, tc_A, Nat.reduceAdd, Nat.reduceLeDiff, Nat.reduceEqDiff, Int.reduceEq, Int.reduceLT, Int.reduceLE, Int.reduceNeg, Int.reduceToNat, Int.cast_ofNat_Int, if_true, if_false, and_self, or_self, ite_self, bI_0, bI_1, bI_01, Bool.false_eq_true, reduceCtorEq]
      have := after g' TH (by rw [hG.2]; exact k1) (by rw [hG.2]; exact RSt_fr2 hS1 (fun b j _ _ => lvC_st (by omega)) (fun b j hh => k2 b j (by omega))) (FG_H k2) (some (tI 1))
      rw [hG.1] at this; exact this
  · rw [if_neg hend] at hG
    obtain ⟨q, e, hq, hqn, he, hG⟩ := hG
    have n40 := hx.n40
    have st2 : VV L (d + 45) m_M_goes 21 [some (tA 156), some (tI rn), none] [] (WW F t g1) Q = VV L (d + 44) m_M_over 0 [some (tA 156), some (tI q), none, none, none, none, none, none, none, none, none] [] (WW F t g1) (fun r_1 w1 => VV L (d + 44 + 1) m_M_goes 103 [some (tA 156), some (tI rn), some (tI 0)] (r_1.toList ++ [tA 156]) w1 Q) := by
      rcases hfw1 with ⟨rfl, k57⟩ | ⟨rfl, k57⟩
      · rw [if_pos rfl] at hend hq
        simp only [u_M_goes_21, u_M_goes_22, u_M_goes_25, u_M_goes_26, u_M_goes_29, u_M_goes_30, u_M_goes_33, u_M_goes_34, u_M_goes_37, u_M_goes_38, u_M_goes_41, u_M_goes_42, u_M_goes_45, u_M_goes_46, u_M_goes_49, u_M_goes_50, u_M_goes_53, u_M_goes_54, u_M_goes_57, u_M_goes_60, u_M_goes_61, u_M_goes_64, u_M_goes_65, u_M_goes_66, u_M_goes_67, u_M_goes_68, u_M_goes_71, u_M_goes_72, u_M_goes_75, u_M_goes_78, u_M_goes_79, u_M_goes_80, u_M_goes_83, u_M_goes_84, u_M_goes_87, u_M_goes_88, u_M_goes_91, u_M_goes_94, u_M_goes_95, u_M_goes_98, u_M_goes_99, u_M_goes_100, h1_156, gt_156_27, gt_156_55, gt_156_56, gt_156_57, h1_166, h2_166, gt_166, pt_166, ne_eq, not_false_eq_true, not_true_eq_false, true_and, and_true, true_or, or_true, eq_self, Option.toList_some, Option.toList_none, List.cons_append, List.nil_append, tc_0, tc_I, tc_L, tc_A, Nat.reduceAdd, Nat.reduceLeDiff, Nat.reduceEqDiff, Int.reduceEq, Int.reduceLT, Int.reduceLE, Int.reduceNeg, Int.reduceToNat, Int.cast_ofNat_Int, if_true, if_false, and_self, or_self, ite_self, bI_0, bI_1, bI_01, Bool.false_eq_true, reduceCtorEq, k57, h56, h55, i1, i2, Int.toNat_natCast, hnn, hend, hq]
      · rw [if_neg (by decide)] at hend hq
        have wq : w32 (f 151 7 - 1) = (q : Int) := by rw [← hq]; exact w32_id (by omega) (by omega)
        simp only [u_M_goes_21, u_M_goes_22, u_M_goes_25, u_M_goes_26, u_M_goes_29, u_M_goes_30, u_M_goes_33, u_M_goes_34, u_M_goes_37, u_M_goes_38, u_M_goes_41, u_M_goes_42, u_M_goes_45, u_M_goes_46, u_M_goes_49, u_M_goes_50, u_M_goes_53, u_M_goes_54, u_M_goes_57, u_M_goes_60, u_M_goes_61, u_M_goes_64, u_M_goes_65, u_M_goes_66, u_M_goes_67, u_M_goes_68, u_M_goes_71, u_M_goes_72, u_M_goes_75, u_M_goes_78, u_M_goes_79, u_M_goes_80, u_M_goes_83, u_M_goes_84, u_M_goes_87, u_M_goes_88, u_M_goes_91, u_M_goes_94, u_M_goes_95, u_M_goes_98, u_M_goes_99, u_M_goes_100, h1_156, gt_156_27, gt_156_55, gt_156_56, gt_156_57, h1_166, h2_166, gt_166, pt_166, ne_eq, not_false_eq_true, not_true_eq_false, true_and, and_true, true_or, or_true, eq_self, Option.toList_some, Option.toList_none, List.cons_append, List.nil_append, tc_0, tc_I, tc_L, tc_A, Nat.reduceAdd, Nat.reduceLeDiff, Nat.reduceEqDiff, Int.reduceEq, Int.reduceLT, Int.reduceLE, Int.reduceNeg, Int.reduceToNat, Int.cast_ofNat_Int, if_true, if_false, and_self, or_self, ite_self, bI_0, bI_1, bI_01, Bool.false_eq_true, reduceCtorEq, k57, h56, hend, wq]
    rw [st2]
    have hO := RLt_get _ 0 q e (hY1.ok r hv.1 hv.2.1).ro he
    rw [Nat.zero_add] at hO
    have hRT := (hY1.ok r hv.1 hv.2.1).rt
    rcases hG with hG | hG
    · refine p_M_overS hRT h55 hO (by omega) hfw1 ?_ hx.c11 hRC hS1 hM1 hN.hg hX hY1 hG (fun g' TH' k1 k2 k3 => ?_)
      · rw [h56, hq]; split <;> omega
      · exact after g' TH' k1 k2 k3 (some (tI 0))
    · refine p_M_overF hRT h55 hO (by omega) n40 hfw1 hx.c11 hS1 hM1 hG (fun g' TH' k1 k2 k3 => ?_)
      exact after g' TH' k1 k2 k3 (some (tI 0))
end
