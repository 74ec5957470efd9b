/-! Mirrors, the reference: what has parts, blocks -/
section
variable {L d D r len c : Nat} {f t g : Mem} {T : Int → Int} {Q : Option TV → Wd → Prop} {i j : Int} {P : List (Int × Int)} {Y : Type} {kb : Y → List Int} {wb : Y → Prop} {mb : Y → Y}
/-- what mirrors does with a block -/
def MRok (L D r len : Nat) (T : Int → Int) (f t g : Mem) {Y : Type} (kb : Y → List Int) (wb : Y → Prop) (mb : Y → Y) : Prop := ∀ (x : Y), wb x → ∀ (i j : Int) (P : List (Int × Int)) (Q : Option TV → Wd → Prop), 0 ≤ i → j ≤ (len : Int) → seg T i j (kb x) → P.length + (kb (mb x)).length ≤ 1600 → VV L D m_M_mirrors 0 [some (tA 156), some (tI r), some (tI i), some (tI j), none, none, none, none] [] (WW f t (emM g P)) Q = Q none (WW f t (emM g (P ++ pqL 0 (kb (mb x)))))
theorem ar_mw {i a aE bE z len : Int} (h0 : 0 ≤ i) (h1 : i < a) (h2 : a < aE) (h3 : aE < bE) (h4 : bE < z) (h5 : z < len) (h6 : len ≤ 1000) : w32 (i + 1) = i + 1 ∧ w32 (a + 1) = a + 1 ∧ w32 (aE + 2) = aE + 1 + 1 ∧ w32 (aE + 3) = aE + 1 + 1 + 1 ∧ w32 (bE + 2) = bE + 1 + 1 ∧ w32 (z + 1 - 1) = z := by
  refine ⟨?_, ?_, ?_, ?_, ?_, ?_⟩ <;> rw [w32_id (by omega) (by omega)] <;> omega
theorem s_M_mC (h : RT g r T len) (hb : ∀ x, wb x → ∀ p, 0 < p → Wl brc p (kb x) p) (hR : MRok L (d + 1) r len T f t g kb wb mb) (s : CC c Y) (hw : wC false wb s) (h0 : 0 ≤ i) (hj : j ≤ len) (hs : seg T i j (kC kb s)) (hlen : P.length + (kC kb (mC mb s)).length ≤ 1600) : VV L (d + 2) m_M_mirrorStep 0 [some (tA 156), some (tI r), some (tI i), some (tI j), none, none, none, none] [] (WW f t (emM g P)) Q = Q none (WW f t (emM g (P ++ pqL 0 (kC kb (mC mb s))))) := by
  match s, hw, hs, hlen with
  | .inl (k, e, x, y, e2), hw, hs, hlen =>
    have hl1 := h.l1
    obtain ⟨_, hk, he, hx, hy, he2⟩ := hw
    obtain ⟨r1, hs⟩ := seg_hd hs
    obtain ⟨r2, hs⟩ := seg_split hs
    obtain ⟨r3, hs⟩ := seg_hd hs
    obtain ⟨r4, hs⟩ := seg_split hs
    obtain ⟨r5, hs⟩ := seg_hd hs
    obtain ⟨r6, hs⟩ := seg_hd hs
    obtain ⟨r7, hs⟩ := seg_hd hs
    obtain ⟨r8, hs⟩ := seg_split hs
    obtain ⟨r9, hs⟩ := seg_hd hs
    obtain ⟨r10, hs⟩ := seg_hd hs
    obtain ⟨r11, hs⟩ := seg_split hs
    obtain ⟨r12, hs⟩ := seg_hd hs
    have ej := seg_len hs
    simp only [List.length_nil] at ej
    have hm : ∃ mid fin : Int, (if k = 208 then (209 : Int) else 212) = mid ∧ (if k = 208 then (210 : Int) else 213) = fin ∧ kEnd fin = false := by
      refine ⟨_, _, rfl, rfl, ?_⟩
      rcases hk with rfl | rfl <;> decide
    obtain ⟨mid, fin, hmid, hfin, hkf⟩ := hm
    rw [hmid] at r6
    rw [hfin] at r10
    have hkk : kEnd k = false := kEnd_hi (by omega)
    have hgoal : kC kb (mC mb (.inl (k, e, x, y, e2) : CC c Y)) = k :: (kX e2 ++ 123 :: (kb (mb x) ++ 125 :: mid :: 123 :: (kb (mb y) ++ 125 :: fin :: (kX e ++ [59])))) := by rw [← hmid, ← hfin]; rfl
    rw [hgoal] at hlen ⊢
    rw [pq_C hkk hkf]
    simp only [List.length_cons, List.length_append, List.length_nil] at hlen
    obtain ⟨a, ea⟩ : ∃ a, a = i + 1 + ((kX e).length : Int) := ⟨_, rfl⟩
    rw [← ea] at r2 r3 r4 r5 r6 r7 r8 r9 r10 r11 r12 ej
    obtain ⟨aE, eaE⟩ : ∃ aE, aE = a + 1 + ((kb x).length : Int) := ⟨_, rfl⟩
    rw [← eaE] at r4 r5 r6 r7 r8 r9 r10 r11 r12 ej
    obtain ⟨bE, ebE⟩ : ∃ bE, bE = aE + 1 + 1 + 1 + ((kb y).length : Int) := ⟨_, rfl⟩
    rw [← ebE] at r8 r9 r10 r11 r12 ej
    obtain ⟨z, ez⟩ : ∃ z, z = bE + 1 + 1 + ((kX e2).length : Int) := ⟨_, rfl⟩
    rw [← ez] at r11 r12 ej
    have ej' : j = z + 1 := by omega
    subst ej'
    obtain ⟨w1, w2, w3, w4, w5, w6⟩ := ar_mw (len := (len : Int)) h0 (show i < a by omega) (show a < aE by omega) (show aE < bE by omega) (show bE < z by omega) (by omega) (by omega)
    obtain ⟨x1, x2, x3, x4, x5, x6⟩ := (RT_em (P := P) h).ix h0 (show i < len by omega)
    have hn : eS T i = 5 := eS_key (by rw [r1]; omega) (by rw [r1]; omega)
    have hwk : whc (T i) = k - 200 := by rw [r1]; exact whc_key (by omega)
    rw [hn] at x5
    rw [hwk] at x6
    have hk8 : k - 200 = 8 ∨ (¬ k - 200 = 8 ∧ k - 200 = 11) := by omega
    have F1 := fun D Q => s_M_find (L := L) (d := D) (f := f) (t := t) (Q := Q) (l := k :: kX e) (RT_em (P := P) h) (sg := 123) (by decide) (by decide) (by decide) r3 (Skp_0 _ (fun v hv => by
      rcases List.mem_cons.mp hv with rfl | hv
      · exact ⟨⟨by omega, by omega, by omega⟩, by omega⟩
      · have q := eTk_no (kX_e e he v hv)
        exact ⟨⟨q.1, q.2.1, q.2.2.1⟩, q.2.1⟩)) (seg_cons r1 r2) h0
    have K1 := fun D Q => s_M_closes (L := L) (d := D) (f := f) (t := t) (Q := Q) (RT_em (P := P) h) r3 r5 (hb x hx 1 (by omega)) r4 (show 0 ≤ a by omega)
    have K2 := fun D Q => s_M_closes (L := L) (d := D) (f := f) (t := t) (Q := Q) (RT_em (P := P) h) r7 r9 (hb y hy 1 (by omega)) r8 (show 0 ≤ aE + 1 + 1 by omega)
    obtain ⟨P1, e1⟩ : ∃ P1, P1 = P ++ pqL 0 [k] := ⟨_, rfl⟩
    obtain ⟨P2, e2'⟩ : ∃ P2, P2 = P1 ++ pqL 0 (kX e2) := ⟨_, rfl⟩
    obtain ⟨P3, e3⟩ : ∃ P3, P3 = P2 ++ pqL 0 [123] := ⟨_, rfl⟩
    obtain ⟨P4, e4⟩ : ∃ P4, P4 = P3 ++ pqL 0 (kb (mb x)) := ⟨_, rfl⟩
    obtain ⟨P5, e5⟩ : ∃ P5, P5 = P4 ++ pqL 0 [125, mid, 123] := ⟨_, rfl⟩
    obtain ⟨P6, e6⟩ : ∃ P6, P6 = P5 ++ pqL 0 (kb (mb y)) := ⟨_, rfl⟩
    obtain ⟨P7, e7⟩ : ∃ P7, P7 = P6 ++ pqL 0 [125, fin] := ⟨_, rfl⟩
    obtain ⟨P8, e8⟩ : ∃ P8, P8 = P7 ++ pqL 0 (kX e) := ⟨_, rfl⟩
    have n1' : P1.length = P.length + 1 := by rw [e1, List.length_append, pqL_len]; rfl
    have n2' : P2.length = P1.length + (kX e2).length := by rw [e2', List.length_append, pqL_len]
    have n3' : P3.length = P2.length + 1 := by rw [e3, List.length_append, pqL_len]; rfl
    have n4' : P4.length = P3.length + (kb (mb x)).length := by rw [e4, List.length_append, pqL_len]
    have n5' : P5.length = P4.length + 3 := by rw [e5, List.length_append, pqL_len]; rfl
    have n6' : P6.length = P5.length + (kb (mb y)).length := by rw [e6, List.length_append, pqL_len]
    have n7' : P7.length = P6.length + 2 := by rw [e7, List.length_append, pqL_len]; rfl
    have n8' : P8.length = P7.length + (kX e).length := by rw [e8, List.length_append, pqL_len]
    have hall : P ++ (pqL 0 [k] ++ pqL 0 (kX e2) ++ pqL 0 [123] ++ pqL 0 (kb (mb x)) ++ pqL 0 [125, mid, 123] ++ pqL 0 (kb (mb y)) ++ pqL 0 [125, fin] ++ pqL 0 (kX e) ++ pqL 0 [59]) = P8 ++ pqL 0 [59] := by
      rw [e8, e7, e6, e5, e4, e3, e2', e1]; simp only [List.append_assoc]
    rw [hall]
    have one : ∀ v : Int, pqL 0 [v] = [(eSl 0 v, whc v)] := fun v => rfl
    have ok : eSl 0 k = 5 ∧ whc k = k - 200 := ⟨by unfold eSl; rw [if_neg (by omega)]; exact srt_key (by omega), whc_key (by omega)⟩
    have o123 : eSl 0 123 = 7 ∧ whc 123 = 123 := by decide
    have o59 : eSl 0 59 = 7 ∧ whc 59 = 59 := by decide
    have E1 := fun D Q => s_M_emM (L := L) (d := D) (f := f) (t := t) (g := g) (Q := Q) (P := P) (x := 5) (y := k - 200) (by omega)
    rw [← ok.2, ← ok.1, ← one, ← e1, ok.2, ok.1] at E1
    have C2 := fun D Q => s_M_copies (L := L) (d := D) (f := f) (t := t) (Q := Q) (P := P1) h (show z ≤ len by omega) (show 0 ≤ bE + 1 + 1 by omega) r11 (by omega)
    rw [show bE + 1 + 1 - 1 = bE + 1 by omega, r10, pqL_e hkf (y := 0) (by decide), ← e2'] at C2
    have E3 := fun D Q => s_M_emM (L := L) (d := D) (f := f) (t := t) (g := g) (Q := Q) (P := P2) (x := eSl 0 123) (y := whc 123) (by omega)
    rw [← one, ← e3, o123.1, o123.2] at E3
    have M4 := fun Q => hR x hx (a + 1) aE P3 Q (by omega) (by omega) r4 (by omega)
    rw [← e4] at M4
    have C5 := fun D Q => s_M_copies (L := L) (d := D) (f := f) (t := t) (Q := Q) (P := P4) (k := [125, mid, 123]) h (show aE + 1 + 1 + 1 ≤ len by omega) (show 0 ≤ aE by omega) (seg_cons r5 (seg_cons r6 (seg_one r7))) (by simp only [List.length_cons, List.length_nil]; omega)
    rw [pqL_h (l := [125, mid, 123]) (y := 0) (show ¬ (125 : Int) = 45 by decide), ← e5] at C5
    have M6 := fun Q => hR y hy (aE + 1 + 1 + 1) bE P5 Q (by omega) (by omega) r8 (by omega)
    rw [← e6] at M6
    have C7 := fun D Q => s_M_copies (L := L) (d := D) (f := f) (t := t) (Q := Q) (P := P6) (k := [125, fin]) h (show bE + 1 + 1 ≤ len by omega) (show 0 ≤ bE by omega) (seg_cons r9 (seg_one r10)) (by simp only [List.length_cons, List.length_nil]; omega)
    rw [pqL_h (l := [125, fin]) (y := 0) (show ¬ (125 : Int) = 45 by decide), ← e7] at C7
    have C8 := fun D Q => s_M_copies (L := L) (d := D) (f := f) (t := t) (Q := Q) (P := P7) h (show a ≤ len by omega) (show 0 ≤ i + 1 by omega) r2 (by omega)
    rw [show i + 1 - 1 = i by omega, r1, pqL_e hkk (y := 0) (by decide), ← e8] at C8
    have E9 := fun D Q => s_M_emM (L := L) (d := D) (f := f) (t := t) (g := g) (Q := Q) (P := P8) (x := eSl 0 59) (y := whc 59) (by omega)
    rw [← one, o59.1, o59.2] at E9
    rcases hk8 with k8 | ⟨k8, k11⟩
    · rw [k8] at E1 x6
      simp only [u_M_mirrorStep_0, u_M_mirrorStep_1, u_M_mirrorStep_4, u_M_mirrorStep_7, u_M_mirrorStep_8, u_M_mirrorStep_9, u_M_mirrorStep_10, u_M_mirrorStep_11, u_M_mirrorStep_12, u_M_mirrorStep_13, u_M_mirrorStep_105, u_M_mirrorStep_106, u_M_mirrorStep_109, u_M_mirrorStep_112, u_M_mirrorStep_113, u_M_mirrorStep_114, u_M_mirrorStep_115, u_M_mirrorStep_116, u_M_mirrorStep_117, u_M_mirrorStep_119, u_M_mirrorStep_121, u_M_mirrorStep_123, u_M_mirrorStep_153, u_M_mirrorStep_154, u_M_mirrorStep_155, u_M_mirrorStep_156, u_M_mirrorStep_158, u_M_mirrorStep_161, u_M_mirrorStep_163, u_M_mirrorStep_164, u_M_mirrorStep_165, u_M_mirrorStep_167, u_M_mirrorStep_170, u_M_mirrorStep_172, u_M_mirrorStep_173, u_M_mirrorStep_174, u_M_mirrorStep_176, u_M_mirrorStep_177, u_M_mirrorStep_178, u_M_mirrorStep_181, u_M_mirrorStep_183, u_M_mirrorStep_184, u_M_mirrorStep_185, u_M_mirrorStep_187, u_M_mirrorStep_190, u_M_mirrorStep_191, u_M_mirrorStep_192, u_M_mirrorStep_194, u_M_mirrorStep_195, u_M_mirrorStep_196, u_M_mirrorStep_197, u_M_mirrorStep_198, u_M_mirrorStep_199, u_M_mirrorStep_202, u_M_mirrorStep_203, u_M_mirrorStep_205, u_M_mirrorStep_207, u_M_mirrorStep_210, u_M_mirrorStep_211, u_M_mirrorStep_212, u_M_mirrorStep_214, u_M_mirrorStep_215, u_M_mirrorStep_216, u_M_mirrorStep_218, u_M_mirrorStep_221, u_M_mirrorStep_222, u_M_mirrorStep_223, u_M_mirrorStep_225, u_M_mirrorStep_227, u_M_mirrorStep_228, u_M_mirrorStep_229, u_M_mirrorStep_232, u_M_mirrorStep_233, u_M_mirrorStep_234, u_M_mirrorStep_236, u_M_mirrorStep_237, u_M_mirrorStep_238, u_M_mirrorStep_240, u_M_mirrorStep_243, u_M_mirrorStep_244, u_M_mirrorStep_245, u_M_mirrorStep_247, u_M_mirrorStep_249, u_M_mirrorStep_250, u_M_mirrorStep_251, u_M_mirrorStep_254, u_M_mirrorStep_255, u_M_mirrorStep_256, u_M_mirrorStep_257, u_M_mirrorStep_258, u_M_mirrorStep_259, u_M_mirrorStep_261, u_M_mirrorStep_264, u_M_mirrorStep_265, u_M_mirrorStep_267, u_M_mirrorStep_269, u_M_mirrorStep_272, h1_156, gt_156_25, gt_156_26, h1_164, h2_164, gt_164, pt_164, h1_165, h2_165, gt_165, pt_165, ne_eq, not_false_eq_true, not_true_eq_false, true_and, and_true, true_or, or_true, eq_self, Option.toList_some, Option.toList_none, List.cons_append, List.nil_append, tc_0, tc_I, tc_L, tc_A, Nat.reduceAdd, Nat.reduceLeDiff, Nat.reduceEqDiff, Int.reduceEq, Int.reduceLT, Int.reduceLE, Int.reduceNeg, Int.reduceToNat, Int.cast_ofNat_Int, if_true, if_false, and_self, or_self, ite_self, bI_0, bI_1, bI_01, Bool.false_eq_true, reduceCtorEq, x1, x2, x3, x4, x5, x6, F1, K1, w3, K2, w5, w6, w2, w4, w1, E1, C2, E3, M4, C5, M6, C7, C8, E9]
    · rw [k11] at E1 x6
      simp only [u_M_mirrorStep_0, u_M_mirrorStep_1, u_M_mirrorStep_4, u_M_mirrorStep_7, u_M_mirrorStep_8, u_M_mirrorStep_9, u_M_mirrorStep_10, u_M_mirrorStep_11, u_M_mirrorStep_12, u_M_mirrorStep_13, u_M_mirrorStep_105, u_M_mirrorStep_106, u_M_mirrorStep_109, u_M_mirrorStep_112, u_M_mirrorStep_113, u_M_mirrorStep_114, u_M_mirrorStep_115, u_M_mirrorStep_116, u_M_mirrorStep_117, u_M_mirrorStep_119, u_M_mirrorStep_121, u_M_mirrorStep_123, u_M_mirrorStep_126, u_M_mirrorStep_128, u_M_mirrorStep_130, u_M_mirrorStep_153, u_M_mirrorStep_154, u_M_mirrorStep_155, u_M_mirrorStep_156, u_M_mirrorStep_158, u_M_mirrorStep_161, u_M_mirrorStep_163, u_M_mirrorStep_164, u_M_mirrorStep_165, u_M_mirrorStep_167, u_M_mirrorStep_170, u_M_mirrorStep_172, u_M_mirrorStep_173, u_M_mirrorStep_174, u_M_mirrorStep_176, u_M_mirrorStep_177, u_M_mirrorStep_178, u_M_mirrorStep_181, u_M_mirrorStep_183, u_M_mirrorStep_184, u_M_mirrorStep_185, u_M_mirrorStep_187, u_M_mirrorStep_190, u_M_mirrorStep_191, u_M_mirrorStep_192, u_M_mirrorStep_194, u_M_mirrorStep_195, u_M_mirrorStep_196, u_M_mirrorStep_197, u_M_mirrorStep_198, u_M_mirrorStep_199, u_M_mirrorStep_202, u_M_mirrorStep_203, u_M_mirrorStep_205, u_M_mirrorStep_207, u_M_mirrorStep_210, u_M_mirrorStep_211, u_M_mirrorStep_212, u_M_mirrorStep_214, u_M_mirrorStep_215, u_M_mirrorStep_216, u_M_mirrorStep_218, u_M_mirrorStep_221, u_M_mirrorStep_222, u_M_mirrorStep_223, u_M_mirrorStep_225, u_M_mirrorStep_227, u_M_mirrorStep_228, u_M_mirrorStep_229, u_M_mirrorStep_232, u_M_mirrorStep_233, u_M_mirrorStep_234, u_M_mirrorStep_236, u_M_mirrorStep_237, u_M_mirrorStep_238, u_M_mirrorStep_240, u_M_mirrorStep_243, u_M_mirrorStep_244, u_M_mirrorStep_245, u_M_mirrorStep_247, u_M_mirrorStep_249, u_M_mirrorStep_250, u_M_mirrorStep_251, u_M_mirrorStep_254, u_M_mirrorStep_255, u_M_mirrorStep_256, u_M_mirrorStep_257, u_M_mirrorStep_258, u_M_mirrorStep_259, u_M_mirrorStep_261, u_M_mirrorStep_264, u_M_mirrorStep_265, u_M_mirrorStep_267, u_M_mirrorStep_269, u_M_mirrorStep_272, h1_156, gt_156_25, gt_156_26, h1_164, h2_164, gt_164, pt_164, h1_165, h2_165, gt_165, pt_165, ne_eq, not_false_eq_true, not_true_eq_false, true_and, and_true, true_or, or_true, eq_self, Option.toList_some, Option.toList_none, List.cons_append, List.nil_append, tc_0, tc_I, tc_L, tc_A, Nat.reduceAdd, Nat.reduceLeDiff, Nat.reduceEqDiff, Int.reduceEq, Int.reduceLT, Int.reduceLE, Int.reduceNeg, Int.reduceToNat, Int.cast_ofNat_Int, if_true, if_false, and_self, or_self, ite_self, bI_0, bI_1, bI_01, Bool.false_eq_true, reduceCtorEq, x1, x2, x3, x4, x5, x6, Int.reduceEq, F1, K1, w3, K2, w5, w6, w2, w4, w1, E1, C2, E3, M4, C5, M6, C7, C8, E9]
  | .inr (.inl (e, x, y)), hw, _, _ => exact absurd hw.1 (by decide)
  | .inr (.inr (e, x)), hw, _, _ => exact absurd hw.1 (by decide)
end
