/-! Mirrors, the class: a step, whole -/
section
variable {L d a b c : Nat} {f t g : Mem} {Q : Option TV → Wd → Prop} {l : List Int}
theorem PT_far {n j : Nat} (ha : isT a) (hb : isT b) (h : ¬ b = a) (hn : n ≤ 9) : PSt (a + 1) a 1 t l (b + n) j = t (b + n) j := by
  have := isT_far hb ha h
  exact PS_o (by omega) (by omega)
theorem PT_ins {n : Nat} {df q : Int} (ha : isT a) (hb : isT b) (h : ¬ b = a) (hn : n ≤ 9) : insA (PSt (a + 1) a 1 t l) b n df q = insA t b n df q := by
  have h9 : PSt (a + 1) a 1 t l b 9 = t b 9 := PT_far (n := 0) ha hb h (by omega)
  unfold insA
  rw [h9, PT_far ha hb h hn]
theorem s_Sh_mirrorStep {q i j : Int} (hTa : isT a) (hTb : isT b) (hne : ¬ b = a) (hf : (f 18 0).toNat = b) (hi : (f 18 1).toNat = a) (hl : t b 1 ≤ 1000) (h9 : t b 9 ≤ 40) (s : SS c) (hw : wS false s) (h4 : insA t b 4 (t b 1) q = i) (h0 : 0 ≤ i) (hs : seg (tok t b) i j (kS s)) (hjl : j ≤ t b 1) (hlen : l.length + (kS s).length ≤ 1000) : VV L (d + 2) m_Sh_mirrorStep 0 [some (tA 18), some (tI q), none, none] [] (WW f (PSt (a + 1) a 1 t l) g) Q = Q none (WW f (PSt (a + 1) a 1 t (l ++ kS (mS s))) g) := by
  have a0 := xT_0 hTa
  have b0 := xT_0 hTb
  have hl' : PSt (a + 1) a 1 t l b 1 ≤ 1000 := by rw [PT_len hTa hTb hne]; exact hl
  have h9' : PSt (a + 1) a 1 t l b 9 ≤ 40 := by rw [show PSt (a + 1) a 1 t l b 9 = t b 9 from PT_far (n := 0) hTa hTb hne (by omega)]; exact h9
  have hs0 := hs
  rw [kS_0] at hs0
  obtain ⟨q1, q2⟩ := seg_split hs0
  have e59 := (seg_hd q2).1
  have ej := seg_len q2
  simp only [List.length_singleton] at ej
  have hn : nxt (tok t b) (t b 1) 59 i = j - 1 := nxt_seg (by rw [show j - 1 = i + ((kS0 s).length : Int) by omega]; exact q1) (fun v hv => (kS0_s s hw v hv).1) (by rw [show j - 1 = i + ((kS0 s).length : Int) by omega]; exact e59) (by omega)
  rw [← kS_u s hw, ← l_mirrorStep (L := L) (d := d + 1) (g := g) (Q := Q) (x := q) (j := j - 1) hTa hTb hne hf hi hl (by omega) (kS s) i l h0 (by rw [show j - 1 + 1 = j by omega]; exact hs) hlen]
  simp only [u_Sh_mirrorStep_0, u_Sh_mirrorStep_1, u_Sh_mirrorStep_4, u_Sh_mirrorStep_6, u_Sh_mirrorStep_7, u_Sh_mirrorStep_10, u_Sh_mirrorStep_11, u_Sh_mirrorStep_14, u_Sh_mirrorStep_17, u_Sh_mirrorStep_18, u_Sh_mirrorStep_19, u_Sh_mirrorStep_22, u_Sh_mirrorStep_23, u_Sh_mirrorStep_26, h1_18, gt_18_0, xT_h1, ne_eq, not_false_eq_true, not_true_eq_false, true_and, and_true, true_or, or_true, eq_self, Option.toList_some, Option.toList_none, List.cons_append, List.nil_append, tc_0, tc_I, tc_L, tc_A, Nat.reduceAdd, Nat.reduceLeDiff, Nat.reduceEqDiff, Int.reduceEq, Int.reduceLT, Int.reduceLE, Int.reduceNeg, Int.reduceToNat, Int.cast_ofNat_Int, if_true, if_false, and_self, or_self, ite_self, bI_0, bI_1, bI_01, Bool.false_eq_true, reduceCtorEq, hf, b0, hTb, s_Tx_start hTb h9', PT_ins hTa hTb hne (show 4 ≤ 9 by decide), PT_len hTa hTb hne, h4, s_Tx_next hTb hl' h0, PT_tok hTa hTb hne, hn]
end
