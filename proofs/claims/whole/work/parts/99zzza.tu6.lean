/-! turn, the class: while and when -/
section
variable {L d a b : Nat} {f t g : Mem} {Q : Option TV → Wd → Prop} {p h cn jh i : Int} {k l : List Int}
/-- what turnWhile and turnWhen see of an instruction -/
abbrev SW (a b : Nat) (f t : Mem) : Prop := (isT a) ∧ (isT b) ∧ (¬ b = a) ∧ ((f 18 0).toNat = b) ∧ ((f 18 1).toNat = a) ∧ (t b 1 ≤ 1000) ∧ (t b 9 ≤ 40)
theorem SW.hTa {a b : Nat} {f t : Mem} (hSelf : SW a b f t) : isT a := hSelf.1
theorem SW.hTb {a b : Nat} {f t : Mem} (hSelf : SW a b f t) : isT b := hSelf.2.1
theorem SW.hne {a b : Nat} {f t : Mem} (hSelf : SW a b f t) : ¬ b = a := hSelf.2.2.1
theorem SW.hf {a b : Nat} {f t : Mem} (hSelf : SW a b f t) : (f 18 0).toNat = b := hSelf.2.2.2.1
theorem SW.hi {a b : Nat} {f t : Mem} (hSelf : SW a b f t) : (f 18 1).toNat = a := hSelf.2.2.2.2.1
theorem SW.hl {a b : Nat} {f t : Mem} (hSelf : SW a b f t) : t b 1 ≤ 1000 := hSelf.2.2.2.2.2.1
theorem SW.h9 {a b : Nat} {f t : Mem} (hSelf : SW a b f t) : t b 9 ≤ 40 := hSelf.2.2.2.2.2.2
theorem SW.n9 (w : SW a b f t) : PSt (a + 1) a 1 t l b 9 ≤ 40 := by
  rw [show PSt (a + 1) a 1 t l b 9 = t b 9 from PT_far (n := 0) w.hTa w.hTb w.hne (by omega)]; exact w.h9
theorem s_Sh_while1 (w : SW a b f t) (hr : insA t b 3 0 p = 1) (hlen : l.length + 15 ≤ 1000) : VV L (d + 4) m_Sh_turnWhile 0 [some (tA 18), some (tI p), some (tI cn)] [] (WW f (PSt (a + 1) a 1 t l) g) Q = Q none (WW f (PSt (a + 1) a 1 t (l ++ [200, cn, 61, -1, 59, 211, 40, cn, 61, -1, 41, 123, 125, 212, 123])) g) := by
  have hTa := w.hTa
  have hTb := w.hTb
  have hne := w.hne
  have hi := w.hi
  have a0 := xT_0 hTa
  have b0 := xT_0 hTb
  have add : ∀ D (l : List Int) v Q, l.length < 1000 → VV L D m_Tx_add 0 [some (tA a), some (tI v)] [] (WW f (PSt (a + 1) a 1 t l) g) Q = Q none (WW f (PSt (a + 1) a 1 t (l ++ [v])) g) := fun D l v Q h => s_Tx_addP hTa h
  obtain ⟨l1, e1⟩ : ∃ l1, l1 = l ++ [200, cn, 61, -1, 59] := ⟨_, rfl⟩
  obtain ⟨l2, e2⟩ : ∃ l2, l2 = l1 ++ [211] := ⟨_, rfl⟩
  obtain ⟨l3, e3⟩ : ∃ l3, l3 = l2 ++ [40, cn, 61, -1, 41] := ⟨_, rfl⟩
  obtain ⟨l4, e4⟩ : ∃ l4, l4 = l3 ++ [123, 125, 212] := ⟨_, rfl⟩
  have n1' : l1.length = l.length + 5 := by rw [e1]; simp
  have n2' : l2.length = l1.length + 1 := by rw [e2]; simp
  have n3' : l3.length = l2.length + 5 := by rw [e3]; simp
  have n4' : l4.length = l3.length + 3 := by rw [e4]; simp
  have hfin : l ++ [200, cn, 61, -1, 59, 211, 40, cn, 61, -1, 41, 123, 125, 212, 123] = l4 ++ [123] := by rw [e4, e3, e2, e1]; simp
  rw [hfin]
  have N1 := fun D Q => s_Sh_addNaught (L := L) (d := D) (f := f) (t := t) (g := g) (Q := Q) (l := l) (v := 200) (n := cn) hTa hi (by omega)
  have D2 := fun D Q => add D l1 211 Q (by omega)
  have I3 := fun D Q => s_Sh_addIsNaught (L := L) (d := D) (f := f) (t := t) (g := g) (Q := Q) (l := l2) (n := cn) hTa hi (by omega)
  have T4 := fun D Q => s_Sh_addThree (L := L) (d := D) (f := f) (t := t) (g := g) (Q := Q) (l := l3) (x := 123) (y := 125) (z := 212) hTa hi (by omega)
  have D5 := fun D Q => add D l4 123 Q (by omega)
  rw [← e1] at N1
  rw [← e2] at D2
  rw [← e3] at I3
  rw [← e4] at T4
  simp only [u_Sh_turnWhile_0, u_Sh_turnWhile_1, u_Sh_turnWhile_4, u_Sh_turnWhile_5, u_Sh_turnWhile_8, u_Sh_turnWhile_9, u_Sh_turnWhile_12, u_Sh_turnWhile_13, u_Sh_turnWhile_16, u_Sh_turnWhile_17, u_Sh_turnWhile_20, u_Sh_turnWhile_21, u_Sh_turnWhile_24, u_Sh_turnWhile_27, u_Sh_turnWhile_30, u_Sh_turnWhile_31, u_Sh_turnWhile_32, u_Sh_turnWhile_35, u_Sh_turnWhile_36, u_Sh_turnWhile_38, u_Sh_turnWhile_40, u_Sh_turnWhile_43, u_Sh_turnWhile_46, u_Sh_turnWhile_47, u_Sh_turnWhile_50, u_Sh_turnWhile_52, u_Sh_turnWhile_55, u_Sh_turnWhile_112, h1_18, gt_18_0, gt_18_1, xT_h1, ne_eq, not_false_eq_true, not_true_eq_false, true_and, and_true, true_or, or_true, eq_self, Option.toList_some, Option.toList_none, List.cons_append, List.nil_append, tc_0, tc_I, tc_L, tc_A, Nat.reduceAdd, Nat.reduceLeDiff, Nat.reduceEqDiff, Int.reduceEq, Int.reduceLT, Int.reduceLE, Int.reduceNeg, Int.reduceToNat, Int.cast_ofNat_Int, if_true, if_false, and_self, or_self, ite_self, bI_0, bI_1, bI_01, Bool.false_eq_true, reduceCtorEq, w.hf, hi, a0, b0, hTa, hTb, s_Tx_role hTb w.n9, PT_ins hTa hTb hne (show 3 ≤ 9 by decide), hr, N1, D2, I3, T4, D5]
theorem s_Sh_while3 (w : SW a b f t) (hr : insA t b 3 0 p = 3) (h6 : insA t b 6 0 p = h) (h5 : insA t b 5 (t b 1) h = i) (h0 : 0 ≤ i) (hs : seg (tok t b) i jh k) (hk : ∀ v ∈ k, eTk v) (hj : tok t b jh = 123) (hlen : l.length + k.length + 20 ≤ 1000) : VV L (d + 4) m_Sh_turnWhile 0 [some (tA 18), some (tI p), some (tI cn)] [] (WW f (PSt (a + 1) a 1 t l) g) Q = Q none (WW f (PSt (a + 1) a 1 t (l ++ ([cn, 128, -2, 59, 125, 213, 40] ++ (k ++ [61, -1, 41, 59, 202, cn, 86, 59, 201, cn, 61, -1, 59])))) g) := by
  have hTa := w.hTa
  have hTb := w.hTb
  have hne := w.hne
  have hi := w.hi
  have a0 := xT_0 hTa
  have b0 := xT_0 hTb
  have add : ∀ D (l : List Int) v Q, l.length < 1000 → VV L D m_Tx_add 0 [some (tA a), some (tI v)] [] (WW f (PSt (a + 1) a 1 t l) g) Q = Q none (WW f (PSt (a + 1) a 1 t (l ++ [v])) g) := fun D l v Q h => s_Tx_addP hTa h
  obtain ⟨l1, e1⟩ : ∃ l1, l1 = l ++ [cn, 128, -2] := ⟨_, rfl⟩
  obtain ⟨l2, e2⟩ : ∃ l2, l2 = l1 ++ [59, 125, 213] := ⟨_, rfl⟩
  obtain ⟨l3, e3⟩ : ∃ l3, l3 = l2 ++ 40 :: (k ++ [61, -1, 41]) := ⟨_, rfl⟩
  obtain ⟨l4, e4⟩ : ∃ l4, l4 = l3 ++ [59] := ⟨_, rfl⟩
  have n1' : l1.length = l.length + 3 := by rw [e1]; simp
  have n2' : l2.length = l1.length + 3 := by rw [e2]; simp
  have n3' : l3.length = l2.length + k.length + 4 := by rw [e3]; simp; omega
  have n4' : l4.length = l3.length + 1 := by rw [e4]; simp
  have hfin : l ++ ([cn, 128, -2, 59, 125, 213, 40] ++ (k ++ [61, -1, 41, 59, 202, cn, 86, 59, 201, cn, 61, -1, 59])) = l4 ++ [202, cn, 86, 59, 201, cn, 61, -1, 59] := by rw [e4, e3, e2, e1]; simp
  rw [hfin]
  have T1 := fun D Q => s_Sh_addThree (L := L) (d := D) (f := f) (t := t) (g := g) (Q := Q) (l := l) (x := cn) (y := 128) (z := -2) hTa hi (by omega)
  have T2 := fun D Q => s_Sh_addThree (L := L) (d := D) (f := f) (t := t) (g := g) (Q := Q) (l := l1) (x := 59) (y := 125) (z := 213) hTa hi (by omega)
  have E3 := fun D Q => s_Sh_addEqN (L := L) (d := D) (g := g) (Q := Q) (l := l2) hTa hTb hne w.hf hi w.hl h0 hs hk hj (by omega)
  have D4 := fun D Q => add D l3 59 Q (by omega)
  have R5 := fun D Q => s_Sh_addTrail (L := L) (d := D) (f := f) (t := t) (g := g) (Q := Q) (l := l4) (n := cn) hTa hi (by omega)
  rw [← e1] at T1
  rw [← e2] at T2
  rw [← e3] at E3
  rw [← e4] at D4
  have z9 := fun (l : List Int) => w.n9 (l := l)
  simp only [u_Sh_turnWhile_0, u_Sh_turnWhile_1, u_Sh_turnWhile_4, u_Sh_turnWhile_5, u_Sh_turnWhile_8, u_Sh_turnWhile_9, u_Sh_turnWhile_58, u_Sh_turnWhile_59, u_Sh_turnWhile_60, u_Sh_turnWhile_63, u_Sh_turnWhile_65, u_Sh_turnWhile_68, u_Sh_turnWhile_69, u_Sh_turnWhile_71, u_Sh_turnWhile_73, u_Sh_turnWhile_76, u_Sh_turnWhile_79, u_Sh_turnWhile_80, u_Sh_turnWhile_81, u_Sh_turnWhile_84, u_Sh_turnWhile_85, u_Sh_turnWhile_88, u_Sh_turnWhile_89, u_Sh_turnWhile_92, u_Sh_turnWhile_95, u_Sh_turnWhile_98, u_Sh_turnWhile_99, u_Sh_turnWhile_102, u_Sh_turnWhile_104, u_Sh_turnWhile_107, u_Sh_turnWhile_108, u_Sh_turnWhile_109, u_Sh_turnWhile_112, h1_18, gt_18_0, gt_18_1, xT_h1, ne_eq, not_false_eq_true, not_true_eq_false, true_and, and_true, true_or, or_true, eq_self, Option.toList_some, Option.toList_none, List.cons_append, List.nil_append, tc_0, tc_I, tc_L, tc_A, Nat.reduceAdd, Nat.reduceLeDiff, Nat.reduceEqDiff, Int.reduceEq, Int.reduceLT, Int.reduceLE, Int.reduceNeg, Int.reduceToNat, Int.cast_ofNat_Int, if_true, if_false, and_self, or_self, ite_self, bI_0, bI_1, bI_01, Bool.false_eq_true, reduceCtorEq, w.hf, hi, a0, b0, hTa, hTb, s_Tx_role hTb (z9 l), s_Tx_head hTb (z9 l2), s_Tx_body hTb (z9 l2), PT_ins hTa hTb hne (show 3 ≤ 9 by decide), PT_ins hTa hTb hne (show 6 ≤ 9 by decide), PT_ins hTa hTb hne (show 5 ≤ 9 by decide), PT_len hTa hTb hne, hr, h6, h5, Int.reduceEq, T1, T2, E3, D4, R5]
theorem s_Sh_when1 (w : SW a b f t) (hr : insA t b 3 0 p = 1) (h5 : insA t b 5 (t b 1) p = i) (h0 : 0 ≤ i) (hs : seg (tok t b) i jh k) (hk : ∀ v ∈ k, eTk v) (hj : tok t b jh = 123) (hlen : l.length + k.length + 15 ≤ 1000) : VV L (d + 4) m_Sh_turnWhen 0 [some (tA 18), some (tI p), some (tI cn)] [] (WW f (PSt (a + 1) a 1 t l) g) Q = Q none (WW f (PSt (a + 1) a 1 t (l ++ ([200, cn, 61, 40] ++ (k ++ [61, -1, 41, 59, 208, 40, cn, 61, -1, 41, 123])))) g) := by
  have hTa := w.hTa
  have hTb := w.hTb
  have hne := w.hne
  have hi := w.hi
  have a0 := xT_0 hTa
  have b0 := xT_0 hTb
  have add : ∀ D (l : List Int) v Q, l.length < 1000 → VV L D m_Tx_add 0 [some (tA a), some (tI v)] [] (WW f (PSt (a + 1) a 1 t l) g) Q = Q none (WW f (PSt (a + 1) a 1 t (l ++ [v])) g) := fun D l v Q h => s_Tx_addP hTa h
  obtain ⟨l1, e1⟩ : ∃ l1, l1 = l ++ [200, cn, 61] := ⟨_, rfl⟩
  obtain ⟨l2, e2⟩ : ∃ l2, l2 = l1 ++ 40 :: (k ++ [61, -1, 41]) := ⟨_, rfl⟩
  obtain ⟨l3, e3⟩ : ∃ l3, l3 = l2 ++ [59] := ⟨_, rfl⟩
  obtain ⟨l4, e4⟩ : ∃ l4, l4 = l3 ++ [208] := ⟨_, rfl⟩
  obtain ⟨l5, e5⟩ : ∃ l5, l5 = l4 ++ [40, cn, 61, -1, 41] := ⟨_, rfl⟩
  have n1' : l1.length = l.length + 3 := by rw [e1]; simp
  have n2' : l2.length = l1.length + k.length + 4 := by rw [e2]; simp; omega
  have n3' : l3.length = l2.length + 1 := by rw [e3]; simp
  have n4' : l4.length = l3.length + 1 := by rw [e4]; simp
  have n5' : l5.length = l4.length + 5 := by rw [e5]; simp
  have hfin : l ++ ([200, cn, 61, 40] ++ (k ++ [61, -1, 41, 59, 208, 40, cn, 61, -1, 41, 123])) = l5 ++ [123] := by rw [e5, e4, e3, e2, e1]; simp
  rw [hfin]
  have T1 := fun D Q => s_Sh_addThree (L := L) (d := D) (f := f) (t := t) (g := g) (Q := Q) (l := l) (x := 200) (y := cn) (z := 61) hTa hi (by omega)
  have E2 := fun D Q => s_Sh_addEqN (L := L) (d := D) (g := g) (Q := Q) (l := l1) hTa hTb hne w.hf hi w.hl h0 hs hk hj (by omega)
  have D3 := fun D Q => add D l2 59 Q (by omega)
  have D4 := fun D Q => add D l3 208 Q (by omega)
  have I5 := fun D Q => s_Sh_addIsNaught (L := L) (d := D) (f := f) (t := t) (g := g) (Q := Q) (l := l4) (n := cn) hTa hi (by omega)
  have D6 := fun D Q => add D l5 123 Q (by omega)
  rw [← e1] at T1
  rw [← e2] at E2
  rw [← e3] at D3
  rw [← e4] at D4
  rw [← e5] at I5
  have z9 := fun (l : List Int) => w.n9 (l := l)
  simp only [u_Sh_turnWhen_0, u_Sh_turnWhen_1, u_Sh_turnWhen_4, u_Sh_turnWhen_5, u_Sh_turnWhen_8, u_Sh_turnWhen_9, u_Sh_turnWhen_12, u_Sh_turnWhen_13, u_Sh_turnWhen_16, u_Sh_turnWhen_17, u_Sh_turnWhen_19, u_Sh_turnWhen_22, u_Sh_turnWhen_23, u_Sh_turnWhen_24, u_Sh_turnWhen_27, u_Sh_turnWhen_28, u_Sh_turnWhen_31, u_Sh_turnWhen_34, u_Sh_turnWhen_35, u_Sh_turnWhen_38, u_Sh_turnWhen_40, u_Sh_turnWhen_43, u_Sh_turnWhen_44, u_Sh_turnWhen_47, u_Sh_turnWhen_50, u_Sh_turnWhen_53, u_Sh_turnWhen_54, u_Sh_turnWhen_55, u_Sh_turnWhen_58, u_Sh_turnWhen_59, u_Sh_turnWhen_62, u_Sh_turnWhen_64, u_Sh_turnWhen_67, u_Sh_turnWhen_134, h1_18, gt_18_0, gt_18_1, xT_h1, ne_eq, not_false_eq_true, not_true_eq_false, true_and, and_true, true_or, or_true, eq_self, Option.toList_some, Option.toList_none, List.cons_append, List.nil_append, tc_0, tc_I, tc_L, tc_A, Nat.reduceAdd, Nat.reduceLeDiff, Nat.reduceEqDiff, Int.reduceEq, Int.reduceLT, Int.reduceLE, Int.reduceNeg, Int.reduceToNat, Int.cast_ofNat_Int, if_true, if_false, and_self, or_self, ite_self, bI_0, bI_1, bI_01, Bool.false_eq_true, reduceCtorEq, w.hf, hi, a0, b0, hTa, hTb, s_Tx_role hTb (z9 l), s_Tx_body hTb (z9 l1), PT_ins hTa hTb hne (show 3 ≤ 9 by decide), PT_ins hTa hTb hne (show 5 ≤ 9 by decide), PT_len hTa hTb hne, hr, h5, T1, E2, D3, D4, I5, D6]
theorem s_Sh_when2 (w : SW a b f t) (hr : insA t b 3 0 p = 2) (hlen : l.length + 3 ≤ 1000) : VV L (d + 4) m_Sh_turnWhen 0 [some (tA 18), some (tI p), some (tI cn)] [] (WW f (PSt (a + 1) a 1 t l) g) Q = Q none (WW f (PSt (a + 1) a 1 t (l ++ [125, 209, 123])) g) := by
  have hTa := w.hTa
  have hTb := w.hTb
  have hne := w.hne
  have b0 := xT_0 hTb
  have z9 := fun (l : List Int) => w.n9 (l := l)
  simp only [u_Sh_turnWhen_0, u_Sh_turnWhen_1, u_Sh_turnWhen_4, u_Sh_turnWhen_5, u_Sh_turnWhen_8, u_Sh_turnWhen_9, u_Sh_turnWhen_70, u_Sh_turnWhen_71, u_Sh_turnWhen_74, u_Sh_turnWhen_75, u_Sh_turnWhen_78, u_Sh_turnWhen_79, u_Sh_turnWhen_82, u_Sh_turnWhen_83, u_Sh_turnWhen_85, u_Sh_turnWhen_88, u_Sh_turnWhen_90, u_Sh_turnWhen_93, u_Sh_turnWhen_134, h1_18, gt_18_0, xT_h1, ne_eq, not_false_eq_true, not_true_eq_false, true_and, and_true, true_or, or_true, eq_self, Option.toList_some, Option.toList_none, List.cons_append, List.nil_append, tc_0, tc_I, tc_L, tc_A, Nat.reduceAdd, Nat.reduceLeDiff, Nat.reduceEqDiff, Int.reduceEq, Int.reduceLT, Int.reduceLE, Int.reduceNeg, Int.reduceToNat, Int.cast_ofNat_Int, if_true, if_false, and_self, or_self, ite_self, bI_0, bI_1, bI_01, Bool.false_eq_true, reduceCtorEq, w.hf, b0, hTb, s_Tx_role hTb (z9 l), PT_ins hTa hTb hne (show 3 ≤ 9 by decide), hr, Int.reduceEq, s_Sh_addThree hTa w.hi hlen]
theorem s_Sh_when3 (w : SW a b f t) (hr : insA t b 3 0 p = 3) (hlen : l.length + 17 ≤ 1000) : VV L (d + 4) m_Sh_turnWhen 0 [some (tA 18), some (tI p), some (tI cn)] [] (WW f (PSt (a + 1) a 1 t l) g) Q = Q none (WW f (PSt (a + 1) a 1 t (l ++ [125, 210, 40, cn, 61, -1, 41, 59, 202, cn, 86, 59, 201, cn, 61, -1, 59])) g) := by
  have hTa := w.hTa
  have hTb := w.hTb
  have hne := w.hne
  have hi := w.hi
  have a0 := xT_0 hTa
  have b0 := xT_0 hTb
  have add : ∀ D (l : List Int) v Q, l.length < 1000 → VV L D m_Tx_add 0 [some (tA a), some (tI v)] [] (WW f (PSt (a + 1) a 1 t l) g) Q = Q none (WW f (PSt (a + 1) a 1 t (l ++ [v])) g) := fun D l v Q h => s_Tx_addP hTa h
  obtain ⟨l1, e1⟩ : ∃ l1, l1 = l ++ [125] := ⟨_, rfl⟩
  obtain ⟨l2, e2⟩ : ∃ l2, l2 = l1 ++ [210] := ⟨_, rfl⟩
  obtain ⟨l3, e3⟩ : ∃ l3, l3 = l2 ++ [40, cn, 61, -1, 41] := ⟨_, rfl⟩
  obtain ⟨l4, e4⟩ : ∃ l4, l4 = l3 ++ [59] := ⟨_, rfl⟩
  have n1' : l1.length = l.length + 1 := by rw [e1]; simp
  have n2' : l2.length = l1.length + 1 := by rw [e2]; simp
  have n3' : l3.length = l2.length + 5 := by rw [e3]; simp
  have n4' : l4.length = l3.length + 1 := by rw [e4]; simp
  have hfin : l ++ [125, 210, 40, cn, 61, -1, 41, 59, 202, cn, 86, 59, 201, cn, 61, -1, 59] = l4 ++ [202, cn, 86, 59, 201, cn, 61, -1, 59] := by rw [e4, e3, e2, e1]; simp
  rw [hfin]
  have D1 := fun D Q => add D l 125 Q (by omega)
  have D2 := fun D Q => add D l1 210 Q (by omega)
  have I3 := fun D Q => s_Sh_addIsNaught (L := L) (d := D) (f := f) (t := t) (g := g) (Q := Q) (l := l2) (n := cn) hTa hi (by omega)
  have D4 := fun D Q => add D l3 59 Q (by omega)
  have R5 := fun D Q => s_Sh_addTrail (L := L) (d := D) (f := f) (t := t) (g := g) (Q := Q) (l := l4) (n := cn) hTa hi (by omega)
  rw [← e1] at D1
  rw [← e2] at D2
  rw [← e3] at I3
  rw [← e4] at D4
  have z9 := fun (l : List Int) => w.n9 (l := l)
  simp only [u_Sh_turnWhen_0, u_Sh_turnWhen_1, u_Sh_turnWhen_4, u_Sh_turnWhen_5, u_Sh_turnWhen_8, u_Sh_turnWhen_9, u_Sh_turnWhen_70, u_Sh_turnWhen_71, u_Sh_turnWhen_74, u_Sh_turnWhen_75, u_Sh_turnWhen_78, u_Sh_turnWhen_79, u_Sh_turnWhen_96, u_Sh_turnWhen_97, u_Sh_turnWhen_100, u_Sh_turnWhen_102, u_Sh_turnWhen_105, u_Sh_turnWhen_106, u_Sh_turnWhen_109, u_Sh_turnWhen_112, u_Sh_turnWhen_115, u_Sh_turnWhen_116, u_Sh_turnWhen_117, u_Sh_turnWhen_120, u_Sh_turnWhen_121, u_Sh_turnWhen_124, u_Sh_turnWhen_126, u_Sh_turnWhen_129, u_Sh_turnWhen_130, u_Sh_turnWhen_131, u_Sh_turnWhen_134, h1_18, gt_18_0, gt_18_1, xT_h1, ne_eq, not_false_eq_true, not_true_eq_false, true_and, and_true, true_or, or_true, eq_self, Option.toList_some, Option.toList_none, List.cons_append, List.nil_append, tc_0, tc_I, tc_L, tc_A, Nat.reduceAdd, Nat.reduceLeDiff, Nat.reduceEqDiff, Int.reduceEq, Int.reduceLT, Int.reduceLE, Int.reduceNeg, Int.reduceToNat, Int.cast_ofNat_Int, if_true, if_false, and_self, or_self, ite_self, bI_0, bI_1, bI_01, Bool.false_eq_true, reduceCtorEq, w.hf, hi, a0, b0, hTa, hTb, s_Tx_role hTb (z9 l), PT_ins hTa hTb hne (show 3 ≤ 9 by decide), hr, Int.reduceEq, D1, D2, I3, D4, R5]
end
