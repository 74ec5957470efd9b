/-! Mirrors, the class: what has parts -/
section
variable {L d a b c : Nat} {f t g : Mem} {Q : Option TV → Wd → Prop} {l A B : List Int}
theorem s_Sh_mirrorParts {q h mm op bh bq jh jq : Int} {dep : Nat} (hTa : isT a) (hTb : isT b) (hne : ¬ b = a) (hf : (f 18 0).toNat = b) (hi : (f 18 1).toNat = a) (hl : t b 1 ≤ 1000) (h9 : t b 9 ≤ 40) (hop : op = 208 ∨ op = 211) (i6 : insA t b 6 0 q = h) (i7 : insA t b 7 0 h = mm) (i2 : insA t b 2 0 q = op) (i5 : insA t b 5 (t b 1) q = bq) (i5h : insA t b 5 (t b 1) h = bh) (hh : 0 ≤ h ∧ h < 40) (hm : 0 ≤ mm ∧ mm < 40) (hdep : dep < 5) (e e2 : EE c) (he : wX e) (he2 : wX e2) (h0 : 0 ≤ bh) (h02 : 0 ≤ bq) (hs : seg (tok t b) bh jh (kX e)) (hj : tok t b jh = 123) (hs2 : seg (tok t b) bq jq (kX e2)) (hj2 : tok t b jq = 59) (hlen : l.length + (kX e).length + (kX e2).length + A.length + B.length + 8 ≤ 1000) (hA : ∀ (l : List Int) Q, l.length + A.length ≤ 1000 → VV L (d + 2) m_Sh_mirrorSteps 0 [some (tA 18), some (tI (h + 1)), some (tI mm), some (tI ((dep + 1 : Nat) : Int)), none, none] [] (WW f (PSt (a + 1) a 1 t l) g) Q = Q none (WW f (PSt (a + 1) a 1 t (l ++ A)) g)) (hB : ∀ (l : List Int) Q, l.length + B.length ≤ 1000 → VV L (d + 2) m_Sh_mirrorSteps 0 [some (tA 18), some (tI (mm + 1)), some (tI q), some (tI ((dep + 1 : Nat) : Int)), none, none] [] (WW f (PSt (a + 1) a 1 t l) g) Q = Q none (WW f (PSt (a + 1) a 1 t (l ++ B)) g)) : VV L (d + 3) m_Sh_mirrorParts 0 [some (tA 18), some (tI q), some (tI dep), none, none, none] [] (WW f (PSt (a + 1) a 1 t l) g) Q = Q none (WW f (PSt (a + 1) a 1 t (l ++ (op :: (kX e2 ++ 123 :: (A ++ 125 :: (if op = 208 then 209 else 212) :: 123 :: (B ++ 125 :: (if op = 208 then 210 else 213) :: (kX e ++ [59]))))))) g) := by
  have a0 := xT_0 hTa
  have b0 := xT_0 hTb
  have w1 : w32 (h + 1) = h + 1 := w32_id (by omega) (by omega)
  have w2 : w32 (mm + 1) = mm + 1 := w32_id (by omega) (by omega)
  have w3 : w32 ((dep : Int) + 1) = ((dep + 1 : Nat) : Int) := by rw [w32_id (by omega) (by omega)]; omega
  have jl : jh < t b 1 := (tok_ne (by rw [hj]; decide)).2
  have jl2 : jq < t b 1 := (tok_ne (by rw [hj2]; decide)).2
  have n1 : nxt (tok t b) (t b 1) 123 bh = jh := nxt_seg hs (fun v hv => (eTk_no (kX_e e he v hv)).2.1) hj jl
  have n2 : nxt (tok t b) (t b 1) 59 bq = jq := nxt_seg hs2 (fun v hv => (eTk_no (kX_e e2 he2 v hv)).1) hj2 jl2
  have h9' : ∀ l, PSt (a + 1) a 1 t l b 9 ≤ 40 := fun l => by rw [show PSt (a + 1) a 1 t l b 9 = t b 9 from PT_far (n := 0) hTa hTb hne (by omega)]; exact h9
  have hl' : ∀ l, PSt (a + 1) a 1 t l b 1 ≤ 1000 := fun l => by rw [PT_len hTa hTb hne]; exact hl
  have add : ∀ D (l : List Int) v Q, l.length < 1000 → VV L D m_Tx_add 0 [some (tA a), some (tI v)] [] (WW f (PSt (a + 1) a 1 t l) g) Q = Q none (WW f (PSt (a + 1) a 1 t (l ++ [v])) g) := fun D l v Q h => s_Tx_addP hTa h
  have st1 : VV L (d + 3) m_Sh_mirrorParts 0 [some (tA 18), some (tI q), some (tI dep), none, none, none] [] (WW f (PSt (a + 1) a 1 t l) g) Q = VV L (d + 3) m_Sh_mirrorParts 61 [some (tA 18), some (tI q), some (tI dep), some (tI h), some (tI mm), some (tI (if op = 208 then 1 else 0))] [] (WW f (PSt (a + 1) a 1 t (l ++ [op])) g) Q := by
    have hd : (dep : Int) < 5 := Int.ofNat_lt.mpr hdep
    rcases hop with rfl | rfl <;> simp only [u_Sh_mirrorParts_0, u_Sh_mirrorParts_1, u_Sh_mirrorParts_2, u_Sh_mirrorParts_5, u_Sh_mirrorParts_6, u_Sh_mirrorParts_7, u_Sh_mirrorParts_10, u_Sh_mirrorParts_11, u_Sh_mirrorParts_14, u_Sh_mirrorParts_15, u_Sh_mirrorParts_16, u_Sh_mirrorParts_19, u_Sh_mirrorParts_20, u_Sh_mirrorParts_23, u_Sh_mirrorParts_25, u_Sh_mirrorParts_26, u_Sh_mirrorParts_29, u_Sh_mirrorParts_30, u_Sh_mirrorParts_33, u_Sh_mirrorParts_36, u_Sh_mirrorParts_39, u_Sh_mirrorParts_40, u_Sh_mirrorParts_43, u_Sh_mirrorParts_44, u_Sh_mirrorParts_46, u_Sh_mirrorParts_47, u_Sh_mirrorParts_50, u_Sh_mirrorParts_51, u_Sh_mirrorParts_54, u_Sh_mirrorParts_55, u_Sh_mirrorParts_58, h1_18, gt_18_0, gt_18_1, xT_h1, ne_eq, not_false_eq_true, not_true_eq_false, true_and, and_true, true_or, or_true, eq_self, Option.toList_some, Option.toList_none, List.cons_append, List.nil_append, tc_0, tc_I, tc_L, tc_A, Nat.reduceAdd, Nat.reduceLeDiff, Nat.reduceEqDiff, Int.reduceEq, Int.reduceLT, Int.reduceLE, Int.reduceNeg, Int.reduceToNat, Int.cast_ofNat_Int, if_true, if_false, and_self, or_self, ite_self, bI_0, bI_1, bI_01, Bool.false_eq_true, reduceCtorEq, hd, hf, hi, a0, b0, hTa, hTb, s_Tx_head hTb (h9' l), s_Tx_middle hTb (h9' l), s_Tx_op hTb (h9' l), PT_ins hTa hTb hne (show 6 ≤ 9 by decide), PT_ins hTa hTb hne (show 7 ≤ 9 by decide), PT_ins hTa hTb hne (show 2 ≤ 9 by decide), i6, i7, i2, add _ l _ _ (show l.length < 1000 by omega), Int.reduceEq, if_true, if_false]
  rw [st1]
  generalize hmi : (if op = 208 then (209 : Int) else 212) = mi
  generalize hfi : (if op = 208 then (210 : Int) else 213) = fi
  have mi' : ∀ (X Y : Int → Prop), True := fun _ _ => trivial
  obtain ⟨l1, e1⟩ : ∃ l1, l1 = l ++ [op] := ⟨_, rfl⟩
  obtain ⟨l2, e2'⟩ : ∃ l2, l2 = l1 ++ kX e2 := ⟨_, rfl⟩
  obtain ⟨l3, e3⟩ : ∃ l3, l3 = l2 ++ [123] := ⟨_, rfl⟩
  obtain ⟨l4, e4⟩ : ∃ l4, l4 = l3 ++ A := ⟨_, rfl⟩
  obtain ⟨l5, e5⟩ : ∃ l5, l5 = l4 ++ [125, mi, 123] := ⟨_, rfl⟩
  obtain ⟨l6, e6⟩ : ∃ l6, l6 = l5 ++ B := ⟨_, rfl⟩
  obtain ⟨l7, e7⟩ : ∃ l7, l7 = l6 ++ [125] := ⟨_, rfl⟩
  obtain ⟨l8, e8⟩ : ∃ l8, l8 = l7 ++ [fi] := ⟨_, rfl⟩
  obtain ⟨l9, e9⟩ : ∃ l9, l9 = l8 ++ kX e := ⟨_, rfl⟩
  have n1' : l1.length = l.length + 1 := by rw [e1]; simp
  have n2' : l2.length = l1.length + (kX e2).length := by rw [e2']; simp
  have n3' : l3.length = l2.length + 1 := by rw [e3]; simp
  have n4' : l4.length = l3.length + A.length := by rw [e4]; simp
  have n5' : l5.length = l4.length + 3 := by rw [e5]; simp
  have n6' : l6.length = l5.length + B.length := by rw [e6]; simp
  have n7' : l7.length = l6.length + 1 := by rw [e7]; simp
  have n8' : l8.length = l7.length + 1 := by rw [e8]; simp
  have n9' : l9.length = l8.length + (kX e).length := by rw [e9]; simp
  have hfin : l ++ (op :: (kX e2 ++ 123 :: (A ++ 125 :: mi :: 123 :: (B ++ 125 :: fi :: (kX e ++ [59]))))) = l9 ++ [59] := by
    rw [e9, e8, e7, e6, e5, e4, e3, e2', e1]; simp
  rw [hfin, ← e1]
  have A1 := fun D Q => s_Sh_addTokens (L := L) (d := D) (g := g) (Q := Q) (l := l1) (ek := 59) hTa hTb hne hf hi hl (by omega) h02 hs2 n2 (by omega)
  have A2 := fun D Q => s_Sh_addTokens (L := L) (d := D) (g := g) (Q := Q) (l := l8) (ek := 123) hTa hTb hne hf hi hl (by omega) h0 hs n1 (by omega)
  have T1 := fun D Q => s_Sh_addThree (L := L) (d := D) (f := f) (t := t) (g := g) (Q := Q) (l := l4) (x := 125) (y := mi) (z := 123) hTa hi (by omega)
  have M1 := fun Q => hA l3 Q (by omega)
  have M2 := fun Q => hB l5 Q (by omega)
  rw [← e2'] at A1
  rw [← e9] at A2
  rw [← e5] at T1
  rw [← e4] at M1
  rw [← e6] at M2
  have D1 := fun D Q => add D l2 123 Q (by omega)
  have D2 := fun D Q => add D l6 125 Q (by omega)
  have D3 := fun D Q => add D l7 fi Q (by omega)
  have D4 := fun D Q => add D l9 59 Q (by omega)
  rw [← e3] at D1
  rw [← e7] at D2
  rw [← e8] at D3
  rcases hop with rfl | rfl
  · rw [if_pos rfl] at hmi hfi
    rw [← hmi] at T1
    rw [← hfi] at D3
    simp only [u_Sh_mirrorParts_61, u_Sh_mirrorParts_62, u_Sh_mirrorParts_63, u_Sh_mirrorParts_66, u_Sh_mirrorParts_67, u_Sh_mirrorParts_70, u_Sh_mirrorParts_72, u_Sh_mirrorParts_75, u_Sh_mirrorParts_76, u_Sh_mirrorParts_79, u_Sh_mirrorParts_81, u_Sh_mirrorParts_84, u_Sh_mirrorParts_85, u_Sh_mirrorParts_86, u_Sh_mirrorParts_87, u_Sh_mirrorParts_88, u_Sh_mirrorParts_90, u_Sh_mirrorParts_91, u_Sh_mirrorParts_92, u_Sh_mirrorParts_93, u_Sh_mirrorParts_96, u_Sh_mirrorParts_97, u_Sh_mirrorParts_99, u_Sh_mirrorParts_101, u_Sh_mirrorParts_104, u_Sh_mirrorParts_107, u_Sh_mirrorParts_110, u_Sh_mirrorParts_113, u_Sh_mirrorParts_115, u_Sh_mirrorParts_118, u_Sh_mirrorParts_119, u_Sh_mirrorParts_121, u_Sh_mirrorParts_122, u_Sh_mirrorParts_123, u_Sh_mirrorParts_124, u_Sh_mirrorParts_125, u_Sh_mirrorParts_126, u_Sh_mirrorParts_127, u_Sh_mirrorParts_130, u_Sh_mirrorParts_131, u_Sh_mirrorParts_134, u_Sh_mirrorParts_136, u_Sh_mirrorParts_139, u_Sh_mirrorParts_140, u_Sh_mirrorParts_143, u_Sh_mirrorParts_145, u_Sh_mirrorParts_148, u_Sh_mirrorParts_151, u_Sh_mirrorParts_154, u_Sh_mirrorParts_157, u_Sh_mirrorParts_160, u_Sh_mirrorParts_161, u_Sh_mirrorParts_162, u_Sh_mirrorParts_165, u_Sh_mirrorParts_166, u_Sh_mirrorParts_169, u_Sh_mirrorParts_171, u_Sh_mirrorParts_174, u_Sh_mirrorParts_175, u_Sh_mirrorParts_178, u_Sh_mirrorParts_180, u_Sh_mirrorParts_183, h1_18, gt_18_0, gt_18_1, xT_h1, ne_eq, not_false_eq_true, not_true_eq_false, true_and, and_true, true_or, or_true, eq_self, Option.toList_some, Option.toList_none, List.cons_append, List.nil_append, tc_0, tc_I, tc_L, tc_A, Nat.reduceAdd, Nat.reduceLeDiff, Nat.reduceEqDiff, Int.reduceEq, Int.reduceLT, Int.reduceLE, Int.reduceNeg, Int.reduceToNat, Int.cast_ofNat_Int, if_true, if_false, and_self, or_self, ite_self, bI_0, bI_1, bI_01, Bool.false_eq_true, reduceCtorEq, hf, hi, a0, b0, hTa, hTb, s_Tx_body hTb (h9' l1), s_Tx_body hTb (h9' l8), PT_ins hTa hTb hne (show 5 ≤ 9 by decide), PT_len hTa hTb hne, i5, i5h, w1, w2, w3, A1, A2, T1, M1, M2, D1, D2, D3, D4, if_true]
  · rw [if_neg (by decide)] at hmi hfi
    rw [← hmi] at T1
    rw [← hfi] at D3
    simp only [u_Sh_mirrorParts_61, u_Sh_mirrorParts_62, u_Sh_mirrorParts_63, u_Sh_mirrorParts_66, u_Sh_mirrorParts_67, u_Sh_mirrorParts_70, u_Sh_mirrorParts_72, u_Sh_mirrorParts_75, u_Sh_mirrorParts_76, u_Sh_mirrorParts_79, u_Sh_mirrorParts_81, u_Sh_mirrorParts_84, u_Sh_mirrorParts_85, u_Sh_mirrorParts_86, u_Sh_mirrorParts_87, u_Sh_mirrorParts_88, u_Sh_mirrorParts_90, u_Sh_mirrorParts_91, u_Sh_mirrorParts_92, u_Sh_mirrorParts_93, u_Sh_mirrorParts_96, u_Sh_mirrorParts_97, u_Sh_mirrorParts_99, u_Sh_mirrorParts_101, u_Sh_mirrorParts_104, u_Sh_mirrorParts_107, u_Sh_mirrorParts_110, u_Sh_mirrorParts_113, u_Sh_mirrorParts_115, u_Sh_mirrorParts_118, u_Sh_mirrorParts_119, u_Sh_mirrorParts_121, u_Sh_mirrorParts_122, u_Sh_mirrorParts_123, u_Sh_mirrorParts_124, u_Sh_mirrorParts_125, u_Sh_mirrorParts_126, u_Sh_mirrorParts_127, u_Sh_mirrorParts_130, u_Sh_mirrorParts_131, u_Sh_mirrorParts_134, u_Sh_mirrorParts_136, u_Sh_mirrorParts_139, u_Sh_mirrorParts_140, u_Sh_mirrorParts_143, u_Sh_mirrorParts_145, u_Sh_mirrorParts_148, u_Sh_mirrorParts_151, u_Sh_mirrorParts_154, u_Sh_mirrorParts_157, u_Sh_mirrorParts_160, u_Sh_mirrorParts_161, u_Sh_mirrorParts_162, u_Sh_mirrorParts_165, u_Sh_mirrorParts_166, u_Sh_mirrorParts_169, u_Sh_mirrorParts_171, u_Sh_mirrorParts_174, u_Sh_mirrorParts_175, u_Sh_mirrorParts_178, u_Sh_mirrorParts_180, u_Sh_mirrorParts_183, h1_18, gt_18_0, gt_18_1, xT_h1, ne_eq, not_false_eq_true, not_true_eq_false, true_and, and_true, true_or, or_true, eq_self, Option.toList_some, Option.toList_none, List.cons_append, List.nil_append, tc_0, tc_I, tc_L, tc_A, Nat.reduceAdd, Nat.reduceLeDiff, Nat.reduceEqDiff, Int.reduceEq, Int.reduceLT, Int.reduceLE, Int.reduceNeg, Int.reduceToNat, Int.cast_ofNat_Int, if_true, if_false, and_self, or_self, ite_self, bI_0, bI_1, bI_01, Bool.false_eq_true, reduceCtorEq, hf, hi, a0, b0, hTa, hTb, s_Tx_body hTb (h9' l1), s_Tx_body hTb (h9' l8), PT_ins hTa hTb hne (show 5 ≤ 9 by decide), PT_len hTa hTb hne, i5, i5h, w1, w2, w3, A1, A2, T1, M1, M2, D1, D2, D3, D4, if_false, Int.reduceEq]
end
