/-! Mirrors, the class: tokens are added -/
section
variable {L d a : Nat} {f t g : Mem} {Q : Option TV → Wd → Prop} {l : List Int} {v : Int}
theorem PT_1 : PSt (a + 1) a 1 t l a 1 = (l.length : Int) := PS_e (by omega)
theorem s_Tx_addP (hT : isT a) (hl : l.length < 1000) : VV L d m_Tx_add 0 [some (tA a), some (tI v)] [] (WW f (PSt (a + 1) a 1 t l) g) Q = Q none (WW f (PSt (a + 1) a 1 t (l ++ [v])) g) := by
  rw [s_Tx_add hT (by rw [PT_1]; exact Int.natCast_nonneg _), PT_1, if_pos (by omega), Int.toNat_natCast]
  rw [show ((l.length : Int) + 1) = ((l.length + 1 : Nat) : Int) from rfl, PS_s (by omega)]
theorem s_Tx_clearP (hT : isT a) : VV L d m_Tx_clear 0 [some (tA a)] [] (WW f t g) Q = Q none (WW f (PSt (a + 1) a 1 t []) g) := by
  rw [s_Tx_clear hT, PS_0 (a := a + 1)]
theorem s_Sh_addThree {x y z : Int} (hT : isT a) (hi : (f 18 1).toNat = a) (hl : l.length + 3 ≤ 1000) : VV L (d + 1) m_Sh_addThree 0 [some (tA 18), some (tI x), some (tI y), some (tI z)] [] (WW f (PSt (a + 1) a 1 t l) g) Q = Q none (WW f (PSt (a + 1) a 1 t (l ++ [x, y, z])) g) := by
  have a0 := xT_0 hT
  have e : l ++ [x, y, z] = l ++ [x] ++ [y] ++ [z] := by simp
  rw [e]
  simp only [u_Sh_addThree_0, u_Sh_addThree_1, u_Sh_addThree_4, u_Sh_addThree_5, u_Sh_addThree_8, u_Sh_addThree_9, u_Sh_addThree_12, u_Sh_addThree_13, u_Sh_addThree_16, u_Sh_addThree_17, u_Sh_addThree_20, u_Sh_addThree_21, u_Sh_addThree_24, h1_18, gt_18_1, xT_h1, ne_eq, not_false_eq_true, not_true_eq_false, true_and, and_true, true_or, or_true, eq_self, Option.toList_some, Option.toList_none, List.cons_append, List.nil_append, tc_0, tc_I, tc_L, tc_A, Nat.reduceAdd, Nat.reduceLeDiff, Nat.reduceEqDiff, Int.reduceEq, Int.reduceLT, Int.reduceLE, Int.reduceNeg, Int.reduceToNat, Int.cast_ofNat_Int, if_true, if_false, and_self, or_self, ite_self, bI_0, bI_1, bI_01, Bool.false_eq_true, reduceCtorEq, hi, a0, hT, s_Tx_addP hT (show l.length < 1000 by omega), s_Tx_addP hT (show (l ++ [x]).length < 1000 by rw [List.length_append, List.length_singleton]; omega), s_Tx_addP hT (show (l ++ [x] ++ [y]).length < 1000 by rw [List.length_append, List.length_append, List.length_singleton, List.length_singleton]; omega)]
end
