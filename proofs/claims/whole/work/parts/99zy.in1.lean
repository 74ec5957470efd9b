/-! The constructors: Text -/
/-- a Text made at a -/
def inT (a : Nat) (m : Mem) : Mem := fun b k => if b = a then (if k = 0 then ((a + 1 : Nat) : Int) else if k = 2 then ((a + 2 : Nat) : Int) else if k = 3 then ((a + 3 : Nat) : Int) else if k = 4 then ((a + 4 : Nat) : Int) else if k = 5 then ((a + 5 : Nat) : Int) else if k = 6 then ((a + 6 : Nat) : Int) else if k = 7 then ((a + 7 : Nat) : Int) else if k = 8 then ((a + 8 : Nat) : Int) else if k = 10 then ((a + 9 : Nat) : Int) else m a k) else if a < b ∧ b ≤ a + 9 then 0 else m b k
section
variable {L d a : Nat} {m : Mem} {Q : Option TV → Wd → Prop}
theorem shT (h : isT a) : sh L a = (1, 16) ∧ sh L (a + 1) = (20, 1000) ∧ sh L (a + 2) = (20, 40) ∧ sh L (a + 3) = (20, 40) ∧ sh L (a + 4) = (20, 40) ∧ sh L (a + 5) = (20, 40) ∧ sh L (a + 6) = (20, 40) ∧ sh L (a + 7) = (20, 40) ∧ sh L (a + 8) = (20, 40) ∧ sh L (a + 9) = (20, 5) := by
  rcases isT_c h with rfl | rfl | rfl | rfl | rfl | rfl | rfl | rfl | rfl | rfl | rfl <;> exact ⟨rfl, rfl, rfl, rfl, rfl, rfl, rfl, rfl, rfl, rfl⟩
theorem znw {w : Wd} : znew w 1 (fun _ _ => 0) = (w.1 + 1, fun b k => if w.1 < b ∧ b ≤ w.1 + 1 then 0 else w.2 b k) := rfl
theorem u_JObj_init_0 {ls : Lo} {w : Wd} : VV L d m_JObj_init 0 ls [] w Q = (Q none w) := V_ret (show decode m_JObj_init.2.2.2.1 0 = .ok (.return_, 1) by decide +kernel) rfl
theorem s_Tx_init (h : isT a) : VV L (d + 1) m_Tx_init 0 [some (tA a)] [] (a, m) Q = Q none (a + 9, inT a m) := by
  have a0 := xT_0 h
  obtain ⟨s0, s1, s2, s3, s4, s5, s6, s7, s8, s9⟩ := shT (L := L) h
  have e : (a + 9, inT a m) = (a + 1 + 1 + 1 + 1 + 1 + 1 + 1 + 1 + 1, mset (fun b k => if a + 1 + 1 + 1 + 1 + 1 + 1 + 1 + 1 < b ∧ b ≤ a + 1 + 1 + 1 + 1 + 1 + 1 + 1 + 1 + 1 then 0 else (mset (fun b k => if a + 1 + 1 + 1 + 1 + 1 + 1 + 1 < b ∧ b ≤ a + 1 + 1 + 1 + 1 + 1 + 1 + 1 + 1 then 0 else (mset (fun b k => if a + 1 + 1 + 1 + 1 + 1 + 1 < b ∧ b ≤ a + 1 + 1 + 1 + 1 + 1 + 1 + 1 then 0 else (mset (fun b k => if a + 1 + 1 + 1 + 1 + 1 < b ∧ b ≤ a + 1 + 1 + 1 + 1 + 1 + 1 then 0 else (mset (fun b k => if a + 1 + 1 + 1 + 1 < b ∧ b ≤ a + 1 + 1 + 1 + 1 + 1 then 0 else (mset (fun b k => if a + 1 + 1 + 1 < b ∧ b ≤ a + 1 + 1 + 1 + 1 then 0 else (mset (fun b k => if a + 1 + 1 < b ∧ b ≤ a + 1 + 1 + 1 then 0 else (mset (fun b k => if a + 1 < b ∧ b ≤ a + 1 + 1 then 0 else (mset (fun b k => if a < b ∧ b ≤ a + 1 then 0 else m b k) a 0 ((a + 1 : Nat) : Int)) b k) a 2 ((a + 1 + 1 : Nat) : Int)) b k) a 3 ((a + 1 + 1 + 1 : Nat) : Int)) b k) a 4 ((a + 1 + 1 + 1 + 1 : Nat) : Int)) b k) a 5 ((a + 1 + 1 + 1 + 1 + 1 : Nat) : Int)) b k) a 6 ((a + 1 + 1 + 1 + 1 + 1 + 1 : Nat) : Int)) b k) a 7 ((a + 1 + 1 + 1 + 1 + 1 + 1 + 1 : Nat) : Int)) b k) a 8 ((a + 1 + 1 + 1 + 1 + 1 + 1 + 1 + 1 : Nat) : Int)) b k) a 10 ((a + 1 + 1 + 1 + 1 + 1 + 1 + 1 + 1 + 1 : Nat) : Int)) := by
    refine Prod.ext rfl ?_
    funext b k
    simp only [inT, mset]
    by_cases hb : b = a
    · subst hb
      simp only [if_true, true_and, Nat.lt_irrefl, false_and, if_false]
      grind
    · simp only [hb, if_false, false_and]
      (repeat' split) <;> first | rfl | omega
  rw [e]
  have s2' : sh L (a + 1 + 1) = (20, 40) := s2
  have s3' : sh L (a + 1 + 1 + 1) = (20, 40) := s3
  have s4' : sh L (a + 1 + 1 + 1 + 1) = (20, 40) := s4
  have s5' : sh L (a + 1 + 1 + 1 + 1 + 1) = (20, 40) := s5
  have s6' : sh L (a + 1 + 1 + 1 + 1 + 1 + 1) = (20, 40) := s6
  have s7' : sh L (a + 1 + 1 + 1 + 1 + 1 + 1 + 1) = (20, 40) := s7
  have s8' : sh L (a + 1 + 1 + 1 + 1 + 1 + 1 + 1 + 1) = (20, 40) := s8
  have s9' : sh L (a + 1 + 1 + 1 + 1 + 1 + 1 + 1 + 1 + 1) = (20, 5) := s9
  simp only [u_Tx_init_0, u_Tx_init_1, u_Tx_init_4, u_Tx_init_5, u_Tx_init_8, u_Tx_init_10, u_Tx_init_13, u_Tx_init_14, u_Tx_init_16, u_Tx_init_18, u_Tx_init_21, u_Tx_init_22, u_Tx_init_24, u_Tx_init_26, u_Tx_init_29, u_Tx_init_30, u_Tx_init_32, u_Tx_init_34, u_Tx_init_37, u_Tx_init_38, u_Tx_init_40, u_Tx_init_42, u_Tx_init_45, u_Tx_init_46, u_Tx_init_48, u_Tx_init_50, u_Tx_init_53, u_Tx_init_54, u_Tx_init_56, u_Tx_init_58, u_Tx_init_61, u_Tx_init_62, u_Tx_init_64, u_Tx_init_66, u_Tx_init_69, u_Tx_init_70, u_Tx_init_71, u_Tx_init_73, u_Tx_init_76, u_JObj_init_0, ne_eq, not_false_eq_true, not_true_eq_false, true_and, and_true, true_or, or_true, eq_self, Option.toList_some, Option.toList_none, List.cons_append, List.nil_append, tc_0, tc_I, tc_L, tc_A, Nat.reduceAdd, Nat.reduceLeDiff, Nat.reduceEqDiff, Int.reduceEq, Int.reduceLT, Int.reduceLE, Int.reduceNeg, Int.reduceToNat, Int.cast_ofNat_Int, if_true, if_false, and_self, or_self, ite_self, bI_0, bI_1, bI_01, Bool.false_eq_true, reduceCtorEq, a0, s0, s1, s2', s3', s4', s5', s6', s7', s8', s9', znw, Int.reduceToNat, ne_eq, not_false_eq_true, Nat.succ_ne_zero, true_and, and_self, Int.reduceLE]
end
