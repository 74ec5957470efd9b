/-! Text: settle -/
def nmN (T : Int → Int) : Nat → Nat
  | 0 => 0
  | k + 1 => if kName (T k) = true then nmN T k ||| 2 ^ (T k - 97).toNat else nmN T k
theorem nmN_lt {T : Int → Int} : ∀ k, nmN T k < 2 ^ 26 := by
  intro k
  induction k with
  | zero => simp [nmN]
  | succ k ih =>
    unfold nmN
    split
    · rename_i h
      unfold kName at h; simp at h
      exact Nat.or_lt_two_pow ih (Nat.pow_lt_pow_right (by omega) (by omega))
    · exact ih
abbrev Laid {c : Nat} (a : Nat) (t t' : Mem) (x : TB c 6) : Prop := (∀ b k, b < a ∨ a + 9 < b ∨ b = a + 1 → t' b k = t b k) ∧ (t' a 1 = t a 1) ∧ (t' a 9 = nB 6 x) ∧ (t' a 12 = stB 6 x) ∧ (t' a 13 = dpB 6 x) ∧ (t' a 14 = nmN (tok t a) (t a 1).toNat) ∧ (t' a 15 = 1) ∧ (TOk t' a 0 0 (tbB 6 x 0 0))
theorem Laid.fr {c : Nat} {a : Nat} {t t' : Mem} {x : TB c 6} (hSelf : Laid a t t' x) : ∀ b k, b < a ∨ a + 9 < b ∨ b = a + 1 → t' b k = t b k := hSelf.1
theorem Laid.f1 {c : Nat} {a : Nat} {t t' : Mem} {x : TB c 6} (hSelf : Laid a t t' x) : t' a 1 = t a 1 := hSelf.2.1
theorem Laid.f9 {c : Nat} {a : Nat} {t t' : Mem} {x : TB c 6} (hSelf : Laid a t t' x) : t' a 9 = nB 6 x := hSelf.2.2.1
theorem Laid.f12 {c : Nat} {a : Nat} {t t' : Mem} {x : TB c 6} (hSelf : Laid a t t' x) : t' a 12 = stB 6 x := hSelf.2.2.2.1
theorem Laid.f13 {c : Nat} {a : Nat} {t t' : Mem} {x : TB c 6} (hSelf : Laid a t t' x) : t' a 13 = dpB 6 x := hSelf.2.2.2.2.1
theorem Laid.f14 {c : Nat} {a : Nat} {t t' : Mem} {x : TB c 6} (hSelf : Laid a t t' x) : t' a 14 = nmN (tok t a) (t a 1).toNat := hSelf.2.2.2.2.2.1
theorem Laid.f15 {c : Nat} {a : Nat} {t t' : Mem} {x : TB c 6} (hSelf : Laid a t t' x) : t' a 15 = 1 := hSelf.2.2.2.2.2.2.1
theorem Laid.tb {c : Nat} {a : Nat} {t t' : Mem} {x : TB c 6} (hSelf : Laid a t t' x) : TOk t' a 0 0 (tbB 6 x 0 0) := hSelf.2.2.2.2.2.2.2
section
variable {L d a c : Nat} {f t g : Mem} {Q : Option TV → Wd → Prop}
theorem tok_m14 {v : Int} {k : Nat} (h : ¬ k = 1) : tok (mset t a k v) a = tok t a := tok_of (by rw [rd, if_neg (by omega)]) (fun j => by rw [rd, if_neg (by omega)])
theorem l_names (hT : isT a) (hl : t a 1 ≤ 1000) : ∀ (m k : Nat), t a 1 = k + m → VV L (d + 4) m_Tx_settle 27 [some (tA a), some (tI k), none] [] (WW f (mset t a 14 (nmN (tok t a) k)) g) Q = VV L (d + 4) m_Tx_settle 75 [some (tA a), some (tI 0), some (tI 0)] [] (WW f (mset t a 14 (nmN (tok t a) (t a 1).toNat)) g) Q := by
  intro m
  induction m with
  | zero =>
    intro k hk
    have e : (t a 1).toNat = k := by omega
    rw [u_Tx_settle_27, e]
    simp only [u_Tx_settle_28, u_Tx_settle_29, u_Tx_settle_32, u_Tx_settle_35, u_Tx_settle_36, u_Tx_settle_37, u_Tx_settle_40, u_Tx_settle_43, u_Tx_settle_46, u_Tx_settle_47, u_Tx_settle_48, u_Tx_settle_51, u_Tx_settle_52, u_Tx_settle_53, u_Tx_settle_54, u_Tx_settle_57, u_Tx_settle_59, u_Tx_settle_60, u_Tx_settle_61, u_Tx_settle_62, u_Tx_settle_65, u_Tx_settle_68, u_Tx_settle_71, u_Tx_settle_72, u_Tx_settle_73, u_Tx_settle_74, xT_0, xT_h1, xT_g1, ne_eq, not_false_eq_true, not_true_eq_false, true_and, and_true, true_or, or_true, eq_self, Option.toList_some, Option.toList_none, List.cons_append, List.nil_append, tc_0, tc_I, tc_L, tc_A, Nat.reduceAdd, Nat.reduceLeDiff, Nat.reduceEqDiff, Int.reduceEq, Int.reduceLT, Int.reduceLE, Int.reduceNeg, Int.reduceToNat, Int.cast_ofNat_Int, if_true, if_false, and_self, or_self, ite_self, bI_0, bI_1, bI_01, Bool.false_eq_true, reduceCtorEq, hT, rd, Nat.reduceEqDiff, and_false, if_false, show t a 1 ≤ (k : Int) by omega]
  | succ m ih =>
    intro k hk
    have h1 : (mset t a 14 (nmN (tok t a) k)) a 1 = t a 1 := by rw [rd, if_neg (by omega)]
    have hl' : (mset t a 14 (nmN (tok t a) k)) a 1 ≤ 1000 := by rw [h1]; exact hl
    have wk : w32 ((k : Int) + 1) = ((k + 1 : Nat) : Int) := by rw [w32_id (by omega) (by omega)]; omega
    have h14 : (mset t a 14 (nmN (tok t a) k)) a 14 = nmN (tok t a) k := by rw [rd, if_pos (by simp)]
    rw [u_Tx_settle_27]
    by_cases hn : kName (tok t a k) = true
    · have hb : 97 ≤ tok t a k ∧ tok t a k ≤ 122 := by unfold kName at hn; simpa using hn
      have ws : w32 (tok t a k - 97) = ((tok t a k - 97).toNat : Int) := by rw [w32_id (by omega) (by omega)]; omega
      have lt := nmN_lt (T := tok t a) k
      have lp : 2 ^ (tok t a k - 97).toNat < 2147483648 := Nat.lt_of_lt_of_le (Nat.pow_lt_pow_right (by omega) (show (tok t a k - 97).toNat < 31 by omega)) (by decide)
      have e2 : nmN (tok t a) (k + 1) = nmN (tok t a) k ||| 2 ^ (tok t a k - 97).toNat := by rw [nmN, if_pos hn]
      simp only [u_Tx_settle_28, u_Tx_settle_29, u_Tx_settle_32, u_Tx_settle_35, u_Tx_settle_36, u_Tx_settle_37, u_Tx_settle_40, u_Tx_settle_43, u_Tx_settle_46, u_Tx_settle_47, u_Tx_settle_48, u_Tx_settle_51, u_Tx_settle_52, u_Tx_settle_53, u_Tx_settle_54, u_Tx_settle_57, u_Tx_settle_59, u_Tx_settle_60, u_Tx_settle_61, u_Tx_settle_62, u_Tx_settle_65, u_Tx_settle_68, u_Tx_settle_71, u_Tx_settle_72, u_Tx_settle_73, u_Tx_settle_74, xT_0, xT_h1, xT_g1, xT_g14, xT_p14, ne_eq, not_false_eq_true, not_true_eq_false, true_and, and_true, true_or, or_true, eq_self, Option.toList_some, Option.toList_none, List.cons_append, List.nil_append, tc_0, tc_I, tc_L, tc_A, Nat.reduceAdd, Nat.reduceLeDiff, Nat.reduceEqDiff, Int.reduceEq, Int.reduceLT, Int.reduceLE, Int.reduceNeg, Int.reduceToNat, Int.cast_ofNat_Int, if_true, if_false, and_self, or_self, ite_self, bI_0, bI_1, bI_01, Bool.false_eq_true, reduceCtorEq, hT, h1, show ¬ t a 1 ≤ (k : Int) by omega, s_Tx_token hT hl', tok_m14 (show ¬ 14 = 1 by omega), s_Tk_isName, bB_0, ite_not, hn, h14, ws, o32_shl1 (show (tok t a k - 97).toNat < 31 by omega), o32_or (show nmN (tok t a) k < 2147483648 by omega) lp, wk, mset_mset]
      rw [← e2]
      exact ih (k + 1) (by omega)
    · have e2 : nmN (tok t a) (k + 1) = nmN (tok t a) k := by rw [nmN, if_neg hn]
      simp only [u_Tx_settle_28, u_Tx_settle_29, u_Tx_settle_32, u_Tx_settle_35, u_Tx_settle_36, u_Tx_settle_37, u_Tx_settle_40, u_Tx_settle_43, u_Tx_settle_46, u_Tx_settle_47, u_Tx_settle_48, u_Tx_settle_51, u_Tx_settle_52, u_Tx_settle_53, u_Tx_settle_54, u_Tx_settle_57, u_Tx_settle_59, u_Tx_settle_60, u_Tx_settle_61, u_Tx_settle_62, u_Tx_settle_65, u_Tx_settle_68, u_Tx_settle_71, u_Tx_settle_72, u_Tx_settle_73, u_Tx_settle_74, xT_0, xT_h1, xT_g1, xT_g14, xT_p14, ne_eq, not_false_eq_true, not_true_eq_false, true_and, and_true, true_or, or_true, eq_self, Option.toList_some, Option.toList_none, List.cons_append, List.nil_append, tc_0, tc_I, tc_L, tc_A, Nat.reduceAdd, Nat.reduceLeDiff, Nat.reduceEqDiff, Int.reduceEq, Int.reduceLT, Int.reduceLE, Int.reduceNeg, Int.reduceToNat, Int.cast_ofNat_Int, if_true, if_false, and_self, or_self, ite_self, bI_0, bI_1, bI_01, Bool.false_eq_true, reduceCtorEq, hT, h1, show ¬ t a 1 ≤ (k : Int) by omega, s_Tx_token hT hl', tok_m14 (show ¬ 14 = 1 by omega), s_Tk_isName, bB_0, ite_not, hn, wk]
      rw [← e2]
      exact ih (k + 1) (by omega)
def st0 (t : Mem) (a : Nat) : Mem := mset (mset (mset (mset t a 9 0) a 11 0) a 12 0) a 13 0
theorem s_Tx_settle {o : Bool} (hT : isT a) (hl : t a 1 ≤ 1000) (h0 : 0 ≤ t a 1) (x : TB c 6) (hw : wB o 6 x) (hs : seg (tok t a) 0 (t a 1) (kB 6 x)) (hn : nB 6 x ≤ 40) (hQ : ∀ t', Laid a t t' x → Q none (WW f t' g)) : VV L (d + 4) m_Tx_settle 0 [some (tA a), none, none] [] (WW f t g) Q := by
  have e1 : st0 t a a 1 = t a 1 := by simp only [st0, rd]; rw [if_neg (by omega), if_neg (by omega), if_neg (by omega), if_neg (by omega)]
  have e2 : tok (st0 t a) a = tok t a := tok_of e1 (fun j => by simp only [st0, rd]; rw [if_neg (by omega), if_neg (by omega), if_neg (by omega), if_neg (by omega)])
  have h1 : VV L (d + 4) m_Tx_settle 0 [some (tA a), none, none] [] (WW f t g) Q = VV L (d + 4) m_Tx_settle 27 [some (tA a), some (tI ((0 : Nat) : Int)), none] [] (WW f (mset (st0 t a) a 14 (nmN (tok (st0 t a) a) 0)) g) Q := by
    simp only [u_Tx_settle_0, u_Tx_settle_1, u_Tx_settle_2, u_Tx_settle_5, u_Tx_settle_6, u_Tx_settle_7, u_Tx_settle_10, u_Tx_settle_11, u_Tx_settle_12, u_Tx_settle_15, u_Tx_settle_16, u_Tx_settle_17, u_Tx_settle_20, u_Tx_settle_21, u_Tx_settle_22, u_Tx_settle_25, u_Tx_settle_26, xT_0, xT_h1, xT_p9, xT_p11, xT_p12, xT_p13, xT_p14, ne_eq, not_false_eq_true, not_true_eq_false, true_and, and_true, true_or, or_true, eq_self, Option.toList_some, Option.toList_none, List.cons_append, List.nil_append, tc_0, tc_I, tc_L, tc_A, Nat.reduceAdd, Nat.reduceLeDiff, Nat.reduceEqDiff, Int.reduceEq, Int.reduceLT, Int.reduceLE, Int.reduceNeg, Int.reduceToNat, Int.cast_ofNat_Int, if_true, if_false, and_self, or_self, ite_self, bI_0, bI_1, bI_01, Bool.false_eq_true, reduceCtorEq, hT]
    rfl
  rw [h1, l_names hT (by omega) (t a 1).toNat 0 (by omega), e1, e2]
  have x9 : ∀ v : Int, (mset (st0 t a) a 14 v) a 9 = 0 := fun v => by simp only [st0, rd]; simp
  have x11 : ∀ v : Int, (mset (st0 t a) a 14 v) a 11 = 0 := fun v => by simp only [st0, rd]; simp
  have x12 : ∀ v : Int, (mset (st0 t a) a 14 v) a 12 = 0 := fun v => by simp only [st0, rd]; simp
  have x13 : ∀ v : Int, (mset (st0 t a) a 14 v) a 13 = 0 := fun v => by simp only [st0, rd]; simp
  have x1 : ∀ v : Int, (mset (st0 t a) a 14 v) a 1 = t a 1 := fun v => by rw [rd, if_neg (by omega), e1]
  have x14 : ∀ v : Int, (mset (st0 t a) a 14 v) a 14 = v := fun v => by rw [rd, if_pos (by simp)]
  have xf : ∀ (v : Int) (b k : Nat), b < a ∨ a + 9 < b ∨ b = a + 1 → (mset (st0 t a) a 14 v) b k = t b k := fun v b k hb => by
    simp only [st0, rd]; rw [if_neg (by omega), if_neg (by omega), if_neg (by omega), if_neg (by omega), if_neg (by omega)]
  have xt : ∀ v : Int, tok (mset (st0 t a) a 14 v) a = tok t a := fun v => by rw [tok_m14 (by omega), e2]
  generalize hv : ((nmN (tok t a) (t a 1).toNat : Nat) : Int) = v
  have := x9 v; have := x11 v; have := x12 v; have := x13 v; have := x1 v
  refine (WkP_B (L := L) (d := d) (f := f) (g := g) (Q := Q) hT 6 x hw).2 (mset (st0 t a) a 14 v) 0 (t a 1) 0 (by omega) (by omega) (by omega) (by omega) (by omega) (by omega) (by omega) (by omega) (by omega) (by omega) (by rw [xt]; exact hs) (by omega) (fun t' n' p hn0 hn1 => ?_)
  have y1 := p.fa 1 (by omega) (by omega) (by omega)
  rw [x1] at y1
  have hfin : VV L (d + 4) m_Tx_settle 75 [some (tA a), some (tI (t a 1)), some (tI n')] [] (WW f t' g) Q = Q none (WW f (mset t' a 15 1) g) := by
    rw [u_Tx_settle_75]
    by_cases hh : 1000 ≤ n'
    · simp only [u_Tx_settle_76, u_Tx_settle_79, u_Tx_settle_82, u_Tx_settle_83, u_Tx_settle_84, u_Tx_settle_87, u_Tx_settle_90, u_Tx_settle_91, u_Tx_settle_92, u_Tx_settle_95, u_Tx_settle_97, u_Tx_settle_100, u_Tx_settle_101, u_Tx_settle_102, u_Tx_settle_105, u_Tx_settle_108, u_Tx_settle_109, u_Tx_settle_110, u_Tx_settle_113, u_Tx_settle_114, u_Tx_settle_117, u_Tx_settle_120, u_Tx_settle_121, u_Tx_settle_122, u_Tx_settle_125, xT_0, xT_h1, xT_g1, xT_p15, ne_eq, not_false_eq_true, not_true_eq_false, true_and, and_true, true_or, or_true, eq_self, Option.toList_some, Option.toList_none, List.cons_append, List.nil_append, tc_0, tc_I, tc_L, tc_A, Nat.reduceAdd, Nat.reduceLeDiff, Nat.reduceEqDiff, Int.reduceEq, Int.reduceLT, Int.reduceLE, Int.reduceNeg, Int.reduceToNat, Int.cast_ofNat_Int, if_true, if_false, and_self, or_self, ite_self, bI_0, bI_1, bI_01, Bool.false_eq_true, reduceCtorEq, hT, hh]
    · simp only [u_Tx_settle_76, u_Tx_settle_79, u_Tx_settle_82, u_Tx_settle_83, u_Tx_settle_84, u_Tx_settle_87, u_Tx_settle_90, u_Tx_settle_91, u_Tx_settle_92, u_Tx_settle_95, u_Tx_settle_97, u_Tx_settle_100, u_Tx_settle_101, u_Tx_settle_102, u_Tx_settle_105, u_Tx_settle_108, u_Tx_settle_109, u_Tx_settle_110, u_Tx_settle_113, u_Tx_settle_114, u_Tx_settle_117, u_Tx_settle_120, u_Tx_settle_121, u_Tx_settle_122, u_Tx_settle_125, xT_0, xT_h1, xT_g1, xT_p15, ne_eq, not_false_eq_true, not_true_eq_false, true_and, and_true, true_or, or_true, eq_self, Option.toList_some, Option.toList_none, List.cons_append, List.nil_append, tc_0, tc_I, tc_L, tc_A, Nat.reduceAdd, Nat.reduceLeDiff, Nat.reduceEqDiff, Int.reduceEq, Int.reduceLT, Int.reduceLE, Int.reduceNeg, Int.reduceToNat, Int.cast_ofNat_Int, if_true, if_false, and_self, or_self, ite_self, bI_0, bI_1, bI_01, Bool.false_eq_true, reduceCtorEq, hT, hh, y1, Int.le_refl]
  rw [hfin]
  refine hQ _ ⟨?_, ?_, ?_, ?_, ?_, ?_, ?_, ?_⟩
  · intro b k hb; rw [rd, if_neg (by omega), p.fr b k hb, xf v b k hb]
  · rw [rd, if_neg (by omega), y1]
  · rw [rd, if_neg (by omega), p.f9, x9]; omega
  · rw [rd, if_neg (by omega), p.f12, x11, x12]; simp
  · rw [rd, if_neg (by omega), p.f13, x11, x13]; unfold mx; split <;> omega
  · rw [rd, if_neg (by omega), p.fa 14 (by omega) (by omega) (by omega), x14, hv]
  · rw [rd, if_pos (by simp)]
  · have q := p.tb
    rw [x9] at q
    exact TOk_mono _ _ q (Nat.le_refl _) (fun c k c1 c2 _ _ => by rw [rd, if_neg (by omega)])
end
