/-! print, the reference and both -/
def jnT (T : Int → Int) (k : Int) : Int := if k = 0 then 1 else if (T (k - 1) = 45 ∧ ¬ kEnd (T (k - 2)) = true) ∨ T (k - 1) = 91 ∨ T (k - 1) = 40 ∨ T (k - 1) = 35 then 1 else 0
def nnT (v : Int) : Prop := v = 59 ∨ v = 93 ∨ v = 41 ∨ v = 91
theorem eS_c {T : Int → Int} {k : Int} (h : okT (T k)) : (eS T k = 8 ∧ T k = 45 ∧ ¬ kEnd (T (k - 1)) = true) ∨ (eS T k = 7 ∧ whc (T k) = T k ∧ (T k = 45 → kEnd (T (k - 1)) = true)) ∨ (¬ eS T k = 8 ∧ ¬ eS T k = 7 ∧ ¬ nnT (T k) ∧ ¬ T k = 40 ∧ ¬ T k = 35 ∧ ¬ T k = 45 ∧ ¬ T k = 91) := by
  unfold eS nnT
  by_cases a : T k = 45 ∧ ¬ kEnd (T (k - 1)) = true
  · rw [if_pos a]; exact Or.inl ⟨rfl, a⟩
  · rw [if_neg a]
    right
    have a' : T k = 45 → kEnd (T (k - 1)) = true := fun h45 => by
      cases hh : kEnd (T (k - 1))
      · exact absurd ⟨h45, by rw [hh]; decide⟩ a
      · rfl
    rcases cls h with b | b | b | b | b | b | b
    · right; omega
    · right; omega
    · right; omega
    · right; omega
    · right; omega
    · right; omega
    · left; exact ⟨b.2.1, b.2.2, a'⟩
theorem blk_j {T : Int → Int} {k : Nat} : (blk T k = [32] ∧ jnT T k = 0 ∧ ¬ nnT (T k)) ∨ (blk T k = [] ∧ (jnT T k = 1 ∨ (jnT T k = 0 ∧ nnT (T k)))) := by
  unfold blk jnT apP nnT
  by_cases k0 : 0 < k
  · have k1 : ¬ (k : Int) = 0 := by omega
    rw [if_neg k1]
    by_cases h1 : T k = 59 ∨ T k = 93 ∨ T k = 41 ∨ T k = 91
    · rw [if_pos h1, if_neg (fun h => absurd h.2 (by decide))]
      right
      refine ⟨rfl, ?_⟩
      split
      · exact Or.inl rfl
      · exact Or.inr ⟨rfl, h1⟩
    · rw [if_neg h1]
      by_cases h2 : T ((k : Int) - 1) = 45
      · rw [if_pos h2]
        cases hh : kEnd (T ((k : Int) - 2))
        · rw [if_neg (fun h => absurd h.2 (by decide)), if_pos (Or.inl ⟨h2, by decide⟩)]
          exact Or.inr ⟨rfl, Or.inl rfl⟩
        · rw [if_pos ⟨k0, rfl⟩, if_neg (by rw [h2]; simp)]
          exact Or.inl ⟨rfl, rfl, h1⟩
      · rw [if_neg h2]
        by_cases h3 : T ((k : Int) - 1) = 91 ∨ T ((k : Int) - 1) = 40 ∨ T ((k : Int) - 1) = 35
        · rw [decide_eq_false (fun h => h h3), if_neg (fun h => absurd h.2 (by decide)), if_pos (Or.inr h3)]
          exact Or.inr ⟨rfl, Or.inl rfl⟩
        · rw [decide_eq_true h3, if_pos ⟨k0, rfl⟩, if_neg (fun h => h.elim (fun h => h2 h.1) h3)]
          exact Or.inl ⟨rfl, rfl, h1⟩
  · right
    have k1 : (k : Int) = 0 := by omega
    rw [if_neg (fun h => k0 h.1), if_pos k1]
    exact ⟨rfl, Or.inl rfl⟩
section
variable {L d r len : Nat} {F t g : Mem} {T : Int → Int} {Q : Option TV → Wd → Prop}
theorem l_prM (hR : RT g r T len) (hok : ∀ k : Int, 0 ≤ k → k < len → okT (T k)) (hw : ∀ k, k ≤ len → (prL T k).length ≤ 4000) : ∀ (m k : Nat) (o4 o5 o6 : Option TV), k + m = len → VV L (d + 2) m_M_print 30 [some (tA 156), some (tI r), some (tI (jnT T k)), some (tI k), o4, o5, o6] [] (WW F t (PSt 158 156 3 g (prL T k))) Q = Q (some (tI ((prL T len).length : Int))) (WW F t (PSt 158 156 3 g (prL T len))) := by
  have hO : ∀ k b j, 163 ≤ b → b < 166 → PSt 158 156 3 g (prL T k) b j = g b j := fun k b j h1 h2 => PS_o (by omega) (by omega)
  have hRk : ∀ k, RT (PSt 158 156 3 g (prL T k)) r T len := fun k => RT_fr2 hR (fun c j h1 h2 => hO k c j h1 h2)
  have l1 := hR.l1
  intro m
  induction m with
  | zero =>
    intro k o4 o5 o6 hk
    obtain rfl : k = len := by omega
    obtain ⟨r0, r1, r2⟩ := (hRk k).ir
    have e := PS_e (a := 158) (e := 156) (k := 3) (f := g) (l := prL T k) (by decide)
    rw [u_M_print_30]
    simp only [u_M_print_31, u_M_print_32, u_M_print_35, u_M_print_36, u_M_print_37, u_M_print_180, u_M_print_181, u_M_print_184, h1_156, gt_156_3, gt_156_24, h1_163, h2_163, gt_163, pt_163, ne_eq, not_false_eq_true, not_true_eq_false, true_and, and_true, true_or, or_true, eq_self, Option.toList_some, Option.toList_none, List.cons_append, List.nil_append, tc_0, tc_I, tc_L, tc_A, Nat.reduceAdd, Nat.reduceLeDiff, Nat.reduceEqDiff, Int.reduceEq, Int.reduceLT, Int.reduceLE, Int.reduceNeg, Int.reduceToNat, Int.cast_ofNat_Int, if_true, if_false, and_self, or_self, ite_self, bI_0, bI_1, bI_01, Bool.false_eq_true, reduceCtorEq, r0, r1, r2, show (k : Int) ≤ k from Int.le_refl _, e]
  | succ m ih =>
    intro k o4 o5 o6 hk
    obtain ⟨r0, r1, r2⟩ := (hRk k).ir
    have k0 : (0 : Int) ≤ k := Int.natCast_nonneg k
    have kln : k < len := by omega
    have kl : (k : Int) < len := Int.ofNat_lt.mpr kln
    have nl : ¬ (len : Int) ≤ k := Int.not_le.mpr kl
    have wk : w32 ((k : Int) + 1) = ((k + 1 : Nat) : Int) := by rw [w32_id (by omega) (by omega)]; omega
    obtain ⟨x1, x2, x3, x4, x5, x6⟩ := (hRk k).ix k0 kl
    have hko := hok k k0 kl
    have hlen := hw k (Nat.le_of_lt kln)
    have hc := eS_c hko
    have hes : eS T k = srt (T k) ∨ (eS T k = 8 ∧ T k = 45) := by
      unfold eS
      by_cases a : T k = 45 ∧ ¬ kEnd (T ((k : Int) - 1)) = true
      · rw [if_pos a]; exact Or.inr ⟨rfl, a.1⟩
      · rw [if_neg a]; exact Or.inl rfl
    have st1 : VV L (d + 2) m_M_print 30 [some (tA 156), some (tI r), some (tI (jnT T k)), some (tI k), o4, o5, o6] [] (WW F t (PSt 158 156 3 g (prL T k))) Q = VV L (d + 2) m_M_print 68 [some (tA 156), some (tI r), some (tI (jnT T k)), some (tI k), some (tI (eS T k)), some (tI (whc (T k))), o6] [] (WW F t (PSt 158 156 3 g (prL T k))) Q := by
      rw [u_M_print_30]
      simp only [u_M_print_31, u_M_print_32, u_M_print_35, u_M_print_36, u_M_print_37, u_M_print_40, u_M_print_41, u_M_print_44, u_M_print_47, u_M_print_48, u_M_print_49, u_M_print_50, u_M_print_51, u_M_print_52, u_M_print_54, u_M_print_55, u_M_print_58, u_M_print_61, u_M_print_62, u_M_print_63, u_M_print_64, u_M_print_65, u_M_print_66, h1_156, gt_156_24, gt_156_25, gt_156_26, h1_163, h2_163, gt_163, pt_163, h1_164, h2_164, gt_164, pt_164, h1_165, h2_165, gt_165, pt_165, ne_eq, not_false_eq_true, not_true_eq_false, true_and, and_true, true_or, or_true, eq_self, Option.toList_some, Option.toList_none, List.cons_append, List.nil_append, tc_0, tc_I, tc_L, tc_A, Nat.reduceAdd, Nat.reduceLeDiff, Nat.reduceEqDiff, Int.reduceEq, Int.reduceLT, Int.reduceLE, Int.reduceNeg, Int.reduceToNat, Int.cast_ofNat_Int, if_true, if_false, and_self, or_self, ite_self, bI_0, bI_1, bI_01, Bool.false_eq_true, reduceCtorEq, r0, r1, r2, nl, x1, x2, x3, x4, x5, x6]
    obtain ⟨n6, hn6, st2⟩ : ∃ n6 : Int, ((nnT (T k) → n6 = 1) ∧ (¬ nnT (T k) → n6 = 0)) ∧ VV L (d + 2) m_M_print 68 [some (tA 156), some (tI r), some (tI (jnT T k)), some (tI k), some (tI (eS T k)), some (tI (whc (T k))), o6] [] (WW F t (PSt 158 156 3 g (prL T k))) Q = VV L (d + 2) m_M_print 110 [some (tA 156), some (tI r), some (tI (jnT T k)), some (tI k), some (tI (eS T k)), some (tI (whc (T k))), some (tI n6)] [] (WW F t (PSt 158 156 3 g (prL T k))) Q := by
      rcases hc with ⟨c1, c2, _⟩ | ⟨c1, c2, _⟩ | ⟨c1, c2, c3, _⟩
      · refine ⟨0, ⟨fun h => absurd h (by unfold nnT; rw [c2]; decide), fun _ => rfl⟩, ?_⟩
        simp only [u_M_print_68, u_M_print_70, u_M_print_72, u_M_print_75, u_M_print_77, u_M_print_79, u_M_print_82, u_M_print_84, u_M_print_86, u_M_print_89, u_M_print_91, u_M_print_93, u_M_print_96, u_M_print_98, u_M_print_100, u_M_print_103, u_M_print_104, u_M_print_107, u_M_print_108, ne_eq, not_false_eq_true, not_true_eq_false, true_and, and_true, true_or, or_true, eq_self, Option.toList_some, Option.toList_none, List.cons_append, List.nil_append, tc_0, tc_I, tc_L, tc_A, Nat.reduceAdd, Nat.reduceLeDiff, Nat.reduceEqDiff, Int.reduceEq, Int.reduceLT, Int.reduceLE, Int.reduceNeg, Int.reduceToNat, Int.cast_ofNat_Int, if_true, if_false, and_self, or_self, ite_self, bI_0, bI_1, bI_01, Bool.false_eq_true, reduceCtorEq, c1]
      · by_cases hn : nnT (T k)
        · refine ⟨1, ⟨fun _ => rfl, fun h => absurd hn h⟩, ?_⟩
          rw [c1, c2]
          unfold nnT at hn
          rcases hn with h | h | h | h <;> rw [h] <;> simp only [u_M_print_68, u_M_print_70, u_M_print_72, u_M_print_75, u_M_print_77, u_M_print_79, u_M_print_82, u_M_print_84, u_M_print_86, u_M_print_89, u_M_print_91, u_M_print_93, u_M_print_96, u_M_print_98, u_M_print_100, u_M_print_103, u_M_print_104, u_M_print_107, u_M_print_108, ne_eq, not_false_eq_true, not_true_eq_false, true_and, and_true, true_or, or_true, eq_self, Option.toList_some, Option.toList_none, List.cons_append, List.nil_append, tc_0, tc_I, tc_L, tc_A, Nat.reduceAdd, Nat.reduceLeDiff, Nat.reduceEqDiff, Int.reduceEq, Int.reduceLT, Int.reduceLE, Int.reduceNeg, Int.reduceToNat, Int.cast_ofNat_Int, if_true, if_false, and_self, or_self, ite_self, bI_0, bI_1, bI_01, Bool.false_eq_true, reduceCtorEq]
        · refine ⟨0, ⟨fun h => absurd h hn, fun _ => rfl⟩, ?_⟩
          rw [c1, c2]
          unfold nnT at hn
          have n1 : ¬ T k = 59 := fun h => hn (Or.inl h)
          have n2 : ¬ T k = 93 := fun h => hn (Or.inr (Or.inl h))
          have n3 : ¬ T k = 41 := fun h => hn (Or.inr (Or.inr (Or.inl h)))
          have n4 : ¬ T k = 91 := fun h => hn (Or.inr (Or.inr (Or.inr h)))
          simp only [u_M_print_68, u_M_print_70, u_M_print_72, u_M_print_75, u_M_print_77, u_M_print_79, u_M_print_82, u_M_print_84, u_M_print_86, u_M_print_89, u_M_print_91, u_M_print_93, u_M_print_96, u_M_print_98, u_M_print_100, u_M_print_103, u_M_print_104, u_M_print_107, u_M_print_108, ne_eq, not_false_eq_true, not_true_eq_false, true_and, and_true, true_or, or_true, eq_self, Option.toList_some, Option.toList_none, List.cons_append, List.nil_append, tc_0, tc_I, tc_L, tc_A, Nat.reduceAdd, Nat.reduceLeDiff, Nat.reduceEqDiff, Int.reduceEq, Int.reduceLT, Int.reduceLE, Int.reduceNeg, Int.reduceToNat, Int.cast_ofNat_Int, if_true, if_false, and_self, or_self, ite_self, bI_0, bI_1, bI_01, Bool.false_eq_true, reduceCtorEq, n1, n2, n3, n4]
      · refine ⟨0, ⟨fun h => absurd h c3, fun _ => rfl⟩, ?_⟩
        simp only [u_M_print_68, u_M_print_70, u_M_print_72, u_M_print_75, u_M_print_77, u_M_print_79, u_M_print_82, u_M_print_84, u_M_print_86, u_M_print_89, u_M_print_91, u_M_print_93, u_M_print_96, u_M_print_98, u_M_print_100, u_M_print_103, u_M_print_104, u_M_print_107, u_M_print_108, ne_eq, not_false_eq_true, not_true_eq_false, true_and, and_true, true_or, or_true, eq_self, Option.toList_some, Option.toList_none, List.cons_append, List.nil_append, tc_0, tc_I, tc_L, tc_A, Nat.reduceAdd, Nat.reduceLeDiff, Nat.reduceEqDiff, Int.reduceEq, Int.reduceLT, Int.reduceLE, Int.reduceNeg, Int.reduceToNat, Int.cast_ofNat_Int, if_true, if_false, and_self, or_self, ite_self, bI_0, bI_1, bI_01, Bool.false_eq_true, reduceCtorEq, c2]
    have st3 : VV L (d + 2) m_M_print 110 [some (tA 156), some (tI r), some (tI (jnT T k)), some (tI k), some (tI (eS T k)), some (tI (whc (T k))), some (tI n6)] [] (WW F t (PSt 158 156 3 g (prL T k))) Q = VV L (d + 2) m_M_print 125 [some (tA 156), some (tI r), some (tI (jnT T k)), some (tI k), some (tI (eS T k)), some (tI (whc (T k))), some (tI n6)] [] (WW F t (PSt 158 156 3 g (prL T k ++ blk T k))) Q := by
      rcases blk_j (T := T) (k := k) with ⟨b1, b2, b3⟩ | ⟨b1, b2 | ⟨b2, b3⟩⟩
      · rw [b1, b2, hn6.2 b3]
        simp only [u_M_print_110, u_M_print_111, u_M_print_114, u_M_print_116, u_M_print_119, u_M_print_120, u_M_print_122, h1_156, ne_eq, not_false_eq_true, not_true_eq_false, true_and, and_true, true_or, or_true, eq_self, Option.toList_some, Option.toList_none, List.cons_append, List.nil_append, tc_0, tc_I, tc_L, tc_A, Nat.reduceAdd, Nat.reduceLeDiff, Nat.reduceEqDiff, Int.reduceEq, Int.reduceLT, Int.reduceLE, Int.reduceNeg, Int.reduceToNat, Int.cast_ofNat_Int, if_true, if_false, and_self, or_self, ite_self, bI_0, bI_1, bI_01, Bool.false_eq_true, reduceCtorEq, s_M_write (show (prL T k).length < 12000 by omega) (show 32 ≤ (32 : Int) ∧ (32 : Int) ≤ 126 by decide)]
      · rw [b1, b2, List.append_nil]
        simp only [u_M_print_110, u_M_print_111, u_M_print_114, u_M_print_116, u_M_print_119, u_M_print_120, u_M_print_122, ne_eq, not_false_eq_true, not_true_eq_false, true_and, and_true, true_or, or_true, eq_self, Option.toList_some, Option.toList_none, List.cons_append, List.nil_append, tc_0, tc_I, tc_L, tc_A, Nat.reduceAdd, Nat.reduceLeDiff, Nat.reduceEqDiff, Int.reduceEq, Int.reduceLT, Int.reduceLE, Int.reduceNeg, Int.reduceToNat, Int.cast_ofNat_Int, if_true, if_false, and_self, or_self, ite_self, bI_0, bI_1, bI_01, Bool.false_eq_true, reduceCtorEq]
      · rw [b1, b2, hn6.1 b3, List.append_nil]
        simp only [u_M_print_110, u_M_print_111, u_M_print_114, u_M_print_116, u_M_print_119, u_M_print_120, u_M_print_122, ne_eq, not_false_eq_true, not_true_eq_false, true_and, and_true, true_or, or_true, eq_self, Option.toList_some, Option.toList_none, List.cons_append, List.nil_append, tc_0, tc_I, tc_L, tc_A, Nat.reduceAdd, Nat.reduceLeDiff, Nat.reduceEqDiff, Int.reduceEq, Int.reduceLT, Int.reduceLE, Int.reduceNeg, Int.reduceToNat, Int.cast_ofNat_Int, if_true, if_false, and_self, or_self, ite_self, bI_0, bI_1, bI_01, Bool.false_eq_true, reduceCtorEq]
    have hl2 : (prL T k ++ blk T k).length + 10 ≤ 12000 := by
      rw [List.length_append]
      have := blk_len (T := T) (k := k)
      omega
    have st4 : ∀ j2 n6 : Int, VV L (d + 2) m_M_print 125 [some (tA 156), some (tI r), some (tI j2), some (tI k), some (tI (eS T k)), some (tI (whc (T k))), some (tI n6)] [] (WW F t (PSt 158 156 3 g (prL T k ++ blk T k))) Q = VV L (d + 2) m_M_print 30 [some (tA 156), some (tI r), some (tI (jnT T ((k + 1 : Nat) : Int))), some (tI ((k + 1 : Nat) : Int)), some (tI (eS T k)), some (tI (whc (T k))), some (tI n6)] [] (WW F t (PSt 158 156 3 g (prL T (k + 1)))) Q := by
      intro j2 n6
      rw [prL, ← List.append_assoc]
      have hj : jnT T ((k + 1 : Nat) : Int) = if (T k = 45 ∧ ¬ kEnd (T ((k : Int) - 1)) = true) ∨ T k = 91 ∨ T k = 40 ∨ T k = 35 then 1 else 0 := by
        unfold jnT
        rw [if_neg (by omega), show ((k + 1 : Nat) : Int) - 1 = (k : Int) by omega, show ((k + 1 : Nat) : Int) - 2 = (k : Int) - 1 by omega]
      rw [hj]
      have sp : VV L (d + 2) m_M_print 125 [some (tA 156), some (tI r), some (tI j2), some (tI k), some (tI (eS T k)), some (tI (whc (T k))), some (tI n6)] [] (WW F t (PSt 158 156 3 g (prL T k ++ blk T k))) Q = VV L (d + 2) m_M_print 133 [some (tA 156), some (tI r), some (tI j2), some (tI k), some (tI (eS T k)), some (tI (whc (T k))), some (tI n6)] [] (WW F t (PSt 158 156 3 g (prL T k ++ blk T k ++ ptk (T k)))) Q := by
        simp only [u_M_print_125, u_M_print_126, u_M_print_128, u_M_print_130, h1_156, ne_eq, not_false_eq_true, not_true_eq_false, true_and, and_true, true_or, or_true, eq_self, Option.toList_some, Option.toList_none, List.cons_append, List.nil_append, tc_0, tc_I, tc_L, tc_A, Nat.reduceAdd, Nat.reduceLeDiff, Nat.reduceEqDiff, Int.reduceEq, Int.reduceLT, Int.reduceLE, Int.reduceNeg, Int.reduceToNat, Int.cast_ofNat_Int, if_true, if_false, and_self, or_self, ite_self, bI_0, bI_1, bI_01, Bool.false_eq_true, reduceCtorEq, s_M_putToken hko hes hl2]
      rw [sp]
      rcases hc with ⟨c1, c2, c3⟩ | ⟨c1, c2, c3⟩ | ⟨c1, c2, c3, c4, c5, c6, c7⟩
      · rw [if_pos (Or.inl ⟨c2, c3⟩)]
        simp only [u_M_print_133, u_M_print_135, u_M_print_137, u_M_print_140, u_M_print_142, u_M_print_144, u_M_print_147, u_M_print_149, u_M_print_151, u_M_print_154, u_M_print_156, u_M_print_158, u_M_print_161, u_M_print_163, u_M_print_165, u_M_print_168, u_M_print_169, u_M_print_172, u_M_print_173, u_M_print_174, u_M_print_177, ne_eq, not_false_eq_true, not_true_eq_false, true_and, and_true, true_or, or_true, eq_self, Option.toList_some, Option.toList_none, List.cons_append, List.nil_append, tc_0, tc_I, tc_L, tc_A, Nat.reduceAdd, Nat.reduceLeDiff, Nat.reduceEqDiff, Int.reduceEq, Int.reduceLT, Int.reduceLE, Int.reduceNeg, Int.reduceToNat, Int.cast_ofNat_Int, if_true, if_false, and_self, or_self, ite_self, bI_0, bI_1, bI_01, Bool.false_eq_true, reduceCtorEq, c1, wk]
      · by_cases h3 : T k = 91 ∨ T k = 40 ∨ T k = 35
        · rw [if_pos (Or.inr h3)]
          have hw3 : whc (T k) = 91 ∨ whc (T k) = 40 ∨ whc (T k) = 35 := by rw [c2]; exact h3
          rcases hw3 with h | h | h <;> simp only [u_M_print_133, u_M_print_135, u_M_print_137, u_M_print_140, u_M_print_142, u_M_print_144, u_M_print_147, u_M_print_149, u_M_print_151, u_M_print_154, u_M_print_156, u_M_print_158, u_M_print_161, u_M_print_163, u_M_print_165, u_M_print_168, u_M_print_169, u_M_print_172, u_M_print_173, u_M_print_174, u_M_print_177, ne_eq, not_false_eq_true, not_true_eq_false, true_and, and_true, true_or, or_true, eq_self, Option.toList_some, Option.toList_none, List.cons_append, List.nil_append, tc_0, tc_I, tc_L, tc_A, Nat.reduceAdd, Nat.reduceLeDiff, Nat.reduceEqDiff, Int.reduceEq, Int.reduceLT, Int.reduceLE, Int.reduceNeg, Int.reduceToNat, Int.cast_ofNat_Int, if_true, if_false, and_self, or_self, ite_self, bI_0, bI_1, bI_01, Bool.false_eq_true, reduceCtorEq, c1, h, wk]
        · rw [if_neg (fun h => h.elim (fun h => h.2 (c3 h.1)) h3)]
          have m1 : ¬ whc (T k) = 91 := fun h => h3 (Or.inl (by rw [← c2]; exact h))
          have m2 : ¬ whc (T k) = 40 := fun h => h3 (Or.inr (Or.inl (by rw [← c2]; exact h)))
          have m3 : ¬ whc (T k) = 35 := fun h => h3 (Or.inr (Or.inr (by rw [← c2]; exact h)))
          simp only [u_M_print_133, u_M_print_135, u_M_print_137, u_M_print_140, u_M_print_142, u_M_print_144, u_M_print_147, u_M_print_149, u_M_print_151, u_M_print_154, u_M_print_156, u_M_print_158, u_M_print_161, u_M_print_163, u_M_print_165, u_M_print_168, u_M_print_169, u_M_print_172, u_M_print_173, u_M_print_174, u_M_print_177, ne_eq, not_false_eq_true, not_true_eq_false, true_and, and_true, true_or, or_true, eq_self, Option.toList_some, Option.toList_none, List.cons_append, List.nil_append, tc_0, tc_I, tc_L, tc_A, Nat.reduceAdd, Nat.reduceLeDiff, Nat.reduceEqDiff, Int.reduceEq, Int.reduceLT, Int.reduceLE, Int.reduceNeg, Int.reduceToNat, Int.cast_ofNat_Int, if_true, if_false, and_self, or_self, ite_self, bI_0, bI_1, bI_01, Bool.false_eq_true, reduceCtorEq, c1, m1, m2, m3, wk]
      · rw [if_neg (fun h => h.elim (fun h => c6 h.1) (fun h => h.elim c7 (fun h => h.elim c4 c5)))]
        simp only [u_M_print_133, u_M_print_135, u_M_print_137, u_M_print_140, u_M_print_142, u_M_print_144, u_M_print_147, u_M_print_149, u_M_print_151, u_M_print_154, u_M_print_156, u_M_print_158, u_M_print_161, u_M_print_163, u_M_print_165, u_M_print_168, u_M_print_169, u_M_print_172, u_M_print_173, u_M_print_174, u_M_print_177, ne_eq, not_false_eq_true, not_true_eq_false, true_and, and_true, true_or, or_true, eq_self, Option.toList_some, Option.toList_none, List.cons_append, List.nil_append, tc_0, tc_I, tc_L, tc_A, Nat.reduceAdd, Nat.reduceLeDiff, Nat.reduceEqDiff, Int.reduceEq, Int.reduceLT, Int.reduceLE, Int.reduceNeg, Int.reduceToNat, Int.cast_ofNat_Int, if_true, if_false, and_self, or_self, ite_self, bI_0, bI_1, bI_01, Bool.false_eq_true, reduceCtorEq, c1, c2, wk]
    rw [st1, st2, st3, st4]
    exact ih (k + 1) _ _ _ (by omega)
theorem B_print {k : Int} : Both tI m_T_print [some (tA 1), some (tI k)] m_M_print [some (tA 156), some (tI k), none, none, none, none, none] := by
  refine Both_of (fun L d X TH f t g Q hR hQ => ?_)
  by_cases hk : 0 ≤ k ∧ k ≤ 9
  · have hk' : 0 ≤ k ∧ k < 10 := by omega
    obtain ⟨r, rfl⟩ : ∃ n : Nat, k = (n : Int) := ⟨k.toNat, by omega⟩
    have hr : r < 10 := by omega
    have hT := hR.tx.tc.tt r hr
    have a0 := xT_0 hT
    have hra : (f 3 r).toNat = aT f r := rfl
    have tha := hR.tx.tm.th r hr
    rcases hR.tx.tc.th r hr with h | h
    · rw [h] at tha
      simp only [u_T_print_0, u_T_print_1, u_T_print_4, u_T_print_7, u_T_print_8, u_T_print_9, u_T_print_10, u_T_print_13, u_T_print_14, u_T_print_15, u_T_print_18, u_T_print_21, u_T_print_23, u_T_print_24, u_T_print_25, u_T_print_28, u_T_print_29, u_T_print_32, u_T_print_33, u_T_print_34, u_T_print_37, u_T_print_38, u_T_print_41, u_T_print_44, h1_1, gt_1_2, h1_3, h2_3, gt_3, pt_3, xT_h1, ne_eq, not_false_eq_true, not_true_eq_false, true_and, and_true, true_or, or_true, eq_self, Option.toList_some, Option.toList_none, List.cons_append, List.nil_append, tc_0, tc_I, tc_L, tc_A, Nat.reduceAdd, Nat.reduceLeDiff, Nat.reduceEqDiff, Int.reduceEq, Int.reduceLT, Int.reduceLE, Int.reduceNeg, Int.reduceToNat, Int.cast_ofNat_Int, if_true, if_false, and_self, or_self, ite_self, bI_0, bI_1, bI_01, Bool.false_eq_true, reduceCtorEq, s_T_isRoutine, hk', and_self, decide_true, bB_t, Int.toNat_natCast, hra, a0, hT, s_Tx_isThere hT (Or.inl h), h]
      refine hQ _ f t (RefP_0 hR (fun L d Q => ?_))
      simp only [u_M_print_0, u_M_print_1, u_M_print_4, u_M_print_7, u_M_print_8, u_M_print_9, u_M_print_10, u_M_print_13, u_M_print_14, u_M_print_15, u_M_print_18, u_M_print_20, h1_156, gt_156_22, h1_161, h2_161, gt_161, pt_161, ne_eq, not_false_eq_true, not_true_eq_false, true_and, and_true, true_or, or_true, eq_self, Option.toList_some, Option.toList_none, List.cons_append, List.nil_append, tc_0, tc_I, tc_L, tc_A, Nat.reduceAdd, Nat.reduceLeDiff, Nat.reduceEqDiff, Int.reduceEq, Int.reduceLT, Int.reduceLE, Int.reduceNeg, Int.reduceToNat, Int.cast_ofNat_Int, if_true, if_false, and_self, or_self, ite_self, bI_0, bI_1, bI_01, Bool.false_eq_true, reduceCtorEq, s_M_isRoutine, hk, hk', and_self, decide_true, bB_t, Int.toNat_natCast, ← tha]
    · rw [h] at tha
      have hx := hR.tx.tc.ok r hr h
      have hy := hR.tx.tm.ok r hr h
      have hz := hR.tx.tk r hr h
      have hrt := hy.rt
      have ln := hx.ln
      have l1 := hx.l1
      have hok : ∀ k : Int, 0 ≤ k → k < ((kB 6 (X r).2.2).length : Int) → okT (tok t (aT f r) k) := fun k h0 h1 => TCo_ok hx h0 (by rw [ln]; exact h1)
      have hsg := hx.sg.2
      rw [ln, show (((kB 6 (X r).2.2).length : Int) - 0).toNat = (kB 6 (X r).2.2).length by omega] at hsg
      have hw4 := hz.w
      rw [hsg] at hw4
      have hl1 : (kB 6 (X r).2.2).length ≤ 1000 := by omega
      generalize (kB 6 (X r).2.2).length = len at *
      have mono : ∀ m k, k + m = len → wtL (tks (tok t (aT f r)) 0 k) ≤ 4000 := by
        intro m
        induction m with
        | zero => intro k hk; rw [show k = len by omega]; exact hw4
        | succ m ih =>
          intro k hk
          have := ih (k + 1) (by omega)
          rw [tks_s, wtL_a] at this
          omega
      have hpl : ∀ k, k ≤ len → (prL (tok t (aT f r)) k).length ≤ 4000 := fun k hk => Nat.le_trans (prL_w hok k hk).1 (mono (len - k) k (by omega))
      have hC := fun (D : Nat) (Q : Option TV → Wd → Prop) => l_prC (L := L) (d := D) (f := f) (t := t) (g := g) (Q := Q) hT ln hl1 hok hw4 len 0 (Nat.zero_add _)
      have hWr : ∀ (D : Nat) (Q : Option TV → Wd → Prop), VV L (D + 3) m_Pr_write 0 [some (tA 16), some (tA (aT f r)), none] [] (WW f t g) Q = Q none (WW (PSt 17 16 1 f (prL (tok t (aT f r)) len)) t g) := fun D Q => by
        rw [← hC D Q]
        simp only [u_Pr_write_0, u_Pr_write_1, u_Pr_write_2, u_Pr_write_5, u_Pr_write_6, h1_16, pt_16_1, ne_eq, not_false_eq_true, not_true_eq_false, true_and, and_true, true_or, or_true, eq_self, Option.toList_some, Option.toList_none, List.cons_append, List.nil_append, tc_0, tc_I, tc_L, tc_A, Nat.reduceAdd, Nat.reduceLeDiff, Nat.reduceEqDiff, Int.reduceEq, Int.reduceLT, Int.reduceLE, Int.reduceNeg, Int.reduceToNat, Int.cast_ofNat_Int, if_true, if_false, and_self, or_self, ite_self, bI_0, bI_1, bI_01, Bool.false_eq_true, reduceCtorEq]
        rw [PS_0 (a := 17)]
        rfl
      have e16 := PS_e (a := 17) (e := 16) (k := 1) (f := f) (l := prL (tok t (aT f r)) len) (by decide)
      simp only [u_T_print_0, u_T_print_1, u_T_print_4, u_T_print_7, u_T_print_8, u_T_print_9, u_T_print_10, u_T_print_13, u_T_print_14, u_T_print_15, u_T_print_18, u_T_print_21, u_T_print_23, u_T_print_24, u_T_print_25, u_T_print_28, u_T_print_29, u_T_print_32, u_T_print_33, u_T_print_34, u_T_print_37, u_T_print_38, u_T_print_41, u_T_print_44, h1_1, gt_1_2, gt_1_5, h1_3, h2_3, gt_3, pt_3, xT_h1, h1_16, ne_eq, not_false_eq_true, not_true_eq_false, true_and, and_true, true_or, or_true, eq_self, Option.toList_some, Option.toList_none, List.cons_append, List.nil_append, tc_0, tc_I, tc_L, tc_A, Nat.reduceAdd, Nat.reduceLeDiff, Nat.reduceEqDiff, Int.reduceEq, Int.reduceLT, Int.reduceLE, Int.reduceNeg, Int.reduceToNat, Int.cast_ofNat_Int, if_true, if_false, and_self, or_self, ite_self, bI_0, bI_1, bI_01, Bool.false_eq_true, reduceCtorEq, s_T_isRoutine, hk', and_self, decide_true, bB_t, Int.toNat_natCast, hra, a0, hT, s_Tx_isThere hT (Or.inr h), h, hWr, u_Pr_length_0, u_Pr_length_1, u_Pr_length_4, h1_16, gt_16_1, pt_16_1, e16]
      refine hQ _ _ t (fun L d Q hq => ?_)
      have hM := l_prM (L := L) (d := d + 198) (F := PSt 17 16 1 f (prL (tok t (aT f r)) len)) (t := t) (Q := Q) hrt hok hpl len 0 none none none (Nat.zero_add _)
      have hst : VV L (d + 200) m_M_print 0 [some (tA 156), some (tI r), none, none, none, none, none] [] (WW (PSt 17 16 1 f (prL (tok t (aT f r)) len)) t g) Q = VV L (d + 198 + 2) m_M_print 30 [some (tA 156), some (tI r), some (tI (jnT (tok t (aT f r)) ((0 : Nat) : Int))), some (tI ((0 : Nat) : Int)), none, none, none] [] (WW (PSt 17 16 1 f (prL (tok t (aT f r)) len)) t (PSt 158 156 3 g (prL (tok t (aT f r)) 0))) Q := by
        simp only [u_M_print_0, u_M_print_1, u_M_print_4, u_M_print_7, u_M_print_8, u_M_print_9, u_M_print_10, u_M_print_13, u_M_print_14, u_M_print_15, u_M_print_18, u_M_print_20, u_M_print_21, u_M_print_22, u_M_print_23, u_M_print_26, u_M_print_27, u_M_print_28, u_M_print_29, h1_156, gt_156_22, pt_156_3, h1_161, h2_161, gt_161, pt_161, ne_eq, not_false_eq_true, not_true_eq_false, true_and, and_true, true_or, or_true, eq_self, Option.toList_some, Option.toList_none, List.cons_append, List.nil_append, tc_0, tc_I, tc_L, tc_A, Nat.reduceAdd, Nat.reduceLeDiff, Nat.reduceEqDiff, Int.reduceEq, Int.reduceLT, Int.reduceLE, Int.reduceNeg, Int.reduceToNat, Int.cast_ofNat_Int, if_true, if_false, and_self, or_self, ite_self, bI_0, bI_1, bI_01, Bool.false_eq_true, reduceCtorEq, s_M_isRoutine, hk, hk', and_self, decide_true, bB_t, Int.toNat_natCast, ← tha]
        rw [PS_0 (a := 158)]
        rfl
      rw [hst, hM]
      have cO : ∀ b j, ¬ b = 17 → ¬ (b = 16 ∧ j = 1) → PSt 17 16 1 f (prL (tok t (aT f r)) len) b j = f b j := fun b j h1 h2 => PS_o h1 h2
      have mO : ∀ b j, ¬ b = 158 → ¬ (b = 156 ∧ j = 3) → PSt 158 156 3 g (prL (tok t (aT f r)) len) b j = g b j := fun b j h1 h2 => PS_o h1 h2
      have hlen := hpl len (Nat.le_refl _)
      refine hq _ ⟨X, TH, RelX_mk ⟨Rtape_fr hR.tp (fun b j hh => cO b j (by omega) (by omega)) (fun b j hh => mO b j (by omega) (by omega)), Rtext_fr hR.tx (fun b j hh => cO b j (by omega) (by omega)) (fun b j hh => mO b j (by omega) (by omega)), ⟨?_, ?_, fun i hi => ?_⟩, RSt_fr2 hR.st (fun b j _ _ => cO b j (by omega) (by omega)) (fun b j hh => mO b j (by omega) (by omega)), RC_fr hR.rc (hC_15 hR.st) (fun b j _ _ => cO b j (by omega) (by omega)), Rrun_fr hR.rn (fun b j hh => cO b j (by omega) (by omega)) (fun b j hh => mO b j (by omega) (by omega)), Rflt_fr hR.fl (fun b j hh => cO b j (by omega) (by omega)) (fun b j hh => mO b j (by omega) (by omega))⟩⟩ (fun j => mO 900 j (by omega) (by omega))
      · rw [e16, PS_e (by decide)]
      · rw [e16]; omega
      · rw [e16] at hi
        have hil : i < (prL (tok t (aT f r)) len).length := by omega
        rw [PS_v hil, PS_v hil]
        refine ⟨rfl, (prL_w hok len (Nat.le_refl _)).2 _ ?_⟩
        rw [List.getD_eq_getElem?_getD, List.getElem?_eq_getElem hil]
        exact List.getElem_mem hil
  · have hk' : ¬ (0 ≤ k ∧ k < 10) := by omega
    simp only [u_T_print_0, u_T_print_1, u_T_print_4, u_T_print_7, u_T_print_8, u_T_print_9, u_T_print_10, u_T_print_13, u_T_print_14, u_T_print_15, u_T_print_18, u_T_print_21, u_T_print_23, u_T_print_24, u_T_print_25, u_T_print_28, u_T_print_29, u_T_print_32, u_T_print_33, u_T_print_34, u_T_print_37, u_T_print_38, u_T_print_41, u_T_print_44, ne_eq, not_false_eq_true, not_true_eq_false, true_and, and_true, true_or, or_true, eq_self, Option.toList_some, Option.toList_none, List.cons_append, List.nil_append, tc_0, tc_I, tc_L, tc_A, Nat.reduceAdd, Nat.reduceLeDiff, Nat.reduceEqDiff, Int.reduceEq, Int.reduceLT, Int.reduceLE, Int.reduceNeg, Int.reduceToNat, Int.cast_ofNat_Int, if_true, if_false, and_self, or_self, ite_self, bI_0, bI_1, bI_01, Bool.false_eq_true, reduceCtorEq, s_T_isRoutine, hk', decide_false, bB_f]
    refine hQ _ f t (RefP_0 hR (fun L d Q => ?_))
    simp only [u_M_print_0, u_M_print_1, u_M_print_4, u_M_print_7, u_M_print_8, ne_eq, not_false_eq_true, not_true_eq_false, true_and, and_true, true_or, or_true, eq_self, Option.toList_some, Option.toList_none, List.cons_append, List.nil_append, tc_0, tc_I, tc_L, tc_A, Nat.reduceAdd, Nat.reduceLeDiff, Nat.reduceEqDiff, Int.reduceEq, Int.reduceLT, Int.reduceLE, Int.reduceNeg, Int.reduceToNat, Int.cast_ofNat_Int, if_true, if_false, and_self, or_self, ite_self, bI_0, bI_1, bI_01, Bool.false_eq_true, reduceCtorEq, s_M_isRoutine, hk, decide_false, bB_f]
end
