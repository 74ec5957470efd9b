/-! Reader.reads -/
def Tk (y : Int → Int) (len : Nat) (k : Int) : Int := if 0 ≤ k ∧ k < len then tv y (sk y (eN y k.toNat)) else 0
theorem tok_Tk {y : Int → Int} {t : Mem} {a len : Nat} : tok (lxT y t a len) a = Tk y len := by
  funext k; exact tok_lx
/-- the tape's bytes are such as may stand there -/
def okY (f : Mem) (n : Int) : Prop := ∀ i : Nat, (i : Int) < n → 32 ≤ f 2 i ∧ f 2 i ≤ 126
theorem keyR_b {y : Int → Int} {fr en : Int} : ∀ (m : Nat) (k : Int), 0 ≤ k → 1 ≤ keyR y fr en m k := by
  intro m
  induction m with
  | zero => intro k h; unfold keyR; omega
  | succ m ih =>
    intro k h
    unfold keyR
    split
    · have := Int.tdiv_eq_ediv_of_nonneg (b := 6) h; omega
    · exact ih (k + 6) (by omega)
theorem pr2_b {a b : Int} : 1 ≤ pr2 a b ∧ pr2 a b ≤ 133 := by unfold pr2; (repeat' split) <;> omega
theorem tv_low {f : Mem} {n i : Int} (hy : okY f n) (hn : n ≤ 600) (h0 : 0 ≤ i) (h1 : i < n) : -1000000000 ≤ tv (yb f n) i ∧ ¬ tv (yb f n) i = 0 := by
  have hb := te_b (f := f) hn h0 h1
  have hyi : yb f n i = f 2 i.toNat := by unfold yb; rw [if_pos (by omega)]
  have h2 := hy i.toNat (by omega)
  unfold tv
  split
  · rename_i hd
    have h1' : te (yb f n) i = spF kDig (yb f n) 8 (i + 1) := by
      unfold te
      rw [if_neg (by unfold kDig at hd; unfold kName; simp at hd ⊢; omega), if_pos hd]
    have hg := spF_ge (p := kDig) (y := yb f n) 8 (i + 1)
    have := numF_b (y := yb f n) (te (yb f n) i - i).toNat i 0 (by omega) (by omega) (by have := bnd_9 (te (yb f n) i - i).toNat (by omega); omega) (fun j hj1 hj2 => by
      have : kDig (yb f n j) = true := by
        by_cases e : j = i
        · subst e; exact hd
        · exact spF_all (p := kDig) (y := yb f n) 8 (i + 1) j (by omega) (by omega)
      unfold kDig at this; simp at this; omega)
    omega
  · split
    · omega
    · split
      · unfold keyC
        split
        · omega
        · have := keyR_b (y := yb f n) (fr := i) (en := te (yb f n) i) 22 0 (by omega); omega
      · have := pr2_b (a := yb f n i) (b := yb f n (i + 1)); omega
/-- what a split comes to -/
def Lexd (y : Int → Int) (n : Int) (len : Nat) : Prop := (len : Int) ≤ n ∧ sk y (eN y len) = n ∧ (∀ k, k < len → 0 ≤ sk y (eN y k) ∧ sk y (eN y k) < n)
theorem Tk_low {f : Mem} {n : Int} {len : Nat} (hy : okY f n) (hn : n ≤ 600) (hL : Lexd (yb f n) n len) (k : Int) : -2000000000 ≤ Tk (yb f n) len k := by
  unfold Tk
  split
  · have h := hL.2.2 k.toNat (by omega)
    have := tv_low hy hn h.1 h.2
    omega
  · omega
theorem lxB_sz {y : Int → Int} {f : Mem} {σ : Sg} {i : Int} {k : Nat} : lxB y (mset (sz f σ) 14 2 i) k = mset (sz (lxB y f k) σ) 14 2 i := by
  funext b j; simp only [lxB, sz, rd]; grind
/-- the reader's fields as it begins -/
def rd0 (f : Mem) (a : Nat) : Mem := mset (mset (mset f 14 1 a) 14 3 0) 14 4 0
section
variable {L d a c : Nat} {f t g : Mem} {Q : Option TV → Wd → Prop} {n : Int}
theorem s_Re_reads (hT : isT a) (hc : c = 8) (hn0 : 0 ≤ n) (hn : n ≤ 600) (hy : okY f n) (hQ : ∀ len, Lexd (yb f n) n len → resS (lxB (yb f n) (rd0 f a) (len + 1)) (lxT (yb f n) t a len) g Q (pTop c (Tk (yb f n) len))) : VV L (d + 100) m_Re_reads 0 [some (tA 14), some (tA 2), some (tI n), some (tA a)] [] (WW f t g) Q := by
  have hf0 : mset (mset (mset (mset (mset (mset (mset f 14 1 a) 14 2 0) 14 3 0) 14 4 0) 14 5 0) 14 6 0) 14 7 0 = mset (sz (rd0 f a) (0, 0, 0)) 14 2 0 := by
    funext b j; simp only [rd0, sz, rd]; grind
  have hyb : yb (mset (sz (rd0 f a) (0, 0, 0)) 14 2 0) n = yb f n := by
    funext j; unfold yb; simp only [rd0, sz, rd, Nat.reduceEqDiff, false_and, if_false]
  have hX : ((mset (sz (rd0 f a) (0, 0, 0)) 14 2 0) 14 1).toNat = a := by simp [rd0, sz, rd]
  have hX2 : ∀ k, ((lxB (yb f n) (rd0 f a) k) 14 1).toNat = a := by intro k; rw [lxB_c (by omega)]; simp [rd0, rd]
  have ha0 : ¬ a = 0 := xT_0 hT
  simp only [u_Re_reads_0, u_Re_reads_1, u_Re_reads_2, u_Re_reads_5, u_Re_reads_6, u_Re_reads_7, u_Re_reads_10, u_Re_reads_11, u_Re_reads_12, u_Re_reads_15, u_Re_reads_16, u_Re_reads_17, u_Re_reads_20, u_Re_reads_21, u_Re_reads_22, u_Re_reads_25, u_Re_reads_26, u_Re_reads_27, u_Re_reads_30, u_Re_reads_31, u_Re_reads_32, u_Re_reads_35, u_Re_reads_36, u_Re_reads_37, u_Re_reads_38, u_Re_reads_39, u_Re_reads_40, u_Re_reads_43, u_Re_reads_46, u_Re_reads_47, u_Re_reads_48, u_Re_reads_51, h1_14, gt_14_1, pt_14_1, gt_14_2, pt_14_2, gt_14_3, pt_14_3, gt_14_4, pt_14_4, gt_14_5, pt_14_5, gt_14_6, pt_14_6, gt_14_7, pt_14_7, ne_eq, not_false_eq_true, not_true_eq_false, true_and, and_true, true_or, or_true, eq_self, Option.toList_some, Option.toList_none, List.cons_append, List.nil_append, tc_0, tc_I, tc_L, tc_A, Nat.reduceAdd, Nat.reduceLeDiff, Nat.reduceEqDiff, Int.reduceEq, Int.reduceLT, Int.reduceLE, Int.reduceNeg, Int.reduceToNat, Int.cast_ofNat_Int, if_true, if_false, and_self, or_self, ite_self, bI_0, bI_1, bI_01, Bool.false_eq_true, reduceCtorEq, h1_2, h2_2, gt_2, pt_2, ha0, hf0, show ¬ (600 : Int) < n by omega, show (if (600 : Int) < n then (600 : Int) else n) = n from if_neg (by omega)]
  simp only [u_Re_split_0, u_Re_split_1, u_Re_split_4, u_Re_split_7, u_Re_split_8, u_Re_split_9, u_Re_split_10, u_Re_split_14, u_Re_split_17, u_Re_split_20, u_Re_split_21, u_Re_split_22, u_Re_split_25, u_Re_split_26, u_Re_split_27, u_Re_split_28, u_Re_split_30, u_Re_split_31, u_Re_split_32, u_Re_split_33, u_Re_split_35, u_Re_split_38, u_Re_split_39, u_Re_split_40, u_Re_split_41, u_Re_split_44, u_Re_split_46, u_Re_split_47, u_Re_split_48, u_Re_split_51, u_Re_split_52, u_Re_split_55, u_Re_split_56, u_Re_split_57, u_Re_split_59, u_Re_split_62, u_Re_split_65, u_Re_split_67, u_Re_split_68, u_Re_split_71, u_Re_split_74, u_Re_split_75, u_Re_split_76, u_Re_split_79, h1_14, gt_14_1, pt_14_1, xT_0, xT_h1, ne_eq, not_false_eq_true, not_true_eq_false, true_and, and_true, true_or, or_true, eq_self, Option.toList_some, Option.toList_none, List.cons_append, List.nil_append, tc_0, tc_I, tc_L, tc_A, Nat.reduceAdd, Nat.reduceLeDiff, Nat.reduceEqDiff, Int.reduceEq, Int.reduceLT, Int.reduceLE, Int.reduceNeg, Int.reduceToNat, Int.cast_ofNat_Int, if_true, if_false, and_self, or_self, ite_self, bI_0, bI_1, bI_01, Bool.false_eq_true, reduceCtorEq, hT, hX, s_Tx_clear hT]
  rw [lxB_0 (y := yb f n) (f := mset (sz (rd0 f a) (0, 0, 0)) 14 2 0), lxT_0 (y := yb f n)]
  have key := fun Q => l_Re_split (L := L) (d := d + 95) (f := mset (sz (rd0 f a) (0, 0, 0)) 14 2 0) (t := t) (g := g) (n := n) (Q := Q) hT hX hn
  simp only [hyb] at key
  refine key _ ?_ n.toNat 0 0 0 _ (by omega) (by omega) (by omega) (by omega) (by omega) rfl (fun k hk => absurd hk (by omega))
  intro len h1 h2 h3
  have hL : Lexd (yb f n) n len := ⟨h1, h2, h3⟩
  have hl : lxT (yb f n) t a len a 1 ≤ 1000 := by rw [lxT_a1]; omega
  have hlow : ∀ k, -2000000000 ≤ tok (lxT (yb f n) t a len) a k := by rw [tok_Tk]; exact Tk_low hy hn hL
  simp only [u_Re_reads_0, u_Re_reads_1, u_Re_reads_2, u_Re_reads_5, u_Re_reads_6, u_Re_reads_7, u_Re_reads_10, u_Re_reads_11, u_Re_reads_12, u_Re_reads_15, u_Re_reads_16, u_Re_reads_17, u_Re_reads_20, u_Re_reads_21, u_Re_reads_22, u_Re_reads_25, u_Re_reads_26, u_Re_reads_27, u_Re_reads_30, u_Re_reads_31, u_Re_reads_32, u_Re_reads_35, u_Re_reads_36, u_Re_reads_37, u_Re_reads_38, u_Re_reads_39, u_Re_reads_40, u_Re_reads_43, u_Re_reads_46, u_Re_reads_47, u_Re_reads_48, u_Re_reads_51, h1_14, gt_14_1, pt_14_1, gt_14_2, pt_14_2, gt_14_3, pt_14_3, gt_14_4, pt_14_4, gt_14_5, pt_14_5, gt_14_6, pt_14_6, gt_14_7, pt_14_7, ne_eq, not_false_eq_true, not_true_eq_false, true_and, and_true, true_or, or_true, eq_self, Option.toList_some, Option.toList_none, List.cons_append, List.nil_append, tc_0, tc_I, tc_L, tc_A, Nat.reduceAdd, Nat.reduceLeDiff, Nat.reduceEqDiff, Int.reduceEq, Int.reduceLT, Int.reduceLE, Int.reduceNeg, Int.reduceToNat, Int.cast_ofNat_Int, if_true, if_false, and_self, or_self, ite_self, bI_0, bI_1, bI_01, Bool.false_eq_true, reduceCtorEq, u_Re_steps_0, u_Re_steps_1, u_Re_steps_3, u_Re_steps_6, u_Re_steps_9, u_Re_steps_10, u_Re_steps_13, u_Re_steps_14, u_Re_steps_17, u_Re_steps_20, u_Re_steps_21, u_Re_steps_22, u_Re_steps_25, u_Re_steps_26, u_Re_steps_29, u_Re_steps_32, u_Re_steps_33, u_Re_steps_35, u_Re_steps_38, u_Re_steps_39, u_Re_steps_40, u_Re_steps_41, u_Re_steps_42, u_Re_steps_45, u_Re_steps_48, u_Re_steps_49, u_Re_steps_50, u_Re_steps_53, u_Re_steps_56, u_Re_steps_57, u_Re_steps_58, u_Re_steps_59, u_Re_steps_62, u_Re_steps_65, h1_14, gt_14_1, pt_14_1, gt_14_2, pt_14_2, xT_0, xT_h1, lxB_sz]
  have hst : ∀ (i : Int) (σ : Sg) (f' : Mem) (Q : Option TV → Wd → Prop), okSg σ → (f' 14 1).toNat = a → VV L (d + 97 + 1) m_Re_step 0 [some (tA 14), some (tI 0), none, none] [] (WW (mset (sz f' σ) 14 2 i) (lxT (yb f n) t a len) g) Q = resS f' (lxT (yb f n) t a len) g Q (pStep c (Tk (yb f n) len) (pPt c (Tk (yb f n) len) 5) i σ) := by
    intro i σ f' Q hσ hX
    rw [← tok_Tk (t := t) (a := a)]
    exact s_Re_step (d := d + 52) hT hl hc hX hlow (fun i σ f Q hσ hX => s_Re_part hT hl hc hlow 5 (by omega) _ 0 (by omega) (by omega) i σ f Q hσ hX) (fun i σ f Q hσ hX => s_Re_part hT hl hc hlow 5 (by omega) _ 0 (by omega) (by omega) i σ f Q hσ hX) hσ (pPt_ok 5)
  have hfin := fun Q => l_Re_steps (L := L) (D := d + 97) (b := 0) (stop := 0) (t := lxT (yb f n) t a len) (g := g) hT hl (Or.inl ⟨rfl, rfl⟩) (pStep_ok (pPt_ok 5)) hst 601 0 0 (0, 0, 0) none (lxB (yb f n) (rd0 f a) (len + 1)) Q (by omega) (by omega) ⟨Or.inl rfl, Or.inl rfl, by decide, by decide⟩ (hX2 _)
  rw [hfin, tok_Tk]
  have := hQ len hL
  unfold pTop at this
  revert this
  cases pStps (Tk (yb f n) len) (pStep c (Tk (yb f n) len) (pPt c (Tk (yb f n) len) 5)) 0 601 0 (0, 0, 0) with
  | error e =>
    obtain ⟨e, σ⟩ := e
    intro this
    simp only [resS_er, u_Re_reads_0, u_Re_reads_1, u_Re_reads_2, u_Re_reads_5, u_Re_reads_6, u_Re_reads_7, u_Re_reads_10, u_Re_reads_11, u_Re_reads_12, u_Re_reads_15, u_Re_reads_16, u_Re_reads_17, u_Re_reads_20, u_Re_reads_21, u_Re_reads_22, u_Re_reads_25, u_Re_reads_26, u_Re_reads_27, u_Re_reads_30, u_Re_reads_31, u_Re_reads_32, u_Re_reads_35, u_Re_reads_36, u_Re_reads_37, u_Re_reads_38, u_Re_reads_39, u_Re_reads_40, u_Re_reads_43, u_Re_reads_46, u_Re_reads_47, u_Re_reads_48, u_Re_reads_51, h1_14, gt_14_1, pt_14_1, gt_14_2, pt_14_2, gt_14_3, pt_14_3, gt_14_4, pt_14_4, gt_14_5, pt_14_5, gt_14_6, pt_14_6, gt_14_7, pt_14_7, ne_eq, not_false_eq_true, not_true_eq_false, true_and, and_true, true_or, or_true, eq_self, Option.toList_some, Option.toList_none, List.cons_append, List.nil_append, tc_0, tc_I, tc_L, tc_A, Nat.reduceAdd, Nat.reduceLeDiff, Nat.reduceEqDiff, Int.reduceEq, Int.reduceLT, Int.reduceLE, Int.reduceNeg, Int.reduceToNat, Int.cast_ofNat_Int, if_true, if_false, and_self, or_self, ite_self, bI_0, bI_1, bI_01, Bool.false_eq_true, reduceCtorEq]
    exact this
  | ok z =>
    obtain ⟨l, j, σ⟩ := z
    intro this
    simp only [resS_ok, u_Re_reads_0, u_Re_reads_1, u_Re_reads_2, u_Re_reads_5, u_Re_reads_6, u_Re_reads_7, u_Re_reads_10, u_Re_reads_11, u_Re_reads_12, u_Re_reads_15, u_Re_reads_16, u_Re_reads_17, u_Re_reads_20, u_Re_reads_21, u_Re_reads_22, u_Re_reads_25, u_Re_reads_26, u_Re_reads_27, u_Re_reads_30, u_Re_reads_31, u_Re_reads_32, u_Re_reads_35, u_Re_reads_36, u_Re_reads_37, u_Re_reads_38, u_Re_reads_39, u_Re_reads_40, u_Re_reads_43, u_Re_reads_46, u_Re_reads_47, u_Re_reads_48, u_Re_reads_51, h1_14, gt_14_1, pt_14_1, gt_14_2, pt_14_2, gt_14_3, pt_14_3, gt_14_4, pt_14_4, gt_14_5, pt_14_5, gt_14_6, pt_14_6, gt_14_7, pt_14_7, ne_eq, not_false_eq_true, not_true_eq_false, true_and, and_true, true_or, or_true, eq_self, Option.toList_some, Option.toList_none, List.cons_append, List.nil_append, tc_0, tc_I, tc_L, tc_A, Nat.reduceAdd, Nat.reduceLeDiff, Nat.reduceEqDiff, Int.reduceEq, Int.reduceLT, Int.reduceLE, Int.reduceNeg, Int.reduceToNat, Int.cast_ofNat_Int, if_true, if_false, and_self, or_self, ite_self, bI_0, bI_1, bI_01, Bool.false_eq_true, reduceCtorEq]
    exact this
end
