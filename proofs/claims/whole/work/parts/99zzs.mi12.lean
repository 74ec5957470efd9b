/-! Mirrors, the reference: the loops, blocks whole -/
theorem q_50 {m z : Nat} (h : m + (z + 1) ≤ 1000) : m + 1 + z ≤ 1000 := by omega
section
variable {L d r len c : Nat} {f t g : Mem} {T : Int → Int} {Q : Option TV → Wd → Prop} {j fr : Int} {u v : Option TV} {o : Bool} {Y : Type} {kb : Y → List Int} {wb : Y → Prop} {mb : Y → Y}
theorem st_seg (hb : ∀ x, wb x → ∀ p, 0 < p → Wl brc p (kb x) p) (s : SS c ⊕ CC c Y) (hw : w1 o wb s) {i q : Int} (hs : seg T i q (k1 kb s)) : T (q - 1) = 59 ∧ seg T i (q - 1) (k10 kb s) ∧ Skp 59 0 (k10 kb s) 0 ∧ i + 1 ≤ q := by
  have e := seg_len hs
  rw [k1_0] at hs e
  obtain ⟨s1, s2⟩ := seg_split hs
  have s3 := (seg_hd s2).1
  rw [List.length_append, List.length_singleton] at e
  have e2 : i + ((k10 kb s).length : Int) = q - 1 := by omega
  rw [e2] at s1 s3
  exact ⟨s3, s1, k10_s hb s hw, by omega⟩
theorem s_M_sE (h : RT g r T len) (hb : ∀ x, wb x → ∀ p, 0 < p → Wl brc p (kb x) p) (s : SS c ⊕ CC c Y) (hw : w1 o wb s) {i q : Int} (h0 : 0 ≤ i) (hs : seg T i q (k1 kb s)) : VV L (d + 2) m_M_stepEnd 0 [some (tA 156), some (tI r), some (tI i), none] [] (WW f t g) Q = Q (some (tI q)) (WW f t g) := by
  obtain ⟨a1, a2, a3, a4⟩ := st_seg hb s hw hs
  rw [s_M_stepEnd h a1 a3 a2 h0, show q - 1 + 1 = q by omega]
theorem l_M_cnt (h : RT g r T len) (hb : ∀ x, wb x → ∀ p, 0 < p → Wl brc p (kb x) p) : ∀ (zs : List (SS c ⊕ CC c Y)) (i : Int) (m : Nat), allL (w1 o wb) zs → 0 ≤ i → m + zs.length ≤ 1000 → seg T i j (zs.flatMap (k1 kb)) → VV L (d + 3) m_M_mirrors 6 [some (tA 156), some (tI r), some (tI fr), some (tI j), some (tI m), some (tI i), u, v] [] (WW f t g) Q = VV L (d + 3) m_M_mirrors 27 [some (tA 156), some (tI r), some (tI fr), some (tI j), some (tI ((m + zs.length : Nat) : Int)), some (tI j), u, v] [] (WW f t g) Q := by
  intro zs
  induction zs with
  | nil =>
    intro i m _ h0 _ hs
    have e := seg_len hs
    simp only [List.flatMap_nil, List.length_nil] at e
    have hij : i = j := by omega
    subst hij
    rw [u_M_mirrors_6]
    simp only [u_M_mirrors_8, u_M_mirrors_9, u_M_mirrors_12, u_M_mirrors_15, u_M_mirrors_16, u_M_mirrors_17, u_M_mirrors_19, u_M_mirrors_22, u_M_mirrors_24, ne_eq, not_false_eq_true, not_true_eq_false, true_and, and_true, true_or, or_true, eq_self, Option.toList_some, Option.toList_none, List.cons_append, List.nil_append, tc_0, tc_I, tc_L, tc_A, Nat.reduceAdd, Nat.reduceLeDiff, Nat.reduceEqDiff, Int.reduceEq, Int.reduceLT, Int.reduceLE, Int.reduceNeg, Int.reduceToNat, Int.cast_ofNat_Int, if_true, if_false, and_self, or_self, ite_self, bI_0, bI_1, bI_01, Bool.false_eq_true, reduceCtorEq, Int.le_refl, List.length_nil, Nat.add_zero]
  | cons s zs ih =>
    intro i m hw h0 hm hs
    rw [List.flatMap_cons] at hs
    obtain ⟨s1, s2⟩ := seg_split hs
    have hws := hw s (List.mem_cons_self ..)
    obtain ⟨_, _, _, a4⟩ := st_seg hb s hws s1
    have el := seg_len s2
    rw [List.length_cons] at hm ⊢
    have hij : ¬ j ≤ i := by omega
    have wm : w32 ((m : Int) + 1) = ((m + 1 : Nat) : Int) := by rw [w32_id (by omega) (by omega)]; omega
    have hrec := ih (i + ((k1 kb s).length : Int)) (m + 1) (fun x hx => hw x (List.mem_cons_of_mem _ hx)) (Int.add_nonneg h0 (Int.natCast_nonneg _)) (q_50 hm) s2
    rw [show m + (zs.length + 1) = m + 1 + zs.length by omega, ← hrec, u_M_mirrors_6]
    simp only [u_M_mirrors_8, u_M_mirrors_9, u_M_mirrors_12, u_M_mirrors_15, u_M_mirrors_16, u_M_mirrors_17, u_M_mirrors_19, u_M_mirrors_22, u_M_mirrors_24, h1_156, ne_eq, not_false_eq_true, not_true_eq_false, true_and, and_true, true_or, or_true, eq_self, Option.toList_some, Option.toList_none, List.cons_append, List.nil_append, tc_0, tc_I, tc_L, tc_A, Nat.reduceAdd, Nat.reduceLeDiff, Nat.reduceEqDiff, Int.reduceEq, Int.reduceLT, Int.reduceLE, Int.reduceNeg, Int.reduceToNat, Int.cast_ofNat_Int, if_true, if_false, and_self, or_self, ite_self, bI_0, bI_1, bI_01, Bool.false_eq_true, reduceCtorEq, hij, wm, s_M_sE h hb s hws h0 s1]
theorem l_M_wlk {st : Int} {n : Nat} {q : Int} (hn : n ≤ 1000) (h : RT g r T len) (hb : ∀ x, wb x → ∀ p, 0 < p → Wl brc p (kb x) p) : ∀ (ys : List (SS c ⊕ CC c Y)) (i : Int) (k : Nat), allL (w1 o wb) ys → 0 ≤ i → k + ys.length = n → seg T i q (ys.flatMap (k1 kb)) → VV L (d + 3) m_M_mirrors 44 [some (tA 156), some (tI r), some (tI fr), some (tI j), some (tI st), some (tI n), some (tI i), some (tI k)] [] (WW f t g) Q = VV L (d + 3) m_M_mirrors 66 [some (tA 156), some (tI r), some (tI fr), some (tI j), some (tI st), some (tI n), some (tI q), some (tI n)] [] (WW f t g) Q := by
  intro ys
  induction ys with
  | nil =>
    intro i k _ h0 hk hs
    have e := seg_len hs
    simp only [List.flatMap_nil, List.length_nil] at e
    have hij : i = q := by omega
    have hkn : k = n := by simpa using hk
    subst hij
    subst hkn
    rw [u_M_mirrors_44]
    simp only [u_M_mirrors_46, u_M_mirrors_48, u_M_mirrors_51, u_M_mirrors_52, u_M_mirrors_53, u_M_mirrors_55, u_M_mirrors_58, u_M_mirrors_60, u_M_mirrors_63, ne_eq, not_false_eq_true, not_true_eq_false, true_and, and_true, true_or, or_true, eq_self, Option.toList_some, Option.toList_none, List.cons_append, List.nil_append, tc_0, tc_I, tc_L, tc_A, Nat.reduceAdd, Nat.reduceLeDiff, Nat.reduceEqDiff, Int.reduceEq, Int.reduceLT, Int.reduceLE, Int.reduceNeg, Int.reduceToNat, Int.cast_ofNat_Int, if_true, if_false, and_self, or_self, ite_self, bI_0, bI_1, bI_01, Bool.false_eq_true, reduceCtorEq, Int.le_refl]
  | cons s ys ih =>
    intro i k hw h0 hk hs
    rw [List.flatMap_cons] at hs
    obtain ⟨s1, s2⟩ := seg_split hs
    have hws := hw s (List.mem_cons_self ..)
    rw [List.length_cons] at hk
    have hkn : ¬ (n : Int) ≤ k := by omega
    have wk : w32 ((k : Int) + 1) = ((k + 1 : Nat) : Int) := by rw [w32_id (by omega) (by omega)]; omega
    have hrec := ih (i + ((k1 kb s).length : Int)) (k + 1) (fun x hx => hw x (List.mem_cons_of_mem _ hx)) (by omega) (by omega) s2
    rw [← hrec, u_M_mirrors_44]
    simp only [u_M_mirrors_46, u_M_mirrors_48, u_M_mirrors_51, u_M_mirrors_52, u_M_mirrors_53, u_M_mirrors_55, u_M_mirrors_58, u_M_mirrors_60, u_M_mirrors_63, h1_156, ne_eq, not_false_eq_true, not_true_eq_false, true_and, and_true, true_or, or_true, eq_self, Option.toList_some, Option.toList_none, List.cons_append, List.nil_append, tc_0, tc_I, tc_L, tc_A, Nat.reduceAdd, Nat.reduceLeDiff, Nat.reduceEqDiff, Int.reduceEq, Int.reduceLT, Int.reduceLE, Int.reduceNeg, Int.reduceToNat, Int.cast_ofNat_Int, if_true, if_false, and_self, or_self, ite_self, bI_0, bI_1, bI_01, Bool.false_eq_true, reduceCtorEq, hkn, wk, s_M_sE h hb s hws h0 s1]
theorem l_M_out {st i : Int} (h : RT g r T len) (hb : ∀ x, wb x → ∀ p, 0 < p → Wl brc p (kb x) p) (hR : MRok L (d + 1) r len T f t g kb wb mb) (h0 : 0 ≤ i) : ∀ (rs : List (SS c ⊕ CC c Y)) (q : Int) (P : List (Int × Int)) (u v : Option TV), allL (w1 false wb) rs → rs.length ≤ 1000 → q ≤ len → seg T i q (rs.reverse.flatMap (k1 kb)) → P.length + (rs.flatMap (fun s => k1 kb (m1 mb s))).length ≤ 1600 → VV L (d + 3) m_M_mirrors 33 [some (tA 156), some (tI r), some (tI i), some (tI j), some (tI st), some (tI ((rs.length : Int) - 1)), u, v] [] (WW f t (emM g P)) Q = Q none (WW f t (emM g (P ++ pqL 0 (rs.flatMap (fun s => k1 kb (m1 mb s)))))) := by
  intro rs
  induction rs with
  | nil =>
    intro q P u v _ _ _ _ _
    rw [u_M_mirrors_33]
    have hn : (([] : List (SS c ⊕ CC c Y)).length : Int) - 1 < 0 := by simp
    simp only [u_M_mirrors_35, u_M_mirrors_86, ne_eq, not_false_eq_true, not_true_eq_false, true_and, and_true, true_or, or_true, eq_self, Option.toList_some, Option.toList_none, List.cons_append, List.nil_append, tc_0, tc_I, tc_L, tc_A, Nat.reduceAdd, Nat.reduceLeDiff, Nat.reduceEqDiff, Int.reduceEq, Int.reduceLT, Int.reduceLE, Int.reduceNeg, Int.reduceToNat, Int.cast_ofNat_Int, if_true, if_false, and_self, or_self, ite_self, bI_0, bI_1, bI_01, Bool.false_eq_true, reduceCtorEq, hn, List.flatMap_nil, pqL, List.append_nil]
  | cons s rs ih =>
    intro q P u v hw hl hq hs hlen
    have hws := hw s (List.mem_cons_self ..)
    have hwr : allL (w1 false wb) rs := fun x hx => hw x (List.mem_cons_of_mem _ hx)
    rw [List.reverse_cons, List.flatMap_append] at hs
    obtain ⟨s1, s2⟩ := seg_split hs
    rw [List.flatMap_cons, List.flatMap_nil, List.append_nil] at s2
    rw [List.flatMap_cons, List.length_append] at hlen
    rw [List.length_cons] at hl
    have e1 : (((s :: rs).length : Nat) : Int) - 1 = (rs.length : Int) := by rw [List.length_cons]; omega
    obtain ⟨_, _, _, a4⟩ := st_seg hb s hws s2
    have hwv : allL (w1 false wb) rs.reverse := fun x hx => hwr x (List.mem_reverse.mp hx)
    have wn : w32 ((rs.length : Int) + -1) = (rs.length : Int) - 1 := by rw [w32_id (by omega) (by omega)]; omega
    have hwalk := fun Q => l_M_wlk (L := L) (d := d) (f := f) (t := t) (Q := Q) (j := j) (fr := i) (st := st) (n := rs.length) (q := i + ((rs.reverse.flatMap (k1 kb)).length : Int)) (by omega) (RT_em (P := P) h) hb rs.reverse i 0 hwv h0 (by rw [List.length_reverse, Nat.zero_add]) s1
    generalize hq2 : i + ((rs.reverse.flatMap (k1 kb)).length : Int) = q2 at *
    have hm : ∀ Q, VV L (d + 2) m_M_mirrorStep 0 [some (tA 156), some (tI r), some (tI q2), some (tI q), none, none, none, none] [] (WW f t (emM g P)) Q = Q none (WW f t (emM g (P ++ pqL 0 (k1 kb (m1 mb s))))) := by
      intro Q
      match s, hws, s2, hlen with
      | .inl s, hws, s2, hlen =>
        have hsl : (kS (mS s)).length = (kS s).length := (mS_w s hws).2.1
        have hlen' : P.length + ((kS (mS s)).length + (rs.flatMap (fun s => k1 kb (m1 mb s))).length) ≤ 1600 := hlen
        exact s_M_mS h s hws (by omega) hq s2 (by omega)
      | .inr s, hws, s2, hlen =>
        have hlen' : P.length + ((kC kb (mC mb s)).length + (rs.flatMap (fun s => k1 kb (m1 mb s))).length) ≤ 1600 := hlen
        exact s_M_mC h hb hR s hws (by omega) hq s2 (by omega)
    have hrec := ih q2 (P ++ pqL 0 (k1 kb (m1 mb s))) (some (tI q2)) (some (tI (rs.length : Int))) hwr (by omega) (by omega) s1 (by rw [List.length_append, pqL_len]; omega)
    have hlast : kEnd (lstD 0 (k1 kb (m1 mb s))) = false := by rw [k1_0, lstD_app]; exact (show kEnd 59 = false by decide)
    rw [List.flatMap_cons, pqL_j (Or.inr hlast), ← List.append_assoc, ← hrec, e1, u_M_mirrors_33]
    have z0 : ((0 : Nat) : Int) = 0 := rfl
    rw [z0] at hwalk
    have hn : ¬ (rs.length : Int) < 0 := by omega
    simp only [u_M_mirrors_35, u_M_mirrors_38, u_M_mirrors_39, u_M_mirrors_41, u_M_mirrors_42, ne_eq, not_false_eq_true, not_true_eq_false, true_and, and_true, true_or, or_true, eq_self, Option.toList_some, Option.toList_none, List.cons_append, List.nil_append, tc_0, tc_I, tc_L, tc_A, Nat.reduceAdd, Nat.reduceLeDiff, Nat.reduceEqDiff, Int.reduceEq, Int.reduceLT, Int.reduceLE, Int.reduceNeg, Int.reduceToNat, Int.cast_ofNat_Int, if_true, if_false, and_self, or_self, ite_self, bI_0, bI_1, bI_01, Bool.false_eq_true, reduceCtorEq, hn, hwalk]
    simp only [u_M_mirrors_66, u_M_mirrors_67, u_M_mirrors_68, u_M_mirrors_70, u_M_mirrors_71, u_M_mirrors_72, u_M_mirrors_74, u_M_mirrors_77, u_M_mirrors_80, u_M_mirrors_83, h1_156, ne_eq, not_false_eq_true, not_true_eq_false, true_and, and_true, true_or, or_true, eq_self, Option.toList_some, Option.toList_none, List.cons_append, List.nil_append, tc_0, tc_I, tc_L, tc_A, Nat.reduceAdd, Nat.reduceLeDiff, Nat.reduceEqDiff, Int.reduceEq, Int.reduceLT, Int.reduceLE, Int.reduceNeg, Int.reduceToNat, Int.cast_ofNat_Int, if_true, if_false, and_self, or_self, ite_self, bI_0, bI_1, bI_01, Bool.false_eq_true, reduceCtorEq, s_M_sE (RT_em (P := P) h) hb s hws (show 0 ≤ q2 by omega) s2, hm, wn]
theorem k1_p1 (s : SS c ⊕ CC c Y) : 1 ≤ (k1 kb s).length := by rw [k1_0, List.length_append, List.length_singleton]; omega
theorem fl_len : ∀ (zs : List (SS c ⊕ CC c Y)), zs.length ≤ (zs.flatMap (k1 kb)).length := by
  intro zs
  induction zs with
  | nil => exact Nat.le_refl _
  | cons s zs ih =>
    have := k1_p1 (kb := kb) s
    rw [List.flatMap_cons, List.length_append, List.length_cons]; omega
theorem s_M_mL {i : Int} {P : List (Int × Int)} (h : RT g r T len) (hb : ∀ x, wb x → ∀ p, 0 < p → Wl brc p (kb x) p) (hR : MRok L (d + 1) r len T f t g kb wb mb) (x : List (SS c ⊕ CC c Y)) (hx : allL (w1 false wb) x) (h0 : 0 ≤ i) (hj : j ≤ len) (hs : seg T i j (x.flatMap (k1 kb))) (hlen : P.length + (((x.map (m1 mb)).reverse).flatMap (k1 kb)).length ≤ 1600) : VV L (d + 3) m_M_mirrors 0 [some (tA 156), some (tI r), some (tI i), some (tI j), none, none, none, none] [] (WW f t (emM g P)) Q = Q none (WW f t (emM g (P ++ pqL 0 (((x.map (m1 mb)).reverse).flatMap (k1 kb))))) := by
  have hl1 := h.l1
  have hx' : allL (w1 false wb) x.reverse := fun u hu => hx u (List.mem_reverse.mp hu)
  have el := seg_len hs
  have fl := fl_len (kb := kb) x
  have hfm := mrev (m1 mb) (k1 kb) x
  have xl : x.length ≤ 1000 := by omega
  have key := l_M_out (L := L) (d := d) (f := f) (t := t) (Q := Q) (j := j) (st := ((0 + x.length : Nat) : Int)) h hb hR h0 x.reverse j P none none hx' (by rw [List.length_reverse]; exact xl) hj (by rw [List.reverse_reverse]; exact hs) (by rw [hfm]; exact hlen)
  rw [hfm, List.length_reverse] at key
  have cnt := l_M_cnt (L := L) (d := d) (f := f) (t := t) (Q := Q) (j := j) (fr := i) (u := none) (v := none) (o := false) (RT_em (P := P) h) hb x i 0 hx h0 (by rw [Nat.zero_add]; exact xl) hs
  have z0 : ((0 : Nat) : Int) = 0 := rfl
  rw [z0] at cnt
  have wn : w32 (((0 + x.length : Nat) : Int) - 1) = (x.length : Int) - 1 := by rw [w32_id (by omega) (by omega)]; omega
  rw [← key]
  simp only [u_M_mirrors_0, u_M_mirrors_1, u_M_mirrors_3, u_M_mirrors_4, ne_eq, not_false_eq_true, not_true_eq_false, true_and, and_true, true_or, or_true, eq_self, Option.toList_some, Option.toList_none, List.cons_append, List.nil_append, tc_0, tc_I, tc_L, tc_A, Nat.reduceAdd, Nat.reduceLeDiff, Nat.reduceEqDiff, Int.reduceEq, Int.reduceLT, Int.reduceLE, Int.reduceNeg, Int.reduceToNat, Int.cast_ofNat_Int, if_true, if_false, and_self, or_self, ite_self, bI_0, bI_1, bI_01, Bool.false_eq_true, reduceCtorEq, cnt]
  simp only [u_M_mirrors_27, u_M_mirrors_29, u_M_mirrors_30, u_M_mirrors_31, ne_eq, not_false_eq_true, not_true_eq_false, true_and, and_true, true_or, or_true, eq_self, Option.toList_some, Option.toList_none, List.cons_append, List.nil_append, tc_0, tc_I, tc_L, tc_A, Nat.reduceAdd, Nat.reduceLeDiff, Nat.reduceEqDiff, Int.reduceEq, Int.reduceLT, Int.reduceLE, Int.reduceNeg, Int.reduceToNat, Int.cast_ofNat_Int, if_true, if_false, and_self, or_self, ite_self, bI_0, bI_1, bI_01, Bool.false_eq_true, reduceCtorEq, wn]
end
section
variable {L d r len c : Nat} {f t g : Mem} {T : Int → Int}
theorem s_M_mB (h : RT g r T len) : ∀ (bb : Nat), MRok L (d + 2 * bb + 1) r len T f t g (kB (c := c) bb) (wB false bb) (mB bb) := by
  intro bb
  induction bb with
  | zero => intro x; exact nomatch x
  | succ bb ih =>
    intro x hx i j P Q h0 hj hs hlen
    exact s_M_mL (d := d + 2 * bb) h (fun y hy p hp => kB_c bb y hy p hp) ih x hx h0 hj hs hlen
end
