/-! Calls: set, get, drop -/
section
variable {L d : Nat} {X : Nat → Tre} {TH : Nat} {f f' t t' g g' : Mem} {Q : Option TV → Wd → Prop}
theorem RC_item {h i : Nat} {v : Int} (hC' : RC f) (hr : ∀ k : Nat, k < 14 → hC f k < 15) (hh : h < 14) (h0 : 0 ≤ hC f h) : RC (mset f (34 + (hC f h).toNat) i (cutI (f 31 (hC f h).toNat) v)) := by
  have h15 := hr h hh
  have ff : ∀ b j, ¬ b = 34 + (hC f h).toNat → (mset f (34 + (hC f h).toNat) i (cutI (f 31 (hC f h).toNat) v)) b j = f b j := fun b j q1 => by rw [rd, if_neg (by omega)]
  have hH := hC_eq (f := f) (f' := mset f (34 + (hC f h).toNat) i (cutI (f 31 (hC f h).toNat) v)) (fun j => ff 29 j (by omega)) (fun j => ff 30 j (by omega))
  refine ⟨fun q hq q1 => ?_, fun z i hz hi => ?_, fun q hq h0 j hi => ?_⟩
  · rw [ff 20 q (by omega)] at q1
    rw [ff 21 q (by omega)]; exact hC'.n q hq q1
  · rw [ff 27 _ (by omega)] at hi
    rw [ff _ _ (by omega)]; exact hC'.p z i hz hi
  · have hq15 := hr q hq
    rw [hH] at h0 hi ⊢
    rw [ff 32 _ (by omega)] at hi
    rw [ff 31 _ (by omega), rd]
    by_cases e : 34 + (hC f q).toNat = 34 + (hC f h).toNat ∧ j = i
    · rw [if_pos e, show (hC f q).toNat = (hC f h).toNat by omega]; exact cut_cut
    · rw [if_neg e]; exact hC'.i q hq h0 j hi
theorem B_set {p k i v : Int} : Both tI m_T_set [some (tA 1), some (tI p), some (tI k), some (tI i), some (tL v), none, none] m_M_set [some (tA 156), some (tI p), some (tI k), some (tI i), some (tL v), none, none] := by
  refine Both_of (fun L d X TH f t g Q hR hQ => ?_)
  by_cases h0 : hnd f p k i = 0
  · obtain ⟨hp, hk, hn, h31, hi0, hi1⟩ := hnd_0 h0
    have hp' : 0 ≤ p ∧ p < 8 := by omega
    have e1 : plH f p = hC f (6 + p.toNat) := by unfold plH; rw [if_pos hp', hC_p]
    rcases hR.st.rw (6 + p.toNat) (by omega) with ⟨q1, q2⟩ | ⟨q1, q2, q3, q4, q5, q6, q7, q8⟩
    · exact absurd q1 hn
    · have c12x := (hR.st.cC (hC f (6 + p.toNat)).toNat (by omega)).2
      simp only [u_T_set_0, u_T_set_1, u_T_set_2, u_T_set_3, u_T_set_4, u_T_set_7, u_T_set_9, u_T_set_11, u_T_set_14, u_T_set_16, u_T_set_17, u_T_set_18, u_T_set_21, u_T_set_22, u_T_set_25, u_T_set_26, u_T_set_29, u_T_set_30, u_T_set_32, u_T_set_35, u_T_set_36, h1_1, gt_1_8, h1_28, ne_eq, not_false_eq_true, not_true_eq_false, true_and, and_true, true_or, or_true, eq_self, Option.toList_some, Option.toList_none, List.cons_append, List.nil_append, tc_0, tc_I, tc_L, tc_A, Nat.reduceAdd, Nat.reduceLeDiff, Nat.reduceEqDiff, Int.reduceEq, Int.reduceLT, Int.reduceLE, Int.reduceNeg, Int.reduceToNat, Int.cast_ofNat_Int, if_true, if_false, and_self, or_self, ite_self, bI_0, bI_1, bI_01, Bool.false_eq_true, reduceCtorEq, s_T_wrongAt hR.st, h0, s_Sf_heldAtPlace, e1, s_Sf_store q1 q2 hi0 hi1 c12x q7]
      refine hQ _ _ t (fun L d Q hq => ?_)
      obtain ⟨m, hm⟩ : ∃ m : Nat, g 175 (6 + p.toNat) = (m : Int) := ⟨(g 175 (6 + p.toNat)).toNat, by omega⟩
      have w1 : w32 (6 + p) = ((6 + p.toNat : Nat) : Int) := by rw [w32_id (by omega) (by omega)]; omega
      have i1 : (0 : Int) ≤ ((6 + p.toNat : Nat) : Int) := by omega
      have i2 : ((6 + p.toNat : Nat) : Int) < 14 := by omega
      have w2 : w32 (12 * (m : Int)) = 12 * m := w32_id (by omega) (by omega)
      have w3 : w32 (12 * (m : Int) + i) = 12 * m + i := w32_id (by omega) (by omega)
      have i3 : (12 * (m : Int) + i).toNat = 12 * m + i.toNat := by omega
      have j1 : 0 ≤ 12 * (m : Int) + i := by omega
      have j2 : 12 * (m : Int) + i < 192 := by omega
      simp only [u_M_set_0, u_M_set_1, u_M_set_2, u_M_set_3, u_M_set_4, u_M_set_7, u_M_set_9, u_M_set_11, u_M_set_14, u_M_set_16, u_M_set_17, u_M_set_18, u_M_set_21, u_M_set_23, u_M_set_24, u_M_set_27, u_M_set_29, u_M_set_30, u_M_set_31, u_M_set_32, u_M_set_33, u_M_set_34, u_M_set_35, u_M_set_36, u_M_set_38, u_M_set_41, u_M_set_42, u_M_set_43, h1_156, gt_156_37, gt_156_41, h1_175, h2_175, gt_175, pt_175, h1_178, h2_178, gt_178, pt_178, ne_eq, not_false_eq_true, not_true_eq_false, true_and, and_true, true_or, or_true, eq_self, Option.toList_some, Option.toList_none, List.cons_append, List.nil_append, tc_0, tc_I, tc_L, tc_A, Nat.reduceAdd, Nat.reduceLeDiff, Nat.reduceEqDiff, Int.reduceEq, Int.reduceLT, Int.reduceLE, Int.reduceNeg, Int.reduceToNat, Int.cast_ofNat_Int, if_true, if_false, and_self, or_self, ite_self, bI_0, bI_1, bI_01, Bool.false_eq_true, reduceCtorEq, s_M_hinders hR.st, h0, w1, i1, i2, Int.toNat_natCast, hm, w2, w3, i3, j1, j2, s_M_cut hk.1 hk.2]
      have hst := RSt_item (i := i.toNat) (v := cutI k v) hR.st (show 6 + p.toNat < 14 by omega) q1 (by omega)
      rw [hm, Int.toNat_natCast] at hst
      rw [h31] at hq ⊢
      have hrc := RC_item (i := i.toNat) (v := v) hR.rc (hC_15 hR.st) (show 6 + p.toNat < 14 by omega) q1
      rw [h31] at hrc
      refine hq _ ⟨X, TH, Rel_st hR (fun b j h1 h2 h3 => by rw [rd, if_neg (by omega)]) (FZ_m (by omega)) hst hrc⟩ (fun j => by rw [rd, if_neg (by omega)])
  · simp only [u_T_set_0, u_T_set_1, u_T_set_2, u_T_set_3, u_T_set_4, u_T_set_7, u_T_set_9, u_T_set_11, u_T_set_14, u_T_set_16, u_T_set_17, u_T_set_18, u_T_set_21, u_T_set_22, u_T_set_25, u_T_set_26, u_T_set_29, u_T_set_30, u_T_set_32, u_T_set_35, u_T_set_36, h1_1, ne_eq, not_false_eq_true, not_true_eq_false, true_and, and_true, true_or, or_true, eq_self, Option.toList_some, Option.toList_none, List.cons_append, List.nil_append, tc_0, tc_I, tc_L, tc_A, Nat.reduceAdd, Nat.reduceLeDiff, Nat.reduceEqDiff, Int.reduceEq, Int.reduceLT, Int.reduceLE, Int.reduceNeg, Int.reduceToNat, Int.cast_ofNat_Int, if_true, if_false, and_self, or_self, ite_self, bI_0, bI_1, bI_01, Bool.false_eq_true, reduceCtorEq, s_T_wrongAt hR.st, h0]
    refine hQ _ _ t (RefP_0 hR (fun L d Q => ?_))
    simp only [u_M_set_0, u_M_set_1, u_M_set_2, u_M_set_3, u_M_set_4, u_M_set_7, u_M_set_9, u_M_set_11, u_M_set_14, u_M_set_16, u_M_set_17, u_M_set_18, u_M_set_21, u_M_set_23, u_M_set_24, u_M_set_27, u_M_set_29, u_M_set_30, u_M_set_31, u_M_set_32, u_M_set_33, u_M_set_34, u_M_set_35, u_M_set_36, u_M_set_38, u_M_set_41, u_M_set_42, u_M_set_43, h1_156, ne_eq, not_false_eq_true, not_true_eq_false, true_and, and_true, true_or, or_true, eq_self, Option.toList_some, Option.toList_none, List.cons_append, List.nil_append, tc_0, tc_I, tc_L, tc_A, Nat.reduceAdd, Nat.reduceLeDiff, Nat.reduceEqDiff, Int.reduceEq, Int.reduceLT, Int.reduceLE, Int.reduceNeg, Int.reduceToNat, Int.cast_ofNat_Int, if_true, if_false, and_self, or_self, ite_self, bI_0, bI_1, bI_01, Bool.false_eq_true, reduceCtorEq, s_M_hinders hR.st, h0]
theorem Rel_get {z : Int} (hR : RelX X TH f t g) : RelX X TH (mset f 1 11 z) t (mset g 156 64 z) := by
  refine RelX_mk ⟨Rtape_fr hR.tp (fun b j hh => by rw [rd, if_neg (by omega)]) (fun b j hh => by rw [rd, if_neg (by omega)]), Rtext_fr hR.tx (fun b j hh => by rw [rd, if_neg (by omega)]) (fun b j hh => by rw [rd, if_neg (by omega)]), Rout_fr hR.ou (fun b j hh => by rw [rd, if_neg (by omega)]) (fun b j hh => by rw [rd, if_neg (by omega)]), RSt_fr2 hR.st (fun b j _ _ => by rw [rd, if_neg (by omega)]) (fun b j hh => by rw [rd, if_neg (by omega)]), RC_fr hR.rc (hC_15 hR.st) (fun b j _ _ => by rw [rd, if_neg (by omega)]), Rrun_fr hR.rn (fun b j hh => by rw [rd, if_neg (by omega)]) (fun b j hh => by rw [rd, if_neg (by omega)]), ⟨?_, ?_, ?_⟩⟩
  · rw [rd, if_neg (by omega), rd, if_neg (by omega)]; exact hR.fl.k
  · rw [rd, if_neg (by omega), rd, if_neg (by omega)]; exact hR.fl.p
  · rw [rd, if_pos (by simp), rd, if_pos (by simp)]
theorem B_get {p k i : Int} : Both tL m_T_get [some (tA 1), some (tI p), some (tI k), some (tI i)] m_M_get [some (tA 156), some (tI p), some (tI k), some (tI i)] := by
  refine Both_of (fun L d X TH f t g Q hR hQ => ?_)
  have hR' := Rel_get (z := hnd f p k i) hR
  have g1 : (mset f 1 11 (hnd f p k i)) 1 11 = hnd f p k i := by rw [rd, if_pos (by simp)]
  have g2 : (mset g 156 64 (hnd f p k i)) 156 64 = hnd f p k i := by rw [rd, if_pos (by simp)]
  have o1 : ∀ b j, ¬ b = 1 → (mset f 1 11 (hnd f p k i)) b j = f b j := fun b j h => by rw [rd, if_neg (fun hh => h hh.1)]
  have o2 : ∀ b j, ¬ b = 156 → (mset g 156 64 (hnd f p k i)) b j = g b j := fun b j h => by rw [rd, if_neg (fun hh => h hh.1)]
  by_cases h0 : hnd f p k i = 0
  · obtain ⟨hp, hk, hn, h31, hi0, hi1⟩ := hnd_0 h0
    have hp' : 0 ≤ p ∧ p < 8 := by omega
    rcases hR.st.rw (6 + p.toNat) (by omega) with ⟨q1, q2⟩ | ⟨q1, q2, q3, q4, q5, q6, q7, q8⟩
    · exact absurd q1 hn
    · have c12x := (hR.st.cC (hC f (6 + p.toNat)).toNat (by omega)).2
      have e1 : plH (mset f 1 11 (hnd f p k i)) p = hC f (6 + p.toNat) := by unfold plH; rw [if_pos hp', o1 30 _ (by omega), hC_p]
      have el : ldS (mset f 1 11 (hnd f p k i)) (hC f (6 + p.toNat)) i = f (34 + (hC f (6 + p.toNat)).toNat) i.toNat := by
        unfold ldS; rw [o1 32 _ (by omega), if_pos ⟨q1, q2, hi0, hi1⟩, o1 _ _ (by omega)]
      rw [h0] at hR' g1 g2 o1 o2 e1 el
      simp only [u_T_get_0, u_T_get_1, u_T_get_2, u_T_get_3, u_T_get_4, u_T_get_5, u_T_get_8, u_T_get_11, u_T_get_12, u_T_get_15, u_T_get_18, u_T_get_19, u_T_get_22, u_T_get_23, u_T_get_26, u_T_get_27, u_T_get_30, u_T_get_31, u_T_get_34, u_T_get_37, u_T_get_38, h1_1, gt_1_8, gt_1_11, pt_1_11, h1_28, ne_eq, not_false_eq_true, not_true_eq_false, true_and, and_true, true_or, or_true, eq_self, Option.toList_some, Option.toList_none, List.cons_append, List.nil_append, tc_0, tc_I, tc_L, tc_A, Nat.reduceAdd, Nat.reduceLeDiff, Nat.reduceEqDiff, Int.reduceEq, Int.reduceLT, Int.reduceLE, Int.reduceNeg, Int.reduceToNat, Int.cast_ofNat_Int, if_true, if_false, and_self, or_self, ite_self, bI_0, bI_1, bI_01, Bool.false_eq_true, reduceCtorEq, s_T_wrongAt hR.st, h0, g1, s_Sf_heldAtPlace, e1, s_Sf_load (c12 hR'.st), el]
      refine hQ _ _ t (fun L d Q hq => ?_)
      obtain ⟨m, hm⟩ : ∃ m : Nat, g 175 (6 + p.toNat) = (m : Int) := ⟨(g 175 (6 + p.toNat)).toNat, by omega⟩
      have w1 : w32 (6 + p) = ((6 + p.toNat : Nat) : Int) := by rw [w32_id (by omega) (by omega)]; omega
      have i1 : (0 : Int) ≤ ((6 + p.toNat : Nat) : Int) := by omega
      have i2 : ((6 + p.toNat : Nat) : Int) < 14 := by omega
      have w2 : w32 (12 * (m : Int)) = 12 * m := w32_id (by omega) (by omega)
      have w3 : w32 (12 * (m : Int) + i) = 12 * m + i := w32_id (by omega) (by omega)
      have i3 : (12 * (m : Int) + i).toNat = 12 * m + i.toNat := by omega
      have j1 : 0 ≤ 12 * (m : Int) + i := by omega
      have j2 : 12 * (m : Int) + i < 192 := by omega
      have q8' := q8 i.toNat (by omega)
      rw [hm, Int.toNat_natCast] at q8'
      simp only [u_M_get_0, u_M_get_1, u_M_get_2, u_M_get_3, u_M_get_4, u_M_get_5, u_M_get_8, u_M_get_11, u_M_get_12, u_M_get_15, u_M_get_18, u_M_get_19, u_M_get_22, u_M_get_24, u_M_get_25, u_M_get_28, u_M_get_30, u_M_get_31, u_M_get_32, u_M_get_33, u_M_get_34, u_M_get_35, u_M_get_36, u_M_get_37, u_M_get_40, u_M_get_41, h1_156, gt_156_37, gt_156_41, gt_156_64, pt_156_64, h1_175, h2_175, gt_175, pt_175, h1_178, h2_178, gt_178, pt_178, ne_eq, not_false_eq_true, not_true_eq_false, true_and, and_true, true_or, or_true, eq_self, Option.toList_some, Option.toList_none, List.cons_append, List.nil_append, tc_0, tc_I, tc_L, tc_A, Nat.reduceAdd, Nat.reduceLeDiff, Nat.reduceEqDiff, Int.reduceEq, Int.reduceLT, Int.reduceLE, Int.reduceNeg, Int.reduceToNat, Int.cast_ofNat_Int, if_true, if_false, and_self, or_self, ite_self, bI_0, bI_1, bI_01, Bool.false_eq_true, reduceCtorEq, s_M_hinders hR.st, h0, g2, o2 175 _ (show ¬ 175 = 156 by omega), o2 178 _ (show ¬ 178 = 156 by omega), w1, i1, i2, Int.toNat_natCast, hm, w2, w3, i3, j1, j2, ← q8']
      exact hq _ ⟨X, TH, hR'⟩ (fun j => o2 900 j (by omega))
  · simp only [u_T_get_0, u_T_get_1, u_T_get_2, u_T_get_3, u_T_get_4, u_T_get_5, u_T_get_8, u_T_get_11, u_T_get_12, u_T_get_15, u_T_get_18, u_T_get_19, u_T_get_22, u_T_get_23, u_T_get_26, u_T_get_27, u_T_get_30, u_T_get_31, u_T_get_34, u_T_get_37, u_T_get_38, h1_1, gt_1_11, pt_1_11, ne_eq, not_false_eq_true, not_true_eq_false, true_and, and_true, true_or, or_true, eq_self, Option.toList_some, Option.toList_none, List.cons_append, List.nil_append, tc_0, tc_I, tc_L, tc_A, Nat.reduceAdd, Nat.reduceLeDiff, Nat.reduceEqDiff, Int.reduceEq, Int.reduceLT, Int.reduceLE, Int.reduceNeg, Int.reduceToNat, Int.cast_ofNat_Int, if_true, if_false, and_self, or_self, ite_self, bI_0, bI_1, bI_01, Bool.false_eq_true, reduceCtorEq, s_T_wrongAt hR.st, g1, h0]
    refine hQ _ _ t (fun L d Q hq => ?_)
    simp only [u_M_get_0, u_M_get_1, u_M_get_2, u_M_get_3, u_M_get_4, u_M_get_5, u_M_get_8, u_M_get_11, u_M_get_12, u_M_get_15, u_M_get_18, u_M_get_19, u_M_get_22, u_M_get_24, u_M_get_25, u_M_get_28, u_M_get_30, u_M_get_31, u_M_get_32, u_M_get_33, u_M_get_34, u_M_get_35, u_M_get_36, u_M_get_37, u_M_get_40, u_M_get_41, h1_156, gt_156_64, pt_156_64, ne_eq, not_false_eq_true, not_true_eq_false, true_and, and_true, true_or, or_true, eq_self, Option.toList_some, Option.toList_none, List.cons_append, List.nil_append, tc_0, tc_I, tc_L, tc_A, Nat.reduceAdd, Nat.reduceLeDiff, Nat.reduceEqDiff, Int.reduceEq, Int.reduceLT, Int.reduceLE, Int.reduceNeg, Int.reduceToNat, Int.cast_ofNat_Int, if_true, if_false, and_self, or_self, ite_self, bI_0, bI_1, bI_01, Bool.false_eq_true, reduceCtorEq, s_M_hinders hR.st, g2, h0]
    exact hq _ ⟨X, TH, hR'⟩ (fun j => o2 900 j (by omega))
/-- drop -/
def drT (t : Mem) (a : Nat) : Mem := mset t a 15 0
def drM (g : Mem) (r : Nat) : Mem := mset (mset g 161 r 0) 156 54 0
theorem Rrun_stop (h : Rrun f t g) (h11 : f' 151 11 = 0) (h54 : g' 156 54 = 0) (h10 : f' 151 10 = f 151 10) (h62 : g' 156 62 = g 156 62) : Rrun f' t' g' := by
  refine ⟨by rw [h11, h54], Or.inl h11, fun h1 => ?_, by rw [h10, h62]; exact h.wh⟩
  rw [h11] at h1; exact absurd h1 (by decide)
theorem TO9_fr {a : Nat} (hf : ∀ c k, 2 ≤ c → c ≤ 8 → t' (a + c) k = t (a + c) k) : ∀ (l : List En9) (q : Nat), TO9 t a q l → TO9 t' a q l := by
  intro l
  induction l with
  | nil => intro q _; trivial
  | cons e l ih =>
    intro q h
    refine ⟨⟨EOk_mono h.1.1 (Nat.zero_le _) (fun c k h1 h2 _ _ => hf c k h1 h2), fun hr => ?_⟩, ih _ h.2⟩
    rw [hf 5 _ (by omega) (by omega), hf 5 _ (by omega) (by omega)]
    exact h.1.2 hr
theorem TCo_fr {c a : Nat} {o : Bool} {x : TB c 6} (h : TCo t a o x) (hf : ∀ b j, a ≤ b → b ≤ a + 9 → t' b j = t b j) : TCo t' a o x := by
  have h1 : t' a 1 = t a 1 := hf a 1 (by omega) (by omega)
  have ht : tok t' a = tok t a := tok_of h1 (fun j => hf (a + 1) j (by omega) (by omega))
  refine ⟨h.c11, h.w, ?_, ?_, ?_, h.n40, ?_, TO9_fr (fun c k h2 h3 => hf _ _ (by omega) (by omega)) _ _ h.tb, ?_⟩
  · rw [h1]; exact h.ln
  · rw [ht, h1]; exact h.sg
  · rw [h1]; exact h.l1
  · rw [hf a 9 (by omega) (by omega)]; exact h.f9
  · rw [ht]; exact h.od
theorem TK_fr {c a : Nat} {o : Bool} {x : TB c 6} (h : TK t a o x) (hf : ∀ b j, a ≤ b → b ≤ a + 9 → t' b j = t b j) : TK t' a o x := by
  have h1 : t' a 1 = t a 1 := hf a 1 (by omega) (by omega)
  have ht : tok t' a = tok t a := tok_of h1 (fun j => hf (a + 1) j (by omega) (by omega))
  refine ⟨?_, ?_, ?_, h.w, h.wo⟩
  · rw [hf a 12 (by omega) (by omega)]; exact h.f12
  · rw [hf a 13 (by omega) (by omega)]; exact h.f13
  · rw [hf a 14 (by omega) (by omega), ht, h1]; exact h.f14
theorem Rtext_drop {r : Nat} (h : Rtext X f t g) (hr : r < 10) : Rtext X (mset f 151 11 0) (mset t (aT f r) 15 0) (drM g r) := by
  have ha : ∀ r', aT (mset f 151 11 0) r' = aT f r' := fun r' => by unfold aT; rw [rd, if_neg (by omega)]
  have hT := h.tc.tt r hr
  have far : ∀ r', r' < 10 → ¬ r' = r → ∀ b j, aT f r' ≤ b → b ≤ aT f r' + 9 → (mset t (aT f r) 15 0) b j = t b j := by
    intro r' hr' hne b j h1 h2
    have := isT_far (h.tc.tt r' hr') hT (fun e => hne (h.ds r' r hr' hr e))
    rw [rd, if_neg (by omega)]
  have z15 : (mset t (aT f r) 15 0) (aT f r) 15 = 0 := by rw [rd, if_pos (by simp)]
  have gM : ∀ b j, 162 ≤ b ∧ b ≤ 173 → drM g r b j = g b j := fun b j hh => by unfold drM; rw [rd, if_neg (by omega), rd, if_neg (by omega)]
  have g161 : ∀ r', drM g r 161 r' = if r' = r then 0 else g 161 r' := fun r' => by
    unfold drM; rw [rd, if_neg (by omega), rd]; simp only [true_and]
  refine ⟨⟨fun r' hr' => ?_, fun r' hr' => ?_, fun r' hr' h1 => ?_⟩, ⟨fun r' hr' => ?_, fun r' hr' h1 => ?_⟩, fun r1 r2 h1 h2 h3 => ?_, ?_, fun r' hr' => ?_, fun r' hr' h1 => ?_⟩
  · rw [ha]; exact h.tc.tt r' hr'
  · rw [ha]
    by_cases e : r' = r
    · subst e; rw [z15]; exact Or.inl rfl
    · rw [far r' hr' e _ _ (by omega) (by omega)]; exact h.tc.th r' hr'
  · rw [ha] at h1 ⊢
    by_cases e : r' = r
    · subst e; rw [z15] at h1; exact absurd h1 (by decide)
    · rw [far r' hr' e _ _ (by omega) (by omega)] at h1
      exact TCo_fr (h.tc.ok r' hr' h1) (far r' hr' e)
  · rw [ha, g161]
    by_cases e : r' = r
    · subst e; rw [z15, if_pos rfl]
    · rw [far r' hr' e _ _ (by omega) (by omega), if_neg e]; exact h.tm.th r' hr'
  · rw [ha] at h1 ⊢
    by_cases e : r' = r
    · subst e; rw [z15] at h1; exact absurd h1 (by decide)
    · rw [far r' hr' e _ _ (by omega) (by omega)] at h1
      have ht : tok (mset t (aT f r) 15 0) (aT f r') = tok t (aT f r') := tok_of (far r' hr' e _ _ (by omega) (by omega)) (fun j => far r' hr' e _ _ (by omega) (by omega))
      rw [ht]
      have hy := h.tm.ok r' hr' h1
      refine ⟨RT_fr2 hy.rt (fun c k h1 h2 => gM c k (by omega)), RLt_mono _ _ hy.ro (fun c k h1 h2 _ _ => gM c _ (by omega)), ?_, ?_⟩
      · rw [gM 166 _ (by omega)]; exact hy.nn
      · rw [gM 162 _ (by omega)]; exact hy.od
  · rw [ha, ha] at h3; exact h.ds r1 r2 h1 h2 h3
  · rw [rd, if_neg (by omega)]; exact h.sp
  · rw [ha, rd, if_neg (by omega)]; exact h.sd r' hr'
  · rw [ha] at h1 ⊢
    by_cases e : r' = r
    · subst e; rw [z15] at h1; exact absurd h1 (by decide)
    · rw [far r' hr' e _ _ (by omega) (by omega)] at h1
      exact TK_fr (h.tk r' hr' h1) (far r' hr' e)
theorem Rel_drop {r : Nat} (hR : RelX X TH f t g) (hr : r < 10) : RelX X TH (mset f 151 11 0) (mset t (aT f r) 15 0) (drM g r) := by
  have gM : ∀ b j, ¬ b = 161 → ¬ (b = 156 ∧ j = 54) → drM g r b j = g b j := fun b j h1 h2 => by unfold drM; rw [rd, if_neg (by omega), rd, if_neg (by omega)]
  have fM : ∀ b j, ¬ (b = 151 ∧ j = 11) → (mset f 151 11 0) b j = f b j := fun b j h1 => by rw [rd, if_neg (by omega)]
  exact RelX_mk ⟨Rtape_fr hR.tp (fun b j hh => fM b j (by omega)) (fun b j hh => gM b j (by omega) (by omega)), Rtext_drop hR.tx hr, Rout_fr hR.ou (fun b j hh => fM b j (by omega)) (fun b j hh => gM b j (by omega) (by omega)), RSt_fr2 hR.st (fun b j _ _ => fM b j (by omega)) (fun b j hh => gM b j (by omega) (by omega)), RC_fr hR.rc (hC_15 hR.st) (fun b j _ _ => fM b j (by omega)), Rrun_stop hR.rn (by rw [rd, if_pos (by simp)]) (by unfold drM; rw [rd, if_pos (by simp)]) (fM 151 10 (by omega)) (gM 156 62 (by omega) (by omega)), Rflt_fr hR.fl (fun b j hh => fM b j (by omega)) (fun b j hh => gM b j (by omega) (by omega))⟩
theorem B_drop {k : Int} : Both tI m_T_drop [some (tA 1), some (tI k)] m_M_drop [some (tA 156), some (tI k)] := by
  refine Both_of (fun L d X TH f t g Q hR hQ => ?_)
  by_cases hk : 0 ≤ k ∧ k ≤ 9
  · have hk' : 0 ≤ k ∧ k < 10 := by omega
    obtain ⟨r, rfl⟩ : ∃ n : Nat, k = (n : Int) := ⟨k.toNat, by omega⟩
    have hr : r < 10 := by omega
    have hT := hR.tx.tc.tt r hr
    have a0 := xT_0 hT
    have hth := hR.tx.tm.th r hr
    have ha : (f 3 r).toNat = aT f r := rfl
    rcases hR.tx.tc.th r hr with h | h
    · rw [h] at hth
      simp only [u_T_drop_0, u_T_drop_1, u_T_drop_4, u_T_drop_7, u_T_drop_8, u_T_drop_9, u_T_drop_10, u_T_drop_13, u_T_drop_14, u_T_drop_15, u_T_drop_18, u_T_drop_21, u_T_drop_23, u_T_drop_24, u_T_drop_25, u_T_drop_28, u_T_drop_29, u_T_drop_30, u_T_drop_33, u_T_drop_34, u_T_drop_37, u_T_drop_40, u_T_drop_41, u_T_drop_44, u_T_drop_45, u_T_drop_46, u_T_drop_49, h1_1, gt_1_2, h1_3, h2_3, gt_3, pt_3, xT_h1, ne_eq, not_false_eq_true, not_true_eq_false, true_and, and_true, true_or, or_true, eq_self, Option.toList_some, Option.toList_none, List.cons_append, List.nil_append, tc_0, tc_I, tc_L, tc_A, Nat.reduceAdd, Nat.reduceLeDiff, Nat.reduceEqDiff, Int.reduceEq, Int.reduceLT, Int.reduceLE, Int.reduceNeg, Int.reduceToNat, Int.cast_ofNat_Int, if_true, if_false, and_self, or_self, ite_self, bI_0, bI_1, bI_01, Bool.false_eq_true, reduceCtorEq, s_T_isRoutine, hk', and_self, decide_true, bB_t, Int.toNat_natCast, ha, a0, hT, s_Tx_isThere hT (Or.inl h), h]
      refine hQ _ f t (RefP_0 hR (fun L d Q => ?_))
      simp only [u_M_drop_0, u_M_drop_1, u_M_drop_4, u_M_drop_7, u_M_drop_8, u_M_drop_9, u_M_drop_10, u_M_drop_13, u_M_drop_14, u_M_drop_15, u_M_drop_18, u_M_drop_20, u_M_drop_21, u_M_drop_22, u_M_drop_25, u_M_drop_26, u_M_drop_27z h1_161, u_M_drop_28, u_M_drop_29, u_M_drop_30, u_M_drop_33, u_M_drop_34, u_M_drop_37, u_M_drop_38, u_M_drop_39, h1_156, gt_156_22, h1_161, h2_161, gt_161, pt_161, ne_eq, not_false_eq_true, not_true_eq_false, true_and, and_true, true_or, or_true, eq_self, Option.toList_some, Option.toList_none, List.cons_append, List.nil_append, tc_0, tc_I, tc_L, tc_A, Nat.reduceAdd, Nat.reduceLeDiff, Nat.reduceEqDiff, Int.reduceEq, Int.reduceLT, Int.reduceLE, Int.reduceNeg, Int.reduceToNat, Int.cast_ofNat_Int, if_true, if_false, and_self, or_self, ite_self, bI_0, bI_1, bI_01, Bool.false_eq_true, reduceCtorEq, s_M_isRoutine, hk, hk', and_self, decide_true, bB_t, Int.toNat_natCast, ← hth]
    · rw [h] at hth
      have hx := hR.tx.tc.ok r hr h
      have hy := hR.tx.tm.ok r hr h
      have e3 : g 166 r = t (aT f r) 9 := by rw [hy.nn, ← hx.f9]
      have n9 : (mset t (aT f r) 15 0) (aT f r) 9 = t (aT f r) 9 := by rw [rd, if_neg (by omega)]
      simp only [u_T_drop_0, u_T_drop_1, u_T_drop_4, u_T_drop_7, u_T_drop_8, u_T_drop_9, u_T_drop_10, u_T_drop_13, u_T_drop_14, u_T_drop_15, u_T_drop_18, u_T_drop_21, u_T_drop_23, u_T_drop_24, u_T_drop_25, u_T_drop_28, u_T_drop_29, u_T_drop_30, u_T_drop_33, u_T_drop_34, u_T_drop_37, u_T_drop_40, u_T_drop_41, u_T_drop_44, u_T_drop_45, u_T_drop_46, u_T_drop_49, h1_1, gt_1_2, gt_1_9, h1_3, h2_3, gt_3, pt_3, xT_h1, h1_151, ne_eq, not_false_eq_true, not_true_eq_false, true_and, and_true, true_or, or_true, eq_self, Option.toList_some, Option.toList_none, List.cons_append, List.nil_append, tc_0, tc_I, tc_L, tc_A, Nat.reduceAdd, Nat.reduceLeDiff, Nat.reduceEqDiff, Int.reduceEq, Int.reduceLT, Int.reduceLE, Int.reduceNeg, Int.reduceToNat, Int.cast_ofNat_Int, if_true, if_false, and_self, or_self, ite_self, bI_0, bI_1, bI_01, Bool.false_eq_true, reduceCtorEq, s_T_isRoutine, hk', and_self, decide_true, bB_t, Int.toNat_natCast, ha, a0, hT, s_Tx_isThere hT (Or.inr h), h, u_Tx_forget_0, u_Tx_forget_1, u_Tx_forget_2, u_Tx_forget_5, xT_0, xT_h1, xT_g15, xT_p15, u_Ru_stop_0, u_Ru_stop_1, u_Ru_stop_2, u_Ru_stop_5, h1_151, gt_151_11, pt_151_11, rd, Nat.reduceEqDiff, false_and, if_false, s_Tx_size hT]
      refine hQ _ _ _ (fun L d Q hq => ?_)
      simp only [u_M_drop_0, u_M_drop_1, u_M_drop_4, u_M_drop_7, u_M_drop_8, u_M_drop_9, u_M_drop_10, u_M_drop_13, u_M_drop_14, u_M_drop_15, u_M_drop_18, u_M_drop_20, u_M_drop_21, u_M_drop_22, u_M_drop_25, u_M_drop_26, u_M_drop_27z h1_161, u_M_drop_28, u_M_drop_29, u_M_drop_30, u_M_drop_33, u_M_drop_34, u_M_drop_37, u_M_drop_38, u_M_drop_39, h1_156, gt_156_22, gt_156_27, pt_156_54, h1_161, h2_161, gt_161, pt_161, h1_166, h2_166, gt_166, pt_166, ne_eq, not_false_eq_true, not_true_eq_false, true_and, and_true, true_or, or_true, eq_self, Option.toList_some, Option.toList_none, List.cons_append, List.nil_append, tc_0, tc_I, tc_L, tc_A, Nat.reduceAdd, Nat.reduceLeDiff, Nat.reduceEqDiff, Int.reduceEq, Int.reduceLT, Int.reduceLE, Int.reduceNeg, Int.reduceToNat, Int.cast_ofNat_Int, if_true, if_false, and_self, or_self, ite_self, bI_0, bI_1, bI_01, Bool.false_eq_true, reduceCtorEq, s_M_isRoutine, hk, hk', and_self, decide_true, bB_t, Int.toNat_natCast, ← hth, rd, Nat.reduceEqDiff, false_and, if_false, e3]
      exact hq _ ⟨X, TH, Rel_drop hR hr⟩ (fun j => by rw [rd, if_neg (by omega), rd, if_neg (by omega)])
  · have hk' : ¬ (0 ≤ k ∧ k < 10) := by omega
    simp only [u_T_drop_0, u_T_drop_1, u_T_drop_4, u_T_drop_7, u_T_drop_8, u_T_drop_9, u_T_drop_10, u_T_drop_13, u_T_drop_14, u_T_drop_15, u_T_drop_18, u_T_drop_21, u_T_drop_23, u_T_drop_24, u_T_drop_25, u_T_drop_28, u_T_drop_29, u_T_drop_30, u_T_drop_33, u_T_drop_34, u_T_drop_37, u_T_drop_40, u_T_drop_41, u_T_drop_44, u_T_drop_45, u_T_drop_46, u_T_drop_49, ne_eq, not_false_eq_true, not_true_eq_false, true_and, and_true, true_or, or_true, eq_self, Option.toList_some, Option.toList_none, List.cons_append, List.nil_append, tc_0, tc_I, tc_L, tc_A, Nat.reduceAdd, Nat.reduceLeDiff, Nat.reduceEqDiff, Int.reduceEq, Int.reduceLT, Int.reduceLE, Int.reduceNeg, Int.reduceToNat, Int.cast_ofNat_Int, if_true, if_false, and_self, or_self, ite_self, bI_0, bI_1, bI_01, Bool.false_eq_true, reduceCtorEq, s_T_isRoutine, hk', decide_false, bB_f]
    refine hQ _ f t (RefP_0 hR (fun L d Q => ?_))
    simp only [u_M_drop_0, u_M_drop_1, u_M_drop_4, u_M_drop_7, u_M_drop_8, u_M_drop_9, u_M_drop_10, u_M_drop_13, u_M_drop_14, u_M_drop_15, u_M_drop_18, u_M_drop_20, u_M_drop_21, u_M_drop_22, u_M_drop_25, u_M_drop_26, u_M_drop_27z h1_161, u_M_drop_28, u_M_drop_29, u_M_drop_30, u_M_drop_33, u_M_drop_34, u_M_drop_37, u_M_drop_38, u_M_drop_39, ne_eq, not_false_eq_true, not_true_eq_false, true_and, and_true, true_or, or_true, eq_self, Option.toList_some, Option.toList_none, List.cons_append, List.nil_append, tc_0, tc_I, tc_L, tc_A, Nat.reduceAdd, Nat.reduceLeDiff, Nat.reduceEqDiff, Int.reduceEq, Int.reduceLT, Int.reduceLE, Int.reduceNeg, Int.reduceToNat, Int.cast_ofNat_Int, if_true, if_false, and_self, or_self, ite_self, bI_0, bI_1, bI_01, Bool.false_eq_true, reduceCtorEq, s_M_isRoutine, hk, decide_false, bB_f]
end
