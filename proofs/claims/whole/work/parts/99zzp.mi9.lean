/-! What the reference emits -/
def emM (g : Mem) (P : List (Int × Int)) : Mem := fun b j => if b = 159 ∧ j < P.length then (P.map Prod.fst).getD j 0 else if b = 160 ∧ j < P.length then (P.map Prod.snd).getD j 0 else if b = 156 ∧ j = 11 then (P.length : Int) else g b j
theorem emM_n {g : Mem} {P : List (Int × Int)} : emM g P 156 11 = (P.length : Int) := by
  unfold emM; rw [if_neg (by omega), if_neg (by omega), if_pos ⟨rfl, rfl⟩]
theorem emM_o {g : Mem} {P : List (Int × Int)} {b j : Nat} (h : ¬ b = 159 ∧ ¬ b = 160 ∧ ¬ (b = 156 ∧ j = 11)) : emM g P b j = g b j := by
  unfold emM; rw [if_neg (fun hh => h.1 hh.1), if_neg (fun hh => h.2.1 hh.1), if_neg h.2.2]
theorem emM_s {g : Mem} {P : List (Int × Int)} {x y : Int} : mset (mset (mset (emM g P) 159 P.length x) 160 P.length y) 156 11 ((P.length + 1 : Nat) : Int) = emM g (P ++ [(x, y)]) := by
  funext b j
  simp only [mset, emM, List.map_append, List.map_cons, List.map_nil, gD_app, List.length_append, List.length_singleton, List.length_map]
  grind
theorem emM_0 {g : Mem} : mset g 156 11 0 = emM g [] := by
  funext b j
  simp only [mset, emM, List.length_nil]
  grind
theorem emM_v {g : Mem} {P : List (Int × Int)} {j : Nat} (h : j < P.length) : emM g P 159 j = (P.map Prod.fst).getD j 0 ∧ emM g P 160 j = (P.map Prod.snd).getD j 0 := by
  unfold emM; rw [if_pos ⟨rfl, h⟩, if_neg (by omega), if_pos ⟨rfl, h⟩]; exact ⟨rfl, rfl⟩
def eSl (pv v : Int) : Int := if v = 45 ∧ ¬ kEnd pv = true then 8 else srt v
/-- tokens as the reference has them -/
def pqL : Int → List Int → List (Int × Int)
  | _, [] => []
  | pv, v :: l => (eSl pv v, whc v) :: pqL v l
def lstD : Int → List Int → Int
  | pv, [] => pv
  | _, v :: l => lstD v l
theorem pqL_len : ∀ (l : List Int) (pv : Int), (pqL pv l).length = l.length := by
  intro l
  induction l with
  | nil => intro pv; rfl
  | cons v l ih => intro pv; show (pqL v l).length + 1 = l.length + 1; rw [ih]
theorem pqL_app : ∀ (l m : List Int) (pv : Int), pqL pv (l ++ m) = pqL pv l ++ pqL (lstD pv l) m := by
  intro l
  induction l with
  | nil => intro m pv; rfl
  | cons v l ih => intro m pv; show _ :: pqL v (l ++ m) = _ :: (pqL v l ++ _); rw [ih]; rfl
/-- no - stands first -/
def noM : List Int → Prop
  | [] => True
  | v :: _ => ¬ v = 45
theorem pqL_h {l : List Int} {x y : Int} (h : noM l) : pqL x l = pqL y l := by
  match l, h with
  | [], _ => rfl
  | v :: l, h =>
    show (eSl x v, whc v) :: pqL v l = (eSl y v, whc v) :: pqL v l
    have e : ∀ z, eSl z v = srt v := fun z => by unfold eSl; rw [if_neg (fun hh => h hh.1)]
    rw [e, e]
theorem pqL_e {l : List Int} {x y : Int} (hx : kEnd x = false) (hy : kEnd y = false) : pqL x l = pqL y l := by
  match l with
  | [] => rfl
  | v :: l =>
    show (eSl x v, whc v) :: pqL v l = (eSl y v, whc v) :: pqL v l
    have e : eSl x v = eSl y v := by unfold eSl; rw [hx, hy]
    rw [e]
theorem pqL_j {l m : List Int} (h : noM m ∨ kEnd (lstD 0 l) = false) : pqL 0 (l ++ m) = pqL 0 l ++ pqL 0 m := by
  rw [pqL_app]
  rcases h with h | h
  · rw [pqL_h h]
  · rw [pqL_e h (y := 0) (by decide)]
theorem lstD_app : ∀ (l m : List Int) (pv : Int), lstD pv (l ++ m) = lstD (lstD pv l) m := by
  intro l
  induction l with
  | nil => intro m pv; rfl
  | cons v l ih => intro m pv; exact ih m v
theorem noM_app {l m : List Int} (h : noM l) (hl : 0 < l.length) : noM (l ++ m) := by
  match l, h with
  | [], _ => simp at hl
  | v :: l, h => exact h
section
variable {L d r len : Nat} {f t g : Mem} {T : Int → Int} {Q : Option TV → Wd → Prop} {i j fr : Int} {P : List (Int × Int)}
theorem s_M_emM {x y : Int} (h : P.length < 1600) : VV L d m_M_emit 0 [some (tA 156), some (tI x), some (tI y)] [] (WW f t (emM g P)) Q = Q none (WW f t (emM g (P ++ [(x, y)]))) := by
  rw [s_M_emit (by rw [emM_n]; exact Int.natCast_nonneg _) (by rw [emM_n]; omega), emM_n, Int.toNat_natCast, show ((P.length : Int) + 1) = ((P.length + 1 : Nat) : Int) from rfl, emM_s]
theorem RT_em (h : RT g r T len) : RT (emM g P) r T len := RT_fr2 h (fun c k h1 h2 => emM_o (by omega))
theorem l_M_copies (h : RT g r T len) (hj : j ≤ len) : ∀ (k : List Int) (i : Int) (P : List (Int × Int)), 0 ≤ i → seg T i j k → P.length + k.length ≤ 1600 → VV L (d + 1) m_M_copies 3 [some (tA 156), some (tI r), some (tI fr), some (tI j), some (tI i)] [] (WW f t (emM g P)) Q = Q none (WW f t (emM g (P ++ pqL (T (i - 1)) k))) := by
  have hl1 := h.l1
  intro k
  induction k with
  | nil =>
    intro i P h0 hs _
    have e := seg_len hs
    simp only [List.length_nil] at e
    have hij : j ≤ i := by omega
    rw [u_M_copies_3]
    simp only [u_M_copies_5, u_M_copies_6, u_M_copies_45, ne_eq, not_false_eq_true, not_true_eq_false, true_and, and_true, true_or, or_true, eq_self, Option.toList_some, Option.toList_none, List.cons_append, List.nil_append, tc_0, tc_I, tc_L, tc_A, Nat.reduceAdd, Nat.reduceLeDiff, Nat.reduceEqDiff, Int.reduceEq, Int.reduceLT, Int.reduceLE, Int.reduceNeg, Int.reduceToNat, Int.cast_ofNat_Int, if_true, if_false, and_self, or_self, ite_self, bI_0, bI_1, bI_01, Bool.false_eq_true, reduceCtorEq, hij, pqL, List.append_nil]
  | cons v k ih =>
    intro i P h0 hs hlen
    have e := seg_len hs
    obtain ⟨hv, hs'⟩ := seg_hd hs
    rw [List.length_cons] at hlen e
    have hij : ¬ j ≤ i := by omega
    obtain ⟨x1, x2, x3, x4, x5, x6⟩ := (RT_em (P := P) h).ix h0 (by omega)
    have wi : w32 (i + 1) = i + 1 := w32_id (by omega) (by omega)
    have es : eS T i = eSl (T (i - 1)) v := by unfold eS eSl; rw [hv]
    have hrec := ih (i + 1) (P ++ [(eSl (T (i - 1)) v, whc v)]) (by omega) hs' (by rw [List.length_append, List.length_singleton]; omega)
    rw [show i + 1 - 1 = i by omega, hv, List.append_assoc] at hrec
    rw [u_M_copies_3]
    simp only [u_M_copies_5, u_M_copies_6, u_M_copies_9, u_M_copies_10, u_M_copies_11, u_M_copies_14, u_M_copies_17, u_M_copies_18, u_M_copies_19, u_M_copies_21, u_M_copies_22, u_M_copies_23, u_M_copies_24, u_M_copies_27, u_M_copies_30, u_M_copies_31, u_M_copies_32, u_M_copies_34, u_M_copies_35, u_M_copies_36, u_M_copies_39, u_M_copies_42, h1_156, gt_156_25, gt_156_26, h1_164, h2_164, gt_164, pt_164, h1_165, h2_165, gt_165, pt_165, ne_eq, not_false_eq_true, not_true_eq_false, true_and, and_true, true_or, or_true, eq_self, Option.toList_some, Option.toList_none, List.cons_append, List.nil_append, tc_0, tc_I, tc_L, tc_A, Nat.reduceAdd, Nat.reduceLeDiff, Nat.reduceEqDiff, Int.reduceEq, Int.reduceLT, Int.reduceLE, Int.reduceNeg, Int.reduceToNat, Int.cast_ofNat_Int, if_true, if_false, and_self, or_self, ite_self, bI_0, bI_1, bI_01, Bool.false_eq_true, reduceCtorEq, hij, x1, x2, x3, x4, x5, x6, es, hv, s_M_emM (show P.length < 1600 by omega), wi]
    exact hrec
theorem s_M_copies {k : List Int} (h : RT g r T len) (hj : j ≤ len) (h0 : 0 ≤ i) (hs : seg T i j k) (hlen : P.length + k.length ≤ 1600) : VV L (d + 1) m_M_copies 0 [some (tA 156), some (tI r), some (tI i), some (tI j), none] [] (WW f t (emM g P)) Q = Q none (WW f t (emM g (P ++ pqL (T (i - 1)) k))) := by
  rw [← l_M_copies (L := L) (d := d) (f := f) (t := t) (Q := Q) (fr := i) h hj k i P h0 hs hlen]
  simp only [u_M_copies_0, u_M_copies_1, ne_eq, not_false_eq_true, not_true_eq_false, true_and, and_true, true_or, or_true, eq_self, Option.toList_some, Option.toList_none, List.cons_append, List.nil_append, tc_0, tc_I, tc_L, tc_A, Nat.reduceAdd, Nat.reduceLeDiff, Nat.reduceEqDiff, Int.reduceEq, Int.reduceLT, Int.reduceLE, Int.reduceNeg, Int.reduceToNat, Int.cast_ofNat_Int, if_true, if_false, and_self, or_self, ite_self, bI_0, bI_1, bI_01, Bool.false_eq_true, reduceCtorEq]
theorem s_M_stepEnd {l : List Int} (h : RT g r T len) (hj : T j = 59) (hk : Skp 59 0 l 0) (hs : seg T i j l) (h0 : 0 ≤ i) : VV L (d + 2) m_M_stepEnd 0 [some (tA 156), some (tI r), some (tI i), none] [] (WW f t g) Q = Q (some (tI (j + 1))) (WW f t g) := by
  have hjl : j < len := by
    by_cases hq : j < len
    · exact hq
    · have := h.z j (Or.inr (by omega)); omega
  have hl1 := h.l1
  have e := seg_len hs
  have wj : w32 (j + 1) = j + 1 := w32_id (by omega) (by omega)
  simp only [u_M_stepEnd_0, u_M_stepEnd_1, u_M_stepEnd_2, u_M_stepEnd_3, u_M_stepEnd_5, u_M_stepEnd_8, u_M_stepEnd_9, u_M_stepEnd_10, u_M_stepEnd_11, u_M_stepEnd_12, h1_156, ne_eq, not_false_eq_true, not_true_eq_false, true_and, and_true, true_or, or_true, eq_self, Option.toList_some, Option.toList_none, List.cons_append, List.nil_append, tc_0, tc_I, tc_L, tc_A, Nat.reduceAdd, Nat.reduceLeDiff, Nat.reduceEqDiff, Int.reduceEq, Int.reduceLT, Int.reduceLE, Int.reduceNeg, Int.reduceToNat, Int.cast_ofNat_Int, if_true, if_false, and_self, or_self, ite_self, bI_0, bI_1, bI_01, Bool.false_eq_true, reduceCtorEq, s_M_find h (by decide) (show ¬ (59 : Int) = 45 by decide) (by decide) hj hk hs h0, wj]
theorem l_M_closes (h : RT g r T len) (hj : T j = 125) : ∀ (l : List Int) (i o : Int), Wl brc o l 1 → seg T i j l → 0 ≤ i → 0 ≤ o → o + l.length ≤ 3000 → VV L (d + 1) m_M_closes 5 [some (tA 156), some (tI r), some (tI fr), some (tI i), some (tI o)] [] (WW f t g) Q = Q (some (tI j)) (WW f t g) := by
  have hjl : j < len := by
    by_cases hq : j < len
    · exact hq
    · have := h.z j (Or.inr (by omega)); omega
  have hl1 := h.l1
  intro l
  induction l with
  | nil =>
    intro i o hk hs h0 _ _
    have e := seg_len hs
    simp only [List.length_nil] at e
    have hij : i = j := by omega
    subst hij
    have ho : o = 1 := hk
    have wj : w32 (i + 1) = i + 1 := w32_id (by omega) (by omega)
    have wj2 : w32 (i + 1 - 1) = i := by rw [w32_id (by omega) (by omega)]; omega
    have wo : w32 ((1 : Int) + -1) = 0 := by decide
    rw [u_M_closes_5]
    simp only [u_M_closes_7, u_M_closes_8, u_M_closes_9, u_M_closes_10, u_M_closes_12, u_M_closes_14, u_M_closes_17, u_M_closes_20, u_M_closes_21, u_M_closes_24, u_M_closes_25, u_M_closes_26, u_M_closes_27, u_M_closes_29, u_M_closes_31, u_M_closes_34, u_M_closes_37, u_M_closes_38, u_M_closes_41, u_M_closes_42, u_M_closes_43, u_M_closes_45, u_M_closes_48, u_M_closes_50, u_M_closes_53, u_M_closes_54, u_M_closes_55, u_M_closes_56, h1_156, ne_eq, not_false_eq_true, not_true_eq_false, true_and, and_true, true_or, or_true, eq_self, Option.toList_some, Option.toList_none, List.cons_append, List.nil_append, tc_0, tc_I, tc_L, tc_A, Nat.reduceAdd, Nat.reduceLeDiff, Nat.reduceEqDiff, Int.reduceEq, Int.reduceLT, Int.reduceLE, Int.reduceNeg, Int.reduceToNat, Int.cast_ofNat_Int, if_true, if_false, and_self, or_self, ite_self, bI_0, bI_1, bI_01, Bool.false_eq_true, reduceCtorEq, ho, s_M_is123 h h0, s_M_is125 h h0, bB_0, hj, Int.reduceEq, decide_true, decide_false, wo, wj, wj2, Int.lt_irrefl]
  | cons v l ih =>
    intro i o hk hs h0 ho hb
    obtain ⟨hv, hs⟩ := seg_hd hs
    obtain ⟨hk1, hk2⟩ := hk
    rw [List.length_cons] at hb
    have hij := hs.1
    have wi : w32 (i + 1) = i + 1 := w32_id (by omega) (by omega)
    have hbr : -1 ≤ brc v ∧ brc v ≤ 1 := by unfold brc; (repeat' split) <;> omega
    have hrec := ih (i + 1) (o + brc v) hk2 hs (by omega) (by omega) (by omega)
    rw [u_M_closes_5]
    by_cases c1 : v = 123
    · have e : brc v = 1 := by simp [brc, c1]
      have we : w32 (o + 1) = o + 1 := w32_id (by omega) (by omega)
      rw [e] at hrec hk1
      simp only [u_M_closes_7, u_M_closes_8, u_M_closes_9, u_M_closes_10, u_M_closes_12, u_M_closes_14, u_M_closes_17, u_M_closes_20, u_M_closes_21, u_M_closes_24, u_M_closes_25, u_M_closes_26, u_M_closes_27, u_M_closes_29, u_M_closes_31, u_M_closes_34, u_M_closes_37, u_M_closes_38, u_M_closes_41, u_M_closes_42, u_M_closes_43, u_M_closes_45, u_M_closes_48, u_M_closes_50, h1_156, ne_eq, not_false_eq_true, not_true_eq_false, true_and, and_true, true_or, or_true, eq_self, Option.toList_some, Option.toList_none, List.cons_append, List.nil_append, tc_0, tc_I, tc_L, tc_A, Nat.reduceAdd, Nat.reduceLeDiff, Nat.reduceEqDiff, Int.reduceEq, Int.reduceLT, Int.reduceLE, Int.reduceNeg, Int.reduceToNat, Int.cast_ofNat_Int, if_true, if_false, and_self, or_self, ite_self, bI_0, bI_1, bI_01, Bool.false_eq_true, reduceCtorEq, s_M_is123 h h0, s_M_is125 h h0, bB_0, hv, c1, decide_true, we, wi, hk1]
      exact hrec
    · by_cases c2 : v = 125
      · have e : brc v = -1 := by simp [brc, c2]
        have we : w32 (o + -1) = o + -1 := w32_id (by omega) (by omega)
        rw [e] at hrec hk1
        simp only [u_M_closes_7, u_M_closes_8, u_M_closes_9, u_M_closes_10, u_M_closes_12, u_M_closes_14, u_M_closes_17, u_M_closes_20, u_M_closes_21, u_M_closes_24, u_M_closes_25, u_M_closes_26, u_M_closes_27, u_M_closes_29, u_M_closes_31, u_M_closes_34, u_M_closes_37, u_M_closes_38, u_M_closes_41, u_M_closes_42, u_M_closes_43, u_M_closes_45, u_M_closes_48, u_M_closes_50, h1_156, ne_eq, not_false_eq_true, not_true_eq_false, true_and, and_true, true_or, or_true, eq_self, Option.toList_some, Option.toList_none, List.cons_append, List.nil_append, tc_0, tc_I, tc_L, tc_A, Nat.reduceAdd, Nat.reduceLeDiff, Nat.reduceEqDiff, Int.reduceEq, Int.reduceLT, Int.reduceLE, Int.reduceNeg, Int.reduceToNat, Int.cast_ofNat_Int, if_true, if_false, and_self, or_self, ite_self, bI_0, bI_1, bI_01, Bool.false_eq_true, reduceCtorEq, s_M_is123 h h0, s_M_is125 h h0, bB_0, hv, c2, Int.reduceEq, decide_true, decide_false, we, wi, hk1]
        exact hrec
      · have e : brc v = 0 := by simp [brc, c1, c2]
        have we : w32 (o + 0) = o + 0 := w32_id (by omega) (by omega)
        rw [e] at hrec hk1
        simp only [u_M_closes_7, u_M_closes_8, u_M_closes_9, u_M_closes_10, u_M_closes_12, u_M_closes_14, u_M_closes_17, u_M_closes_20, u_M_closes_21, u_M_closes_24, u_M_closes_25, u_M_closes_26, u_M_closes_27, u_M_closes_29, u_M_closes_31, u_M_closes_34, u_M_closes_37, u_M_closes_38, u_M_closes_41, u_M_closes_42, u_M_closes_43, u_M_closes_45, u_M_closes_48, u_M_closes_50, h1_156, ne_eq, not_false_eq_true, not_true_eq_false, true_and, and_true, true_or, or_true, eq_self, Option.toList_some, Option.toList_none, List.cons_append, List.nil_append, tc_0, tc_I, tc_L, tc_A, Nat.reduceAdd, Nat.reduceLeDiff, Nat.reduceEqDiff, Int.reduceEq, Int.reduceLT, Int.reduceLE, Int.reduceNeg, Int.reduceToNat, Int.cast_ofNat_Int, if_true, if_false, and_self, or_self, ite_self, bI_0, bI_1, bI_01, Bool.false_eq_true, reduceCtorEq, s_M_is123 h h0, s_M_is125 h h0, bB_0, hv, c1, c2, decide_false, we, wi, hk1]
        exact hrec
theorem s_M_closes {l : List Int} (h : RT g r T len) (hi : T i = 123) (hj : T j = 125) (hk : Wl brc 1 l 1) (hs : seg T (i + 1) j l) (h0 : 0 ≤ i) : VV L (d + 1) m_M_closes 0 [some (tA 156), some (tI r), some (tI i), none, none] [] (WW f t g) Q = Q (some (tI j)) (WW f t g) := by
  have hjl : j < len := by
    by_cases hq : j < len
    · exact hq
    · have := h.z j (Or.inr (by omega)); omega
  have hl1 := h.l1
  have e := seg_len hs
  simp only [u_M_closes_0, u_M_closes_1, u_M_closes_2, u_M_closes_3, ne_eq, not_false_eq_true, not_true_eq_false, true_and, and_true, true_or, or_true, eq_self, Option.toList_some, Option.toList_none, List.cons_append, List.nil_append, tc_0, tc_I, tc_L, tc_A, Nat.reduceAdd, Nat.reduceLeDiff, Nat.reduceEqDiff, Int.reduceEq, Int.reduceLT, Int.reduceLE, Int.reduceNeg, Int.reduceToNat, Int.cast_ofNat_Int, if_true, if_false, and_self, or_self, ite_self, bI_0, bI_1, bI_01, Bool.false_eq_true, reduceCtorEq]
  refine l_M_closes h hj (123 :: l) i 0 ⟨by simp [brc], by simpa [brc] using hk⟩ ?_ h0 (by omega) (by rw [List.length_cons]; omega)
  exact seg_cons hi hs
end
