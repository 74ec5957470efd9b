/-! The reference's values: what is read, leaves -/
abbrev EnM (g : Mem) (E : Env) (TH : Nat) : Prop := (g 156 35 = (TH : Int)) ∧ (TH < 67108864) ∧ (∀ k : Nat, k < 26 → (TH.testBit k = false ∧ E.1 k = none) ∨ (TH.testBit k = true ∧ E.1 k = some (g 174 k))) ∧ (∀ r : Nat, r < 6 → (g 175 r = -1 ∧ E.2.1 r = none) ∨ (0 ≤ g 175 r ∧ g 175 r < 15 ∧ E.2.1 r = some (g 177 (g 175 r).toNat))) ∧ (∀ n : Nat, n < 15 → 0 ≤ g 177 n ∧ g 177 n ≤ 12) ∧ (∀ r i : Nat, r < 6 → 0 ≤ g 175 r → (i : Int) < g 177 (g 175 r).toNat → E.2.2.1 r i = g 178 (12 * (g 175 r).toNat + i)) ∧ (∀ r i : Nat, r < 6 → 0 ≤ g 175 r → (i : Int) < 12 → E.2.2.2 r i = decide (g 156 49 = g 175 r ∧ g 156 50 = i))
theorem EnM.t {g : Mem} {E : Env} {TH : Nat} (hSelf : EnM g E TH) : g 156 35 = (TH : Int) := hSelf.1
theorem EnM.tl {g : Mem} {E : Env} {TH : Nat} (hSelf : EnM g E TH) : TH < 67108864 := hSelf.2.1
theorem EnM.n {g : Mem} {E : Env} {TH : Nat} (hSelf : EnM g E TH) : ∀ k : Nat, k < 26 → (TH.testBit k = false ∧ E.1 k = none) ∨ (TH.testBit k = true ∧ E.1 k = some (g 174 k)) := hSelf.2.2.1
theorem EnM.r {g : Mem} {E : Env} {TH : Nat} (hSelf : EnM g E TH) : ∀ r : Nat, r < 6 → (g 175 r = -1 ∧ E.2.1 r = none) ∨ (0 ≤ g 175 r ∧ g 175 r < 15 ∧ E.2.1 r = some (g 177 (g 175 r).toNat)) := hSelf.2.2.2.1
theorem EnM.c {g : Mem} {E : Env} {TH : Nat} (hSelf : EnM g E TH) : ∀ n : Nat, n < 15 → 0 ≤ g 177 n ∧ g 177 n ≤ 12 := hSelf.2.2.2.2.1
theorem EnM.i {g : Mem} {E : Env} {TH : Nat} (hSelf : EnM g E TH) : ∀ r i : Nat, r < 6 → 0 ≤ g 175 r → (i : Int) < g 177 (g 175 r).toNat → E.2.2.1 r i = g 178 (12 * (g 175 r).toNat + i) := hSelf.2.2.2.2.2.1
theorem EnM.b {g : Mem} {E : Env} {TH : Nat} (hSelf : EnM g E TH) : ∀ r i : Nat, r < 6 → 0 ≤ g 175 r → (i : Int) < 12 → E.2.2.2 r i = decide (g 156 49 = g 175 r ∧ g 156 50 = i) := hSelf.2.2.2.2.2.2
def WM (g : Mem) (N : Nat) (I : Nat → Nat) : Prop := g 156 47 = (N : Int) ∧ N < 67108864 ∧ ∀ k, k < 15 → g 181 k = (I k : Int) ∧ I k < 4096
def FM (g g' : Mem) : Prop := ∀ b j, ¬ (b = 181 ∨ (b = 156 ∧ (j = 44 ∨ j = 46 ∨ j = 47))) → g' b j = g b j
theorem FM_refl {g : Mem} : FM g g := fun _ _ _ => rfl
theorem FM_tr {f f1 f2 : Mem} (h : FM f f1) (h' : FM f1 f2) : FM f f2 := fun b j hh => (h' b j hh).trans (h b j hh)
theorem FM_m {f : Mem} {j : Nat} {v : Int} (h : j = 44 ∨ j = 46 ∨ j = 47) : FM f (mset f 156 j v) := fun b k hh => by rw [rd, if_neg (by omega)]
theorem EnM_fr {g g' : Mem} {E : Env} {TH : Nat} (h : EnM g E TH) (hf : ∀ b j, (174 ≤ b ∧ b ≤ 178) ∨ (b = 156 ∧ (j = 35 ∨ j = 49 ∨ j = 50)) → g' b j = g b j) : EnM g' E TH := by
  refine ⟨?_, h.tl, fun k hk => ?_, fun r hr => ?_, fun n hn => ?_, fun r i hr h0 hi => ?_, fun r i hr h0 hi => ?_⟩
  · rw [hf 156 35 (by omega)]; exact h.t
  · rw [hf 174 k (by omega)]; exact h.n k hk
  · rw [hf 175 r (by omega), hf 177 _ (by omega)]; exact h.r r hr
  · rw [hf 177 n (by omega)]; exact h.c n hn
  · rw [hf 175 r (by omega)] at h0
    rw [hf 175 r (by omega), hf 177 _ (by omega)] at hi
    rw [hf 175 r (by omega), hf 178 _ (by omega)]
    exact h.i r i hr h0 hi
  · rw [hf 175 r (by omega)] at h0
    rw [hf 175 r (by omega), hf 156 49 (by omega), hf 156 50 (by omega)]
    exact h.b r i hr h0 hi
theorem EnM_FM {g g' : Mem} {E : Env} {TH : Nat} (h : EnM g E TH) (hf : FM g g') : EnM g' E TH := EnM_fr h (fun b j hh => hf b j (by omega))
theorem RT_FM {g g' : Mem} {r len : Nat} {T : Int → Int} (h : RT g r T len) (hf : FM g g') : RT g' r T len := RT_fr2 h (fun c k h1 h2 => hf c k (by omega))
def hlm (g : Mem) (r : Int) : Int := g 175 r.toNat
theorem hlm_FM {f f' : Mem} (hf : FM f f') : hlm f' = hlm f := by funext r; exact hf 175 _ (by omega)
def VM (g : Mem) (N : Nat) (I : Nat → Nat) (f t : Mem) (j : Int) (Q : Option TV → Wd → Prop) : Rs → Prop
  | .ok (v, q) => ∀ g', FM g g' → g' 156 44 = j → g' 156 46 = 0 → WM g' (snN N q) (snI (hlm g) I q) → Q (some (tL v)) (WW f t g')
  | .error w => ∀ g' v, FM g g' → g' 156 46 = w → ¬ w = 0 → Q (some (tL v)) (WW f t g')
theorem VM_seq {f t g g1 : Mem} {N : Nat} {I : Nat → Nat} {j : Int} {Q : Option TV → Wd → Prop} {q : List (Int × Int)} {R : Rs} (hf : FM g g1) (h : VM g N I f t j Q (addq q R)) : VM g1 (snN N q) (snI (hlm g) I q) f t j Q R := by
  cases R with
  | error e => exact fun f' v a b c => h f' v (FM_tr hf a) b c
  | ok z =>
    obtain ⟨v, r⟩ := z
    intro f' a b c e
    rw [hlm_FM hf] at e
    exact h f' (FM_tr hf a) b c (by rw [snN_app, snI_app]; exact e)
theorem VM_FM {f t g g1 : Mem} {N : Nat} {I : Nat → Nat} {j : Int} {Q : Option TV → Wd → Prop} {R : Rs} (hf : FM g g1) (h : VM g N I f t j Q R) : VM g1 N I f t j Q R := VM_seq (q := []) hf (by rw [addq_nil]; exact h)
theorem WM_m {f : Mem} {N : Nat} {I : Nat → Nat} {j : Nat} {v : Int} (h : WM f N I) (hj : ¬ j = 47) : WM (mset f 156 j v) N I := by
  obtain ⟨a, b, c⟩ := h
  refine ⟨by rw [rd, if_neg (by omega)]; exact a, b, fun k hk => ?_⟩
  rw [rd, if_neg (by omega)]; exact c k hk
section
variable {L d r len : Nat} {f t g : Mem} {T : Int → Int} {Q : Option TV → Wd → Prop} {w v q s : Int}
theorem s_M_refuse : VV L d m_M_refuse 0 [some (tA 156), some (tI v)] [] (WW f t g) Q = Q (some (tL 0)) (WW f t (mset g 156 46 v)) := by
  simp only [u_M_refuse_0, u_M_refuse_1, u_M_refuse_2, u_M_refuse_5, u_M_refuse_6, h1_156, gt_156_46, pt_156_46, ne_eq, not_false_eq_true, not_true_eq_false, true_and, and_true, true_or, or_true, eq_self, Option.toList_some, Option.toList_none, List.cons_append, List.nil_append, tc_0, tc_I, tc_L, tc_A, Nat.reduceAdd, Nat.reduceLeDiff, Nat.reduceEqDiff, Int.reduceEq, Int.reduceLT, Int.reduceLE, Int.reduceNeg, Int.reduceToNat, Int.cast_ofNat_Int, if_true, if_false, and_self, or_self, ite_self, bI_0, bI_1, bI_01, Bool.false_eq_true, reduceCtorEq]
theorem s_M_isHere (h : RT g r T len) (he : g 156 45 = (r : Int)) (hq : g 156 44 = q) (h0 : 0 ≤ q) (hw : sgn w = true) (h45 : ¬ w = 45) (hz : ¬ w = 0) : VV L (d + 1) m_M_isHere 0 [some (tA 156), some (tI w)] [] (WW f t g) Q = Q (some (tI (bB (decide (T q = w))))) (WW f t g) := by
  simp only [u_M_isHere_0, u_M_isHere_1, u_M_isHere_2, u_M_isHere_5, u_M_isHere_6, u_M_isHere_9, u_M_isHere_11, u_M_isHere_12, u_M_isHere_15, h1_156, gt_156_45, pt_156_45, gt_156_44, pt_156_44, ne_eq, not_false_eq_true, not_true_eq_false, true_and, and_true, true_or, or_true, eq_self, Option.toList_some, Option.toList_none, List.cons_append, List.nil_append, tc_0, tc_I, tc_L, tc_A, Nat.reduceAdd, Nat.reduceLeDiff, Nat.reduceEqDiff, Int.reduceEq, Int.reduceLT, Int.reduceLE, Int.reduceNeg, Int.reduceToNat, Int.cast_ofNat_Int, if_true, if_false, and_self, or_self, ite_self, bI_0, bI_1, bI_01, Bool.false_eq_true, reduceCtorEq, he, hq, s_M_isSign h h0 hw h45 hz, bB_01]
theorem s_M_sortHere (h : RT g r T len) (he : g 156 45 = (r : Int)) (hq : g 156 44 = q) (h0 : 0 ≤ q) (h1 : q < len) : VV L d m_M_sortHere 0 [some (tA 156)] [] (WW f t g) Q = Q (some (tI (eS T q))) (WW f t g) := by
  obtain ⟨x1, x2, x3, x4, x5, x6⟩ := h.ix h0 h1
  simp only [u_M_sortHere_0, u_M_sortHere_1, u_M_sortHere_4, u_M_sortHere_7, u_M_sortHere_8, u_M_sortHere_11, u_M_sortHere_12, u_M_sortHere_13, u_M_sortHere_16, u_M_sortHere_17, u_M_sortHere_18, h1_156, gt_156_25, h1_164, h2_164, gt_164, pt_164, gt_156_45, pt_156_45, gt_156_44, pt_156_44, ne_eq, not_false_eq_true, not_true_eq_false, true_and, and_true, true_or, or_true, eq_self, Option.toList_some, Option.toList_none, List.cons_append, List.nil_append, tc_0, tc_I, tc_L, tc_A, Nat.reduceAdd, Nat.reduceLeDiff, Nat.reduceEqDiff, Int.reduceEq, Int.reduceLT, Int.reduceLE, Int.reduceNeg, Int.reduceToNat, Int.cast_ofNat_Int, if_true, if_false, and_self, or_self, ite_self, bI_0, bI_1, bI_01, Bool.false_eq_true, reduceCtorEq, he, hq, x1, x2, x3, x4, x5]
theorem s_M_isSum {w : Wd} : VV L d m_M_isSum 0 [some (tI s), some (tI v)] [] w Q = Q (some (tI (bB (decide (s = 7) && kSum v)))) w := by
  unfold kSum
  by_cases h : s = 7
  · by_cases h1 : v = 43
    · simp only [u_M_isSum_0, u_M_isSum_1, u_M_isSum_3, u_M_isSum_6, u_M_isSum_7, u_M_isSum_9, u_M_isSum_12, u_M_isSum_13, u_M_isSum_15, u_M_isSum_18, u_M_isSum_19, u_M_isSum_21, u_M_isSum_24, u_M_isSum_25, u_M_isSum_27, u_M_isSum_30, u_M_isSum_31, u_M_isSum_34, u_M_isSum_35, h1_156, ne_eq, not_false_eq_true, not_true_eq_false, true_and, and_true, true_or, or_true, eq_self, Option.toList_some, Option.toList_none, List.cons_append, List.nil_append, tc_0, tc_I, tc_L, tc_A, Nat.reduceAdd, Nat.reduceLeDiff, Nat.reduceEqDiff, Int.reduceEq, Int.reduceLT, Int.reduceLE, Int.reduceNeg, Int.reduceToNat, Int.cast_ofNat_Int, if_true, if_false, and_self, or_self, ite_self, bI_0, bI_1, bI_01, Bool.false_eq_true, reduceCtorEq, h, h1, bB, decide_true, Bool.true_and]
    · by_cases h2 : v = 45
      · simp only [u_M_isSum_0, u_M_isSum_1, u_M_isSum_3, u_M_isSum_6, u_M_isSum_7, u_M_isSum_9, u_M_isSum_12, u_M_isSum_13, u_M_isSum_15, u_M_isSum_18, u_M_isSum_19, u_M_isSum_21, u_M_isSum_24, u_M_isSum_25, u_M_isSum_27, u_M_isSum_30, u_M_isSum_31, u_M_isSum_34, u_M_isSum_35, h1_156, ne_eq, not_false_eq_true, not_true_eq_false, true_and, and_true, true_or, or_true, eq_self, Option.toList_some, Option.toList_none, List.cons_append, List.nil_append, tc_0, tc_I, tc_L, tc_A, Nat.reduceAdd, Nat.reduceLeDiff, Nat.reduceEqDiff, Int.reduceEq, Int.reduceLT, Int.reduceLE, Int.reduceNeg, Int.reduceToNat, Int.cast_ofNat_Int, if_true, if_false, and_self, or_self, ite_self, bI_0, bI_1, bI_01, Bool.false_eq_true, reduceCtorEq, h, h1, h2, bB, decide_true, Bool.true_and]
      · by_cases h3 : v = 94
        · simp only [u_M_isSum_0, u_M_isSum_1, u_M_isSum_3, u_M_isSum_6, u_M_isSum_7, u_M_isSum_9, u_M_isSum_12, u_M_isSum_13, u_M_isSum_15, u_M_isSum_18, u_M_isSum_19, u_M_isSum_21, u_M_isSum_24, u_M_isSum_25, u_M_isSum_27, u_M_isSum_30, u_M_isSum_31, u_M_isSum_34, u_M_isSum_35, h1_156, ne_eq, not_false_eq_true, not_true_eq_false, true_and, and_true, true_or, or_true, eq_self, Option.toList_some, Option.toList_none, List.cons_append, List.nil_append, tc_0, tc_I, tc_L, tc_A, Nat.reduceAdd, Nat.reduceLeDiff, Nat.reduceEqDiff, Int.reduceEq, Int.reduceLT, Int.reduceLE, Int.reduceNeg, Int.reduceToNat, Int.cast_ofNat_Int, if_true, if_false, and_self, or_self, ite_self, bI_0, bI_1, bI_01, Bool.false_eq_true, reduceCtorEq, h, h1, h2, h3, bB, decide_true, Bool.true_and]
        · by_cases h4 : v = 124
          · simp only [u_M_isSum_0, u_M_isSum_1, u_M_isSum_3, u_M_isSum_6, u_M_isSum_7, u_M_isSum_9, u_M_isSum_12, u_M_isSum_13, u_M_isSum_15, u_M_isSum_18, u_M_isSum_19, u_M_isSum_21, u_M_isSum_24, u_M_isSum_25, u_M_isSum_27, u_M_isSum_30, u_M_isSum_31, u_M_isSum_34, u_M_isSum_35, h1_156, ne_eq, not_false_eq_true, not_true_eq_false, true_and, and_true, true_or, or_true, eq_self, Option.toList_some, Option.toList_none, List.cons_append, List.nil_append, tc_0, tc_I, tc_L, tc_A, Nat.reduceAdd, Nat.reduceLeDiff, Nat.reduceEqDiff, Int.reduceEq, Int.reduceLT, Int.reduceLE, Int.reduceNeg, Int.reduceToNat, Int.cast_ofNat_Int, if_true, if_false, and_self, or_self, ite_self, bI_0, bI_1, bI_01, Bool.false_eq_true, reduceCtorEq, h, h1, h2, h3, h4, bB, decide_true, Bool.true_and]
          · simp only [u_M_isSum_0, u_M_isSum_1, u_M_isSum_3, u_M_isSum_6, u_M_isSum_7, u_M_isSum_9, u_M_isSum_12, u_M_isSum_13, u_M_isSum_15, u_M_isSum_18, u_M_isSum_19, u_M_isSum_21, u_M_isSum_24, u_M_isSum_25, u_M_isSum_27, u_M_isSum_30, u_M_isSum_31, u_M_isSum_34, u_M_isSum_35, h1_156, ne_eq, not_false_eq_true, not_true_eq_false, true_and, and_true, true_or, or_true, eq_self, Option.toList_some, Option.toList_none, List.cons_append, List.nil_append, tc_0, tc_I, tc_L, tc_A, Nat.reduceAdd, Nat.reduceLeDiff, Nat.reduceEqDiff, Int.reduceEq, Int.reduceLT, Int.reduceLE, Int.reduceNeg, Int.reduceToNat, Int.cast_ofNat_Int, if_true, if_false, and_self, or_self, ite_self, bI_0, bI_1, bI_01, Bool.false_eq_true, reduceCtorEq, h, h1, h2, h3, h4, bB, decide_true, decide_false, Bool.true_and]
  · simp only [u_M_isSum_0, u_M_isSum_1, u_M_isSum_3, u_M_isSum_6, u_M_isSum_7, u_M_isSum_9, u_M_isSum_12, u_M_isSum_13, u_M_isSum_15, u_M_isSum_18, u_M_isSum_19, u_M_isSum_21, u_M_isSum_24, u_M_isSum_25, u_M_isSum_27, u_M_isSum_30, u_M_isSum_31, u_M_isSum_34, u_M_isSum_35, h1_156, ne_eq, not_false_eq_true, not_true_eq_false, true_and, and_true, true_or, or_true, eq_self, Option.toList_some, Option.toList_none, List.cons_append, List.nil_append, tc_0, tc_I, tc_L, tc_A, Nat.reduceAdd, Nat.reduceLeDiff, Nat.reduceEqDiff, Int.reduceEq, Int.reduceLT, Int.reduceLE, Int.reduceNeg, Int.reduceToNat, Int.cast_ofNat_Int, if_true, if_false, and_self, or_self, ite_self, bI_0, bI_1, bI_01, Bool.false_eq_true, reduceCtorEq, h, bB, decide_false, Bool.false_and]
end
/-! an E ends with what may end a factor -/
section
variable {T : Int → Int}
theorem kL_z (x : Int ⊕ Int) (h : wL x) (i j : Int) (hs : seg T i j (kL x)) : kEnd (T (j - 1)) = true ∧ i < j := by
  match x, h, hs with
  | .inl v, h, hs =>
    obtain ⟨hv, _⟩ := seg_hd hs
    have e := seg_len hs
    simp [kL] at e
    rw [e, show i + 1 - 1 = i by omega, hv]
    refine ⟨?_, by omega⟩
    rcases h with h | h
    · unfold kEnd; simp; omega
    · unfold kName at h; unfold kEnd; simp at h ⊢; omega
  | .inr r, h, hs =>
    obtain ⟨_, hs'⟩ := seg_hd hs
    obtain ⟨hv, _⟩ := seg_hd hs'
    have e := seg_len hs
    simp [kL] at e
    rw [e, show i + 2 - 1 = i + 1 by omega, hv]
    refine ⟨?_, by omega⟩
    have : kRow r = true := h
    unfold kRow at this; unfold kEnd; simp at this ⊢; omega
theorem last_z {i j v : Int} {l : List Int} (hs : seg T i j (l ++ [v])) (hv : kEnd v = true) : kEnd (T (j - 1)) = true ∧ i < j := by
  obtain ⟨h1, h2⟩ := seg_split hs
  have e := seg_len hs
  rw [List.length_append] at e
  simp at e
  have := (seg_hd h2).1
  rw [show j - 1 = i + l.length by omega, this]
  exact ⟨hv, by omega⟩
theorem flat_z {α : Type} {k : α → List Int} : ∀ (l : List (Int × α)) (i0 i j : Int), i0 < i → kEnd (T (i - 1)) = true → (∀ p ∈ l, ∀ i j, seg T i j (k p.2) → kEnd (T (j - 1)) = true ∧ i < j) → seg T i j (l.flatMap (fun p => p.1 :: k p.2)) → kEnd (T (j - 1)) = true ∧ i0 < j := by
  intro l
  induction l with
  | nil => intro i0 i j h0 h _ hs; have e := seg_len hs; simp at e; rw [e]; exact ⟨h, h0⟩
  | cons p l ih =>
    intro i0 i j h0 h hp hs
    rw [List.flatMap_cons, List.cons_append] at hs
    obtain ⟨_, hs⟩ := seg_hd hs
    obtain ⟨h1, h2⟩ := seg_split hs
    have q := hp p List.mem_cons_self _ _ h1
    exact ih i0 _ j (by omega) q.1 (fun p' hp' => hp p' (List.mem_cons_of_mem _ hp')) h2
theorem kT_z {F : Type} {kf : F → List Int} {wf : F → Prop} (hf : ∀ x, wf x → ∀ i j, seg T i j (kf x) → kEnd (T (j - 1)) = true ∧ i < j) (x : Ter F) (h : wT wf x) (i j : Int) (hs : seg T i j (kT kf x)) : kEnd (T (j - 1)) = true ∧ i < j := by
  obtain ⟨h1, h2⟩ := seg_split hs
  have q := hf _ h.1 _ _ h1
  exact flat_z x.2 i _ j q.2 q.1 (fun p hp => hf p.2 (h.2 p hp).2) h2
theorem kE_z {F : Type} {kf : F → List Int} {wf : F → Prop} (hf : ∀ x, wf x → ∀ i j, seg T i j (kf x) → kEnd (T (j - 1)) = true ∧ i < j) (x : Exq F) (h : wE wf x) (i j : Int) (hs : seg T i j (kE kf x)) : kEnd (T (j - 1)) = true ∧ i < j := by
  obtain ⟨h1, h2⟩ := seg_split hs
  have q := kT_z hf _ h.1 _ _ h1
  exact flat_z x.2 i _ j q.2 q.1 (fun p hp => kT_z hf p.2 (h.2 p hp).2) h2
theorem kF_z : ∀ (b : Nat) (x : FF b), wF b x → ∀ i j, seg T i j (kF b x) → kEnd (T (j - 1)) = true ∧ i < j := by
  intro b
  induction b with
  | zero => intro x h i j hs; exact kL_z x h i j hs
  | succ b ih =>
    intro x h i j hs
    match x, h, hs with
    | .inl x, h, hs => exact kL_z x h i j hs
    | .inr (.inl x), h, hs =>
      obtain ⟨_, hs⟩ := seg_hd hs
      have q := ih x h _ _ hs
      exact ⟨q.1, by omega⟩
    | .inr (.inr (.inl (r, e))), h, hs =>
      have e : kF (b + 1) (.inr (.inr (.inl (r, e)))) = (r :: 91 :: kE (kF b) e) ++ [93] := by simp [kF]
      rw [e] at hs
      exact last_z hs (by decide)
    | .inr (.inr (.inr (.inl e))), h, hs =>
      have e : kF (b + 1) (.inr (.inr (.inr (.inl e)))) = (40 :: kE (kF b) e) ++ [41] := by simp [kF]
      rw [e] at hs
      exact last_z hs (by decide)
    | .inr (.inr (.inr (.inr (c, e1, e2)))), h, hs =>
      have e : kF (b + 1) (.inr (.inr (.inr (.inr (c, e1, e2))))) = (40 :: (kE (kF b) e1 ++ c :: kE (kF b) e2)) ++ [41] := by simp [kF]
      rw [e] at hs
      exact last_z hs (by decide)
end
