/-! Calls: told -/
def tdS (z : Int × Int × Int) (v : Int) : Int × Int × Int := let o' := z.1 + (if v = 123 then 1 else if v = 125 then -1 else 0); (o', if z.2.1 < o' then o' else z.2.1, z.2.2 + (if o' = 0 ∧ v = 59 then 1 else 0))
theorem td_n {o m s v : Int} (h : nSep v) (hm : o ≤ m) : tdS (o, m, s) v = (o, m, s) := by
  obtain ⟨h1, h2, h3⟩ := h
  unfold tdS
  dsimp only
  rw [if_neg h2, if_neg h3, Int.add_zero, if_neg (show ¬ m < o by omega), if_neg (fun hh => h1 hh.2), Int.add_zero]
theorem td_o {o m s : Int} : tdS (o, m, s) 123 = (o + 1, max m (o + 1), s) := by
  show (o + 1, (if m < o + 1 then o + 1 else m), s + (if o + 1 = 0 ∧ (123 : Int) = 59 then 1 else 0)) = _
  have h : (if o + 1 = 0 ∧ (123 : Int) = 59 then (1 : Int) else 0) = 0 := if_neg (by omega)
  have h2 : (if m < o + 1 then o + 1 else m) = max m (o + 1) := by split <;> omega
  rw [h, h2, Int.add_zero]
theorem td_c {o m s : Int} (hm : o ≤ m) : tdS (o + 1, m, s) 125 = (o, m, s) := by
  unfold tdS
  dsimp only
  rw [if_neg (by omega), if_pos rfl, if_neg (by omega), if_neg (by omega), Int.add_zero, show o + 1 + -1 = o by omega]
theorem td_59 {o m s : Int} (hm : o ≤ m) : tdS (o, m, s) 59 = (o, m, s + (if o = 0 then 1 else 0)) := by
  unfold tdS
  dsimp only
  rw [if_neg (by omega), if_neg (by omega), Int.add_zero, if_neg (by omega)]
  simp
theorem td_E {o m s : Int} (hm : o ≤ m) : ∀ (l : List Int), (∀ v ∈ l, nSep v) → l.foldl tdS (o, m, s) = (o, m, s) := by
  intro l
  induction l with
  | nil => intro _; rfl
  | cons v l ih =>
    intro h
    rw [List.foldl_cons, td_n (h v (List.mem_cons_self ..)) hm]
    exact ih (fun u hu => h u (List.mem_cons_of_mem _ hu))
theorem td_X {c : Nat} {o m s : Int} (hm : o ≤ m) (e : EE c) (h : wX e) : (kX e).foldl tdS (o, m, s) = (o, m, s) := td_E hm _ (fun v hv => eTk_s (kX_e e h v hv))
theorem td_S {c : Nat} {b : Bool} {o m s : Int} (hm : o ≤ m) (x : SS c) (h : wS b x) : (kS x).foldl tdS (o, m, s) = (o, m, s + (if o = 0 then 1 else 0)) := by
  rw [kS_0, List.foldl_append, td_E hm _ (kS0_s x h)]
  exact td_59 hm
theorem td_k {o m s v : Int} {l : List Int} (h : nSep v) (hm : o ≤ m) : (v :: l).foldl tdS (o, m, s) = l.foldl tdS (o, m, s) := by rw [List.foldl_cons, td_n h hm]
theorem td_Xa {c : Nat} {o m s : Int} {l : List Int} (hm : o ≤ m) (e : EE c) (h : wX e) : (kX e ++ l).foldl tdS (o, m, s) = l.foldl tdS (o, m, s) := by rw [List.foldl_append, td_X hm e h]
theorem td_b {o m s : Int} {k l : List Int} {n : Nat} (h0 : 0 ≤ o) (hm : o ≤ m) (hk : ∀ m s : Int, o + 1 ≤ m → k.foldl tdS (o + 1, m, s) = (o + 1, max m (o + 1 + n), s)) : (123 :: (k ++ 125 :: l)).foldl tdS (o, m, s) = l.foldl tdS (o, max m (o + (n + 1 : Nat)), s) := by
  rw [List.foldl_cons, td_o, List.foldl_append, hk _ _ (by omega), List.foldl_cons, td_c (by omega)]
  congr 2
  congr 1
  omega
theorem td_f {o m s : Int} (hm : o ≤ m) : ([59] : List Int).foldl tdS (o, m, s) = (o, m, s + (if o = 0 then 1 else 0)) := td_59 hm
theorem td_C {c : Nat} {T : Type} {b : Bool} {kb : T → List Int} {db : T → Nat} {wb : T → Prop} (hb : ∀ x, wb x → ∀ o m s : Int, 1 ≤ o → o ≤ m → (kb x).foldl tdS (o, m, s) = (o, max m (o + db x), s)) {o m s : Int} (h0 : 0 ≤ o) (hm : o ≤ m) (x : CC c T) (h : wC b wb x) : (kC kb x).foldl tdS (o, m, s) = (o, max m (o + dpC db x), s + (if o = 0 then 1 else 0)) := by
  have sep : ∀ v : Int, 200 ≤ v → nSep v := fun v hv => by unfold nSep; omega
  have hbb : ∀ x, wb x → ∀ m s : Int, o + 1 ≤ m → (kb x).foldl tdS (o + 1, m, s) = (o + 1, max m (o + 1 + db x), s) := fun x hx m s hm => hb x hx _ _ _ (by omega) hm
  match x, h with
  | .inl (k, e, a, b', e2), h =>
    have hk : 200 ≤ k := by have := h.2.1; omega
    have h1 : (200 : Int) ≤ (if k = 208 then 209 else 212) := by split <;> omega
    have h2 : (200 : Int) ≤ (if k = 208 then 210 else 213) := by split <;> omega
    simp only [kC]
    rw [td_k (sep k hk) hm, td_Xa hm e h.2.2.1, td_b h0 hm (hbb a h.2.2.2.1), td_k (sep _ h1) (by omega), td_b h0 (by omega) (hbb b' h.2.2.2.2.1), td_k (sep _ h2) (by omega), td_Xa (by omega) e2 h.2.2.2.2.2, td_f (by omega)]
    simp only [dpC]
    congr 2
    omega
  | .inr (.inl (e, a, b')), h =>
    simp only [kC]
    rw [td_k (sep 216 (by omega)) hm, td_Xa hm e h.2.1, td_b h0 hm (hbb a h.2.2.1), td_k (sep 209 (by omega)) (by omega), td_b h0 (by omega) (hbb b' h.2.2.2), td_f (by omega)]
    simp only [dpC]
    congr 2
    omega
  | .inr (.inr (e, a)), h =>
    simp only [kC]
    rw [td_k (sep 215 (by omega)) hm, td_Xa hm e h.2.1, td_b h0 hm (hbb a h.2.2), td_f (by omega)]
    simp only [dpC]
theorem td_L {c : Nat} {T : Type} {b : Bool} {kb : T → List Int} {db : T → Nat} {wb : T → Prop} (hb : ∀ x, wb x → ∀ o m s : Int, 1 ≤ o → o ≤ m → (kb x).foldl tdS (o, m, s) = (o, max m (o + db x), s)) : ∀ (l : List (SS c ⊕ CC c T)), allL (w1 b wb) l → ∀ (o m s : Int), 0 ≤ o → o ≤ m → (l.flatMap (k1 kb)).foldl tdS (o, m, s) = (o, max m (o + dpL db l), s + (if o = 0 then (l.length : Int) else 0)) := by
  intro l
  induction l with
  | nil =>
    intro _ o m s h0 hm
    show (o, m, s) = (o, max m (o + ((0 : Nat) : Int)), s + (if o = 0 then ((0 : Nat) : Int) else 0))
    have h1 : max m (o + ((0 : Nat) : Int)) = m := by omega
    have h2 : (if o = 0 then ((0 : Nat) : Int) else 0) = 0 := by split <;> rfl
    rw [h1, h2, Int.add_zero]
  | cons x l ih =>
    intro h o m s h0 hm
    have hw := h x (List.mem_cons_self ..)
    have hl := fun u hu => h u (List.mem_cons_of_mem _ hu)
    rw [List.flatMap_cons, List.foldl_append]
    match x, hw with
    | .inl x, hw =>
      rw [show k1 kb (.inl x : SS c ⊕ CC c T) = kS x from rfl, td_S hm x hw, ih hl _ _ _ h0 hm]
      simp only [dpL, dp1, List.length_cons, Nat.zero_max]
      congr 2
      split <;> omega
    | .inr x, hw =>
      rw [show k1 kb (.inr x : SS c ⊕ CC c T) = kC kb x from rfl, td_C hb h0 hm x hw, ih hl _ _ _ h0 (by omega)]
      simp only [dpL, dp1, List.length_cons]
      congr 2
      · omega
      · split <;> omega
theorem td_B {c : Nat} {b : Bool} : ∀ (n : Nat) (x : TB c n), wB b n x → ∀ (o m s : Int), 0 ≤ o → o ≤ m → (kB n x).foldl tdS (o, m, s) = (o, max m (o + dpB n x), s + (if o = 0 then (stB n x : Int) else 0)) := by
  intro n
  induction n with
  | zero => intro x; exact nomatch x
  | succ n ih =>
    intro x hw o m s h0 hm
    rw [dpB_L]
    exact td_L (fun y hy o m s h0 hm => by rw [ih y hy o m s (by omega) hm, if_neg (by omega), Int.add_zero]) x hw o m s h0 hm
theorem eS_nm {T : Int → Int} {k : Int} (h : okT (T k)) : eS T k = 1 ↔ kName (T k) = true := by
  unfold eS
  by_cases a : T k = 45 ∧ ¬ kEnd (T (k - 1)) = true
  · rw [if_pos a, a.1]; exact ⟨fun h => absurd h (by decide), fun h => absurd h (by decide)⟩
  · rw [if_neg a]
    unfold kName
    simp only [decide_eq_true_eq]
    rcases cls h with b | b | b | b | b | b | b
    · omega
    · omega
    · omega
    · omega
    · omega
    · omega
    · obtain ⟨b1, b2, b3⟩ := b; unfold sgT at b1; omega
theorem ar_td {o m s : Int} {n : Nat} {v : Int} (ho : -3000 ≤ o - (n + 1 : Nat) ∧ o + (n + 1 : Nat) ≤ 3000) (hm : m + (n + 1 : Nat) ≤ 3000 ∧ -3000 ≤ m) (hs : 0 ≤ s ∧ s + (n + 1 : Nat) ≤ 3000) (z : Int) (hz : z = 1 ∨ z = -1 ∨ z = 0) (y : Int) (hy : y = 0 ∨ y = 1) : w32 (o + z) = o + z ∧ w32 (s + y) = s + y ∧ (-3000 ≤ o + z - n ∧ o + z + n ≤ 3000) ∧ ((if m < o + z then o + z else m) + n ≤ 3000 ∧ -3000 ≤ (if m < o + z then o + z else m)) ∧ (0 ≤ s + y ∧ s + y + n ≤ 3000) := by
  refine ⟨w32_id (by omega) (by omega), w32_id (by omega) (by omega), by omega, by split <;> omega, by omega⟩
section
variable {L d r len : Nat} {F t g : Mem} {T : Int → Int} {Q : Option TV → Wd → Prop} {wh : Int}
theorem nm_31 {k : Nat} : nmN T k < 2147483648 := Nat.lt_of_lt_of_le (nmN_lt k) (by decide)
theorem o32_or0 {n : Nat} (h : n < 2147483648) : o32 (fun x y => x ||| y) (n : Int) 0 = (n : Int) := by
  have := o32_or (a := n) (b := 0) h (by omega)
  rw [show ((0 : Nat) : Int) = 0 from rfl, Nat.or_zero] at this
  exact this
theorem l_toldM (hR : RT g r T len) (hok : ∀ k : Int, 0 ≤ k → k < len → okT (T k)) : ∀ (l : List Int) (i : Nat) (o m s : Int), seg T i len l → (-3000 ≤ o - l.length ∧ o + l.length ≤ 3000) → (m + l.length ≤ 3000 ∧ -3000 ≤ m) → (0 ≤ s ∧ s + l.length ≤ 3000) → VV L (d + 1) m_M_told 44 [some (tA 156), some (tI r), some (tI wh), some (tI o), some (tI m), some (tI s), some (tI (nmN T i)), some (tI i)] [] (WW F t g) Q = VV L (d + 1) m_M_told 184 [some (tA 156), some (tI r), some (tI wh), some (tI (l.foldl tdS (o, m, s)).1), some (tI (l.foldl tdS (o, m, s)).2.1), some (tI (l.foldl tdS (o, m, s)).2.2), some (tI (nmN T len)), some (tI len)] [] (WW F t g) Q := by
  obtain ⟨r0, r1, r2⟩ := hR.ir
  have l1 := hR.l1
  intro l
  induction l with
  | nil =>
    intro i o m s hs _ _ _
    have e := seg_len hs
    simp at e
    obtain rfl : i = len := by omega
    rw [u_M_told_44]
    simp only [u_M_told_46, u_M_told_47, u_M_told_50, u_M_told_51, u_M_told_52, h1_156, gt_156_24, h1_163, h2_163, gt_163, pt_163, ne_eq, not_false_eq_true, not_true_eq_false, true_and, and_true, true_or, or_true, eq_self, Option.toList_some, Option.toList_none, List.cons_append, List.nil_append, tc_0, tc_I, tc_L, tc_A, Nat.reduceAdd, Nat.reduceLeDiff, Nat.reduceEqDiff, Int.reduceEq, Int.reduceLT, Int.reduceLE, Int.reduceNeg, Int.reduceToNat, Int.cast_ofNat_Int, if_true, if_false, and_self, or_self, ite_self, bI_0, bI_1, bI_01, Bool.false_eq_true, reduceCtorEq, r0, r1, r2, show (i : Int) ≤ i from Int.le_refl _, List.foldl_nil]
  | cons v l ih =>
    intro i o m s hs ho hm hs2
    have hlen := seg_len hs
    rw [List.length_cons] at ho hm hs2 hlen
    obtain ⟨hv, hs'⟩ := seg_hd hs
    have i0 : (0 : Int) ≤ i := Int.natCast_nonneg i
    have il : (i : Int) < len := by omega
    have nl : ¬ (len : Int) ≤ i := Int.not_le.mpr il
    have wi : w32 ((i : Int) + 1) = ((i + 1 : Nat) : Int) := by rw [w32_id (by omega) (by omega)]; omega
    obtain ⟨x1, x2, x3, x4, x5, x6⟩ := hR.ix i0 il
    have hko := hok i i0 il
    /- names -/
    have hnm : VV L (d + 1) m_M_told 137 [some (tA 156), some (tI r), some (tI wh), some (tI (tdS (o, m, s) v).1), some (tI (tdS (o, m, s) v).2.1), some (tI (tdS (o, m, s) v).2.2), some (tI (nmN T i)), some (tI i)] [] (WW F t g) Q = VV L (d + 1) m_M_told 44 [some (tA 156), some (tI r), some (tI wh), some (tI (tdS (o, m, s) v).1), some (tI (tdS (o, m, s) v).2.1), some (tI (tdS (o, m, s) v).2.2), some (tI (nmN T (i + 1))), some (tI ((i + 1 : Nat) : Int))] [] (WW F t g) Q := by
      by_cases hk : kName (T i) = true
      · have e1 := (eS_nm hko).mpr hk
        have hb : 97 ≤ T i ∧ T i ≤ 122 := by unfold kName at hk; simpa using hk
        rw [(srt_name hk).2] at x6
        obtain ⟨c1, c31, c26, c0, c26'⟩ := q_21 hb
        rw [c1] at x6
        have en : nmN T (i + 1) = nmN T i ||| 2 ^ (T i - 97).toNat := by rw [nmN, if_pos hk]
        simp only [u_M_told_137, u_M_told_139, u_M_told_140, u_M_told_143, u_M_told_146, u_M_told_147, u_M_told_148, u_M_told_150, u_M_told_151, u_M_told_152, u_M_told_153, u_M_told_156, u_M_told_157, u_M_told_158, u_M_told_161, u_M_told_164, u_M_told_165, u_M_told_166, u_M_told_168, u_M_told_169, u_M_told_170, u_M_told_171, u_M_told_174, u_M_told_175, u_M_told_176, u_M_told_178, u_M_told_181, h1_156, gt_156_25, gt_156_26, h1_164, h2_164, gt_164, pt_164, h1_165, h2_165, gt_165, pt_165, ne_eq, not_false_eq_true, not_true_eq_false, true_and, and_true, true_or, or_true, eq_self, Option.toList_some, Option.toList_none, List.cons_append, List.nil_append, tc_0, tc_I, tc_L, tc_A, Nat.reduceAdd, Nat.reduceLeDiff, Nat.reduceEqDiff, Int.reduceEq, Int.reduceLT, Int.reduceLE, Int.reduceNeg, Int.reduceToNat, Int.cast_ofNat_Int, if_true, if_false, and_self, or_self, ite_self, bI_0, bI_1, bI_01, Bool.false_eq_true, reduceCtorEq, x1, x2, x3, x4, x5, x6, e1, o32_shl1 c31, o32_or nm_31 (p2_31 c31), wi, en]
      · have e1 : ¬ eS T i = 1 := fun h => hk ((eS_nm hko).mp h)
        have en : nmN T (i + 1) = nmN T i := by rw [nmN, if_neg hk]
        simp only [u_M_told_137, u_M_told_139, u_M_told_140, u_M_told_143, u_M_told_146, u_M_told_147, u_M_told_148, u_M_told_150, u_M_told_151, u_M_told_152, u_M_told_153, u_M_told_156, u_M_told_157, u_M_told_158, u_M_told_161, u_M_told_164, u_M_told_165, u_M_told_166, u_M_told_168, u_M_told_169, u_M_told_170, u_M_told_171, u_M_told_174, u_M_told_175, u_M_told_176, u_M_told_178, u_M_told_181, h1_156, gt_156_25, gt_156_26, h1_164, h2_164, gt_164, pt_164, h1_165, h2_165, gt_165, pt_165, ne_eq, not_false_eq_true, not_true_eq_false, true_and, and_true, true_or, or_true, eq_self, Option.toList_some, Option.toList_none, List.cons_append, List.nil_append, tc_0, tc_I, tc_L, tc_A, Nat.reduceAdd, Nat.reduceLeDiff, Nat.reduceEqDiff, Int.reduceEq, Int.reduceLT, Int.reduceLE, Int.reduceNeg, Int.reduceToNat, Int.cast_ofNat_Int, if_true, if_false, and_self, or_self, ite_self, bI_0, bI_1, bI_01, Bool.false_eq_true, reduceCtorEq, x1, x2, x3, x4, x5, e1, o32_or0 nm_31, wi, en]
    have hst : VV L (d + 1) m_M_told 44 [some (tA 156), some (tI r), some (tI wh), some (tI o), some (tI m), some (tI s), some (tI (nmN T i)), some (tI i)] [] (WW F t g) Q = VV L (d + 1) m_M_told 137 [some (tA 156), some (tI r), some (tI wh), some (tI (tdS (o, m, s) v).1), some (tI (tdS (o, m, s) v).2.1), some (tI (tdS (o, m, s) v).2.2), some (tI (nmN T i)), some (tI i)] [] (WW F t g) Q := by
      have hz : (if v = 123 then (1 : Int) else if v = 125 then -1 else 0) = 1 ∨ (if v = 123 then (1 : Int) else if v = 125 then -1 else 0) = -1 ∨ (if v = 123 then (1 : Int) else if v = 125 then -1 else 0) = 0 := by
        by_cases h1 : v = 123
        · rw [if_pos h1]; exact Or.inl rfl
        · rw [if_neg h1]; by_cases h2 : v = 125
          · rw [if_pos h2]; exact Or.inr (Or.inl rfl)
          · rw [if_neg h2]; exact Or.inr (Or.inr rfl)
      have is59 := fun D Q => s_M_isSign (L := L) (d := D) (f := F) (t := t) (Q := Q) hR i0 (w := 59) (by decide) (by decide) (by decide)
      rw [u_M_told_44]
      have e0 : tdS (o, m, s) v = (o + (if v = 123 then 1 else if v = 125 then -1 else 0), (if m < o + (if v = 123 then 1 else if v = 125 then -1 else 0) then o + (if v = 123 then 1 else if v = 125 then -1 else 0) else m), s + (if o + (if v = 123 then 1 else if v = 125 then -1 else 0) = 0 ∧ v = 59 then 1 else 0)) := rfl
      rw [e0]
      have st1 : VV L (d + 1) m_M_told 46 [some (tA 156), some (tI r), some (tI wh), some (tI o), some (tI m), some (tI s), some (tI (nmN T i)), some (tI i)] [tI i] (WW F t g) Q = VV L (d + 1) m_M_told 95 [some (tA 156), some (tI r), some (tI wh), some (tI (o + (if v = 123 then 1 else if v = 125 then -1 else 0))), some (tI m), some (tI s), some (tI (nmN T i)), some (tI i)] [] (WW F t g) Q := by
        have w1 := (ar_td (v := v) ho hm hs2 _ hz 0 (Or.inl rfl)).1
        by_cases h1 : v = 123
        · rw [if_pos h1] at w1 ⊢
          simp only [u_M_told_46, u_M_told_47, u_M_told_50, u_M_told_51, u_M_told_52, u_M_told_55, u_M_told_56, u_M_told_57, u_M_told_58, u_M_told_60, u_M_told_62, u_M_told_64, u_M_told_67, u_M_told_70, u_M_told_71, u_M_told_74, u_M_told_75, u_M_told_76, u_M_told_78, u_M_told_80, u_M_told_82, u_M_told_85, u_M_told_88, u_M_told_89, u_M_told_92, u_M_told_93, u_M_told_94, h1_156, gt_156_24, h1_163, h2_163, gt_163, pt_163, ne_eq, not_false_eq_true, not_true_eq_false, true_and, and_true, true_or, or_true, eq_self, Option.toList_some, Option.toList_none, List.cons_append, List.nil_append, tc_0, tc_I, tc_L, tc_A, Nat.reduceAdd, Nat.reduceLeDiff, Nat.reduceEqDiff, Int.reduceEq, Int.reduceLT, Int.reduceLE, Int.reduceNeg, Int.reduceToNat, Int.cast_ofNat_Int, if_true, if_false, and_self, or_self, ite_self, bI_0, bI_1, bI_01, Bool.false_eq_true, reduceCtorEq, r0, r1, r2, nl, s_M_is123 hR i0, s_M_is125 hR i0, hv, h1, decide_true, bB_t, w1]
        · by_cases h2 : v = 125
          · rw [if_neg h1, if_pos h2] at w1 ⊢
            simp only [u_M_told_46, u_M_told_47, u_M_told_50, u_M_told_51, u_M_told_52, u_M_told_55, u_M_told_56, u_M_told_57, u_M_told_58, u_M_told_60, u_M_told_62, u_M_told_64, u_M_told_67, u_M_told_70, u_M_told_71, u_M_told_74, u_M_told_75, u_M_told_76, u_M_told_78, u_M_told_80, u_M_told_82, u_M_told_85, u_M_told_88, u_M_told_89, u_M_told_92, u_M_told_93, u_M_told_94, h1_156, gt_156_24, h1_163, h2_163, gt_163, pt_163, ne_eq, not_false_eq_true, not_true_eq_false, true_and, and_true, true_or, or_true, eq_self, Option.toList_some, Option.toList_none, List.cons_append, List.nil_append, tc_0, tc_I, tc_L, tc_A, Nat.reduceAdd, Nat.reduceLeDiff, Nat.reduceEqDiff, Int.reduceEq, Int.reduceLT, Int.reduceLE, Int.reduceNeg, Int.reduceToNat, Int.cast_ofNat_Int, if_true, if_false, and_self, or_self, ite_self, bI_0, bI_1, bI_01, Bool.false_eq_true, reduceCtorEq, r0, r1, r2, nl, s_M_is123 hR i0, s_M_is125 hR i0, hv, h1, h2, decide_true, decide_false, bB_t, bB_f, w1]
          · rw [if_neg h1, if_neg h2] at w1 ⊢
            simp only [u_M_told_46, u_M_told_47, u_M_told_50, u_M_told_51, u_M_told_52, u_M_told_55, u_M_told_56, u_M_told_57, u_M_told_58, u_M_told_60, u_M_told_62, u_M_told_64, u_M_told_67, u_M_told_70, u_M_told_71, u_M_told_74, u_M_told_75, u_M_told_76, u_M_told_78, u_M_told_80, u_M_told_82, u_M_told_85, u_M_told_88, u_M_told_89, u_M_told_92, u_M_told_93, u_M_told_94, h1_156, gt_156_24, h1_163, h2_163, gt_163, pt_163, ne_eq, not_false_eq_true, not_true_eq_false, true_and, and_true, true_or, or_true, eq_self, Option.toList_some, Option.toList_none, List.cons_append, List.nil_append, tc_0, tc_I, tc_L, tc_A, Nat.reduceAdd, Nat.reduceLeDiff, Nat.reduceEqDiff, Int.reduceEq, Int.reduceLT, Int.reduceLE, Int.reduceNeg, Int.reduceToNat, Int.cast_ofNat_Int, if_true, if_false, and_self, or_self, ite_self, bI_0, bI_1, bI_01, Bool.false_eq_true, reduceCtorEq, r0, r1, r2, nl, s_M_is123 hR i0, s_M_is125 hR i0, hv, h1, h2, decide_true, decide_false, bB_t, bB_f, w1]
      rw [st1]
      have w2 := fun y hy => (ar_td (v := v) ho hm hs2 _ hz y hy).2.1
      generalize o + (if v = 123 then 1 else if v = 125 then -1 else 0) = o'
      have fin : ∀ m', VV L (d + 1) m_M_told 109 [some (tA 156), some (tI r), some (tI wh), some (tI o'), some (tI m'), some (tI s), some (tI (nmN T i)), some (tI i)] [] (WW F t g) Q = VV L (d + 1) m_M_told 137 [some (tA 156), some (tI r), some (tI wh), some (tI o'), some (tI m'), some (tI (s + (if o' = 0 ∧ v = 59 then 1 else 0))), some (tI (nmN T i)), some (tI i)] [] (WW F t g) Q := by
        intro m'
        have w20 := w2 0 (Or.inl rfl)
        have w21 := w2 1 (Or.inr rfl)
        by_cases h1 : o' = 0
        · by_cases h2 : v = 59
          · rw [if_pos ⟨h1, h2⟩]
            simp only [u_M_told_109, u_M_told_111, u_M_told_112, u_M_told_115, u_M_told_116, u_M_told_117, u_M_told_119, u_M_told_121, u_M_told_123, u_M_told_126, u_M_told_129, u_M_told_130, u_M_told_133, u_M_told_134, u_M_told_135, h1_156, ne_eq, not_false_eq_true, not_true_eq_false, true_and, and_true, true_or, or_true, eq_self, Option.toList_some, Option.toList_none, List.cons_append, List.nil_append, tc_0, tc_I, tc_L, tc_A, Nat.reduceAdd, Nat.reduceLeDiff, Nat.reduceEqDiff, Int.reduceEq, Int.reduceLT, Int.reduceLE, Int.reduceNeg, Int.reduceToNat, Int.cast_ofNat_Int, if_true, if_false, and_self, or_self, ite_self, bI_0, bI_1, bI_01, Bool.false_eq_true, reduceCtorEq, h1, is59, hv, h2, decide_true, bB_t, w21]
          · rw [if_neg (fun h => h2 h.2)]
            simp only [u_M_told_109, u_M_told_111, u_M_told_112, u_M_told_115, u_M_told_116, u_M_told_117, u_M_told_119, u_M_told_121, u_M_told_123, u_M_told_126, u_M_told_129, u_M_told_130, u_M_told_133, u_M_told_134, u_M_told_135, h1_156, ne_eq, not_false_eq_true, not_true_eq_false, true_and, and_true, true_or, or_true, eq_self, Option.toList_some, Option.toList_none, List.cons_append, List.nil_append, tc_0, tc_I, tc_L, tc_A, Nat.reduceAdd, Nat.reduceLeDiff, Nat.reduceEqDiff, Int.reduceEq, Int.reduceLT, Int.reduceLE, Int.reduceNeg, Int.reduceToNat, Int.cast_ofNat_Int, if_true, if_false, and_self, or_self, ite_self, bI_0, bI_1, bI_01, Bool.false_eq_true, reduceCtorEq, h1, is59, hv, h2, decide_false, bB_f, w20]
        · rw [if_neg (fun h => h1 h.1)]
          simp only [u_M_told_109, u_M_told_111, u_M_told_112, u_M_told_115, u_M_told_116, u_M_told_117, u_M_told_119, u_M_told_121, u_M_told_123, u_M_told_126, u_M_told_129, u_M_told_130, u_M_told_133, u_M_told_134, u_M_told_135, ne_eq, not_false_eq_true, not_true_eq_false, true_and, and_true, true_or, or_true, eq_self, Option.toList_some, Option.toList_none, List.cons_append, List.nil_append, tc_0, tc_I, tc_L, tc_A, Nat.reduceAdd, Nat.reduceLeDiff, Nat.reduceEqDiff, Int.reduceEq, Int.reduceLT, Int.reduceLE, Int.reduceNeg, Int.reduceToNat, Int.cast_ofNat_Int, if_true, if_false, and_self, or_self, ite_self, bI_0, bI_1, bI_01, Bool.false_eq_true, reduceCtorEq, h1, w20]
      by_cases hmm : m < o'
      · rw [if_pos hmm, ← fin o']
        simp only [u_M_told_95, u_M_told_96, u_M_told_98, u_M_told_101, u_M_told_102, u_M_told_105, u_M_told_107, ne_eq, not_false_eq_true, not_true_eq_false, true_and, and_true, true_or, or_true, eq_self, Option.toList_some, Option.toList_none, List.cons_append, List.nil_append, tc_0, tc_I, tc_L, tc_A, Nat.reduceAdd, Nat.reduceLeDiff, Nat.reduceEqDiff, Int.reduceEq, Int.reduceLT, Int.reduceLE, Int.reduceNeg, Int.reduceToNat, Int.cast_ofNat_Int, if_true, if_false, and_self, or_self, ite_self, bI_0, bI_1, bI_01, Bool.false_eq_true, reduceCtorEq, show ¬ o' ≤ m from Int.not_le.mpr hmm]
      · rw [if_neg hmm, ← fin m]
        simp only [u_M_told_95, u_M_told_96, u_M_told_98, u_M_told_101, u_M_told_102, u_M_told_105, u_M_told_107, ne_eq, not_false_eq_true, not_true_eq_false, true_and, and_true, true_or, or_true, eq_self, Option.toList_some, Option.toList_none, List.cons_append, List.nil_append, tc_0, tc_I, tc_L, tc_A, Nat.reduceAdd, Nat.reduceLeDiff, Nat.reduceEqDiff, Int.reduceEq, Int.reduceLT, Int.reduceLE, Int.reduceNeg, Int.reduceToNat, Int.cast_ofNat_Int, if_true, if_false, and_self, or_self, ite_self, bI_0, bI_1, bI_01, Bool.false_eq_true, reduceCtorEq, show o' ≤ m from Int.not_lt.mp hmm]
    rw [hst, hnm, List.foldl_cons]
    have hb1 : ∃ o' m' s', tdS (o, m, s) v = (o', m', s') ∧ (-3000 ≤ o' - l.length ∧ o' + l.length ≤ 3000) ∧ (m' + l.length ≤ 3000 ∧ -3000 ≤ m') ∧ (0 ≤ s' ∧ s' + l.length ≤ 3000) := by
      have hz : (if v = 123 then (1 : Int) else if v = 125 then -1 else 0) = 1 ∨ (if v = 123 then (1 : Int) else if v = 125 then -1 else 0) = -1 ∨ (if v = 123 then (1 : Int) else if v = 125 then -1 else 0) = 0 := by
        by_cases h1 : v = 123
        · rw [if_pos h1]; exact Or.inl rfl
        · rw [if_neg h1]; by_cases h2 : v = 125
          · rw [if_pos h2]; exact Or.inr (Or.inl rfl)
          · rw [if_neg h2]; exact Or.inr (Or.inr rfl)
      have hy : (if o + (if v = 123 then (1 : Int) else if v = 125 then -1 else 0) = 0 ∧ v = 59 then (1 : Int) else 0) = 0 ∨ (if o + (if v = 123 then (1 : Int) else if v = 125 then -1 else 0) = 0 ∧ v = 59 then (1 : Int) else 0) = 1 := by
        by_cases h : o + (if v = 123 then (1 : Int) else if v = 125 then -1 else 0) = 0 ∧ v = 59
        · rw [if_pos h]; exact Or.inr rfl
        · rw [if_neg h]; exact Or.inl rfl
      obtain ⟨_, _, q1, q2, q3⟩ := ar_td (v := v) ho hm hs2 _ hz _ hy
      exact ⟨_, _, _, rfl, q1, q2, q3⟩
    obtain ⟨o', m', s', e, q1, q2, q3⟩ := hb1
    rw [e]
    exact ih (i + 1) o' m' s' (by rw [show ((i + 1 : Nat) : Int) = (i : Int) + 1 from rfl]; exact hs') q1 q2 q3
end
