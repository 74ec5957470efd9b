/-! The reference's reader: its state between two tokens -/
def eS (T : Int → Int) (k : Int) : Int := if T k = 45 ∧ ¬ kEnd (T (k - 1)) = true then 8 else srt (T k)
/-- what the reading of an E may change -/
def scE (c j : Nat) : Prop := c = 159 ∨ c = 160 ∨ (c = 156 ∧ ((4 ≤ j ∧ j ≤ 8) ∨ (11 ≤ j ∧ j ≤ 16)))
def FE (g0 g : Mem) : Prop := ∀ c j, ¬ scE c j → g c j = g0 c j
/-- at token k; names and rows read, opened -/
def ME (y : Int → Int) (n : Int) (len : Nat) (g0 : Mem) (k : Int) (op : Int) (N R : Nat) (g : Mem) : Prop :=
  FE g0 g ∧ okG g ∧ ym g = y ∧ g 156 1 = n ∧ 0 ≤ g 156 4 ∧ g 156 4 ≤ n ∧ sk y (g 156 4) = sk y (eN y k.toNat) ∧ g 156 11 = k ∧ 0 ≤ k ∧ k ≤ len ∧ (∀ q : Nat, (q : Int) < k → g 159 q = eS (Tk y len) q ∧ g 160 q = whc (Tk y len q)) ∧ g 156 16 = op ∧ g 156 14 = N ∧ g 156 15 = R ∧ N < 67108864 ∧ R < 67108864
def LKs (y : Int → Int) (len : Nat) (k : Int) (g : Mem) : Prop := g 156 5 = sk y (eN y k.toNat) ∧ g 156 6 = srt (Tk y len k) ∧ g 156 7 = whc (Tk y len k) ∧ (k < len → g 156 8 = eN y (k.toNat + 1))
theorem lk_o {g : Mem} {a p s w h : Int} {c j : Nat} (hh : ¬ (c = 156 ∧ 4 ≤ j ∧ j ≤ 8)) : lk5 g a p s w h c j = g c j := by
  simp only [lk5, rd]; grind
theorem srt7 {x : Int} (h : srt x = 7) : whc x = x := by
  unfold srt at h; unfold whc
  (repeat' split at h) <;> (try omega) <;> simp_all <;> omega
def sgn (c : Int) : Bool := decide (srt c = 7)
theorem sg_iff {x c : Int} (hc : sgn c = true) : (srt x = 7 ∧ whc x = c) ↔ x = c := by
  unfold sgn at hc
  constructor
  · intro ⟨a, b⟩; rw [srt7 a] at b; exact b
  · intro h; subst h; have := of_decide_eq_true hc; exact ⟨this, srt7 this⟩
theorem key_iff {x w : Int} (h0 : 0 ≤ w) (h1 : w ≤ 21) : (srt x = 5 ∧ whc x = w) ↔ x = 200 + w := by
  constructor
  · intro ⟨a, b⟩
    unfold srt at a; unfold whc at b
    (repeat' split at a) <;> simp_all <;> omega
  · intro h; subst h
    unfold srt whc kName kRow kStk; simp; omega
section
variable {L d : Nat} {f t g g0 : Mem} {Q : Option TV → Wd → Prop} {y : Int → Int} {n k op : Int} {len N R : Nat}
theorem FE_refl : FE g g := fun _ _ _ => rfl
theorem m_look (hL : Lexd y n len) (h : ME y n len g0 k op N R g) (hQ : ∀ g', ME y n len g0 k op N R g' → LKs y len k g' → Q none (WW f t g')) : VV L (d + 3) m_M_look 0 [some (tA 156), none, none] [] (WW f t g) Q := by
  obtain ⟨hF, hg, hy, hn, h0, h1, hs, hm, hk0, hk, hE, hop, hN, hR, hN2, hR2⟩ := h
  have h1' : g 156 4 ≤ g 156 1 := by omega
  rw [s_M_look hg h0 h1']
  have hsk := sk_le (f := fun _ j => g 157 j) (n := g 156 1) (i := g 156 4) hg.2.1 h0 h1'
  rw [ym_yb, hy, hn] at hsk
  have hT : lkT y n (g 156 4) = Tk y len k := by
    unfold lkT Tk
    rw [hs]
    by_cases hlt : k < len
    · rw [if_pos (hL.2.2 k.toNat (by omega)).2, if_pos ⟨hk0, hlt⟩]
    · have : k = len := by omega
      rw [this, Int.toNat_natCast, hL.2.1, if_neg (by omega), if_neg (by omega)]
  have hid : sk y (sk y (eN y k.toNat)) = sk y (eN y k.toNat) := by
    have := sk_ns (f := fun _ j => g 157 j) (n := g 156 1) (i := g 156 4) hg.2.1 h0 h1'
    rw [ym_yb, hy, hs] at this
    have e : yb (fun _ j => g 157 j) (g 156 1) = y := hy
    rw [← e] at this ⊢
    exact sk_id this
  apply hQ
  · unfold lkg
    rw [hy, hn, hT]
    refine ⟨fun c j hcj => ?_, ?_, ?_, ?_, ?_, ?_, ?_, ?_, hk0, hk, fun q hq => ?_, ?_, ?_, ?_, hN2, hR2⟩
    · rw [lk_o (fun hh => hcj (Or.inr (Or.inr ⟨hh.1, Or.inl hh.2⟩)))]; exact hF c j hcj
    · refine ⟨hg.1, hg.2.1, fun i hi => ?_⟩
      rw [lk_157]; exact hg.2.2 i hi
    · rw [lk_y]; exact hy
    · exact hn
    · rw [lk_4]; omega
    · rw [lk_4]; omega
    · rw [lk_4, hs, hid]
    · exact hm
    · have := hE q hq
      rw [lk_o (by omega), lk_o (by omega)]; exact this
    · exact hop
    · exact hN
    · exact hR
  · unfold lkg
    rw [hy, hn, hT]
    refine ⟨?_, rfl, rfl, fun hlt => ?_⟩
    · rw [lk_5, hs]
    · rw [lk_8]
      unfold lkE
      rw [hs, if_pos (hL.2.2 k.toNat (by omega)).2]
      rfl
theorem s_M_fails {a b : Int} : VV L d m_M_fails 0 [some (tA 156), some (tI a), some (tI b)] [] (WW f t g) Q = Q (some (tI 0)) (WW f t (mset (mset g 156 12 a) 156 13 b)) := by
  simp only [u_M_fails_0, u_M_fails_1, u_M_fails_2, u_M_fails_5, u_M_fails_6, u_M_fails_7, u_M_fails_10, u_M_fails_11, h1_156, gt_156_12, pt_156_12, gt_156_13, pt_156_13, ne_eq, not_false_eq_true, not_true_eq_false, true_and, and_true, true_or, or_true, eq_self, Option.toList_some, Option.toList_none, List.cons_append, List.nil_append, tc_0, tc_I, tc_L, tc_A, Nat.reduceAdd, Nat.reduceLeDiff, Nat.reduceEqDiff, Int.reduceEq, Int.reduceLT, Int.reduceLE, Int.reduceNeg, Int.reduceToNat, Int.cast_ofNat_Int, if_true, if_false, and_self, or_self, ite_self, bI_0, bI_1, bI_01, Bool.false_eq_true, reduceCtorEq]
theorem s_M_emit {a b : Int} (h0 : 0 ≤ g 156 11) (h1 : g 156 11 < 1600) : VV L d m_M_emit 0 [some (tA 156), some (tI a), some (tI b)] [] (WW f t g) Q = Q none (WW f t (mset (mset (mset g 159 (g 156 11).toNat a) 160 (g 156 11).toNat b) 156 11 (g 156 11 + 1))) := by
  simp only [u_M_emit_0, u_M_emit_1, u_M_emit_4, u_M_emit_5, u_M_emit_8, u_M_emit_9, u_M_emit_10, u_M_emit_11, u_M_emit_14, u_M_emit_15, u_M_emit_18, u_M_emit_19, u_M_emit_20, u_M_emit_21, u_M_emit_22, u_M_emit_25, u_M_emit_26, u_M_emit_27, u_M_emit_30, h1_156, gt_156_9, h1_159, h2_159, gt_159, pt_159, gt_156_11, pt_156_11, gt_156_10, h1_160, h2_160, gt_160, pt_160, ne_eq, not_false_eq_true, not_true_eq_false, true_and, and_true, true_or, or_true, eq_self, Option.toList_some, Option.toList_none, List.cons_append, List.nil_append, tc_0, tc_I, tc_L, tc_A, Nat.reduceAdd, Nat.reduceLeDiff, Nat.reduceEqDiff, Int.reduceEq, Int.reduceLT, Int.reduceLE, Int.reduceNeg, Int.reduceToNat, Int.cast_ofNat_Int, if_true, if_false, and_self, or_self, ite_self, bI_0, bI_1, bI_01, Bool.false_eq_true, reduceCtorEq, rd, false_and, and_false, h0, h1, w32_id (show (-2147483648 : Int) ≤ g 156 11 + 1 by omega) (show g 156 11 + 1 < (2147483648 : Int) by omega)]
theorem m_take0 (hL : Lexd y n len) (hn6 : n ≤ 600) (h : ME y n len g0 k op N R g) (hlt : k < len) (e6 : g 156 6 = eS (Tk y len) k) (e7 : g 156 7 = whc (Tk y len k)) (e8 : g 156 8 = eN y (k.toNat + 1)) (hQ : ∀ g', ME y n len g0 (k + 1) op N R g' → Q none (WW f t g')) : VV L (d + 1) m_M_take0 0 [some (tA 156)] [] (WW f t g) Q := by
  obtain ⟨hF, hg, hy, hn, h0, h1, hs, hm, hk0, hk, hE, hop, hN, hR, hN2, hR2⟩ := h
  have hb := hL.2.2 k.toNat (by omega)
  have hte := te_b (f := fun _ j => g 157 j) (n := g 156 1) (fr := sk y (eN y k.toNat)) hg.2.1 hb.1 (by omega)
  rw [ym_yb, hy, hn] at hte
  simp only [u_M_take0_0, u_M_take0_1, u_M_take0_2, u_M_take0_5, u_M_take0_6, u_M_take0_9, u_M_take0_12, u_M_take0_13, u_M_take0_14, u_M_take0_17, u_M_take0_20, h1_156, gt_156_6, pt_156_6, gt_156_7, pt_156_7, gt_156_8, pt_156_8, gt_156_4, pt_156_4, ne_eq, not_false_eq_true, not_true_eq_false, true_and, and_true, true_or, or_true, eq_self, Option.toList_some, Option.toList_none, List.cons_append, List.nil_append, tc_0, tc_I, tc_L, tc_A, Nat.reduceAdd, Nat.reduceLeDiff, Nat.reduceEqDiff, Int.reduceEq, Int.reduceLT, Int.reduceLE, Int.reduceNeg, Int.reduceToNat, Int.cast_ofNat_Int, if_true, if_false, and_self, or_self, ite_self, bI_0, bI_1, bI_01, Bool.false_eq_true, reduceCtorEq, rd, false_and, and_false, s_M_emit (show 0 ≤ g 156 11 by omega) (show g 156 11 < 1600 by have := hL.1; omega)]
  apply hQ
  rw [hm, e6, e7, e8]
  refine ⟨fun c j hcj => ?_, ⟨hg.1, hg.2.1, fun i hi => ?_⟩, ?_, hn, ?_, ?_, ?_, ?_, by omega, by omega, fun q hq => ?_, hop, hN, hR, hN2, hR2⟩
  · rw [← hF c j hcj]
    unfold scE at hcj
    simp only [rd]; grind
  · have := hg.2.2 i hi
    simp only [rd, Nat.reduceEqDiff, false_and, if_false]; exact this
  · rw [← hy]; funext i; unfold ym
    simp only [rd, Nat.reduceEqDiff, false_and, and_false, if_false]
  · show 0 ≤ te y (sk y (eN y k.toNat)); omega
  · show te y (sk y (eN y k.toNat)) ≤ n; omega
  · show sk y (eN y (k.toNat + 1)) = sk y (eN y (k + 1).toNat)
    rw [show (k + 1).toNat = k.toNat + 1 by omega]
  · simp only [rd, Nat.reduceEqDiff, and_false, and_true, if_false, if_true]
  · by_cases hqk : (q : Int) < k
    · have := hE q hqk
      simp only [rd, Nat.reduceEqDiff, false_and, true_and, if_false, show ¬ q = k.toNat by omega]
      exact this
    · have : k = q := by omega
      subst this
      simp only [rd, Nat.reduceEqDiff, false_and, true_and, if_false, Int.toNat_natCast, if_true]
end
