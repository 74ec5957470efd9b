/-! The reference's lexer: keys -/
def KM (j : Int) : Int := (strs.getD 4 []).getD j.toNat 0
def ksl : List (Nat × Nat) := [(0, 3), (4, 5), (10, 4), (15, 3), (19, 3), (23, 3), (27, 4), (32, 6), (39, 2), (42, 4), (47, 2), (50, 4), (55, 4), (60, 5), (66, 3), (70, 5), (76, 4), (81, 3), (85, 4), (90, 5), (96, 4), (101, 4)]
def ksS (q : Nat) : Nat := (ksl.getD q (106, 0)).1
def ksL (q : Nat) : Nat := (ksl.getD q (106, 0)).2
theorem kfact : ∀ q, q < 22 → ksL q ≤ 6 ∧ 2 ≤ ksL q ∧ ksS q + ksL q ≤ 105 ∧ KM ((ksS q + ksL q : Nat) : Int) = 32 ∧ (∀ i, i < 7 → i < ksL q → ¬ KM ((ksS q + i : Nat) : Int) = 32 ∧ KM ((ksS q + i : Nat) : Int) = KY ((6 * q + i : Nat) : Int)) ∧ (∀ i, i < 6 → ksL q ≤ i → KY ((6 * q + i : Nat) : Int) = 32) ∧ ksS q + ksL q + 1 = ksS (q + 1) := by decide +kernel
theorem ks_0 : ksS 0 = 0 := rfl
theorem ks_22 : ksS 22 = 106 := rfl
/-- the word of n letters from fr on is the q-th key -/
def isW (y : Int → Int) (fr n : Int) (q : Nat) : Prop := n = ksL q ∧ ∀ i : Nat, i < ksL q → KM ((ksS q + i : Nat) : Int) = y (fr + i)
def ym (g : Mem) (i : Int) : Int := if 0 ≤ i ∧ i < g 156 1 then g 157 i.toNat else 0
theorem isW_isK {y : Int → Int} {fr n : Int} {q : Nat} (hq : q < 22) (hn : 0 ≤ n) (hn6 : n ≤ 6) (hl : ∀ i : Int, 0 ≤ i → i < n → ¬ y (fr + i) = 32) : isK y fr (fr + n) ((6 * q : Nat) : Int) = true ↔ isW y fr n q := by
  obtain ⟨h1, h2, h3, h4, h5, h6, h7⟩ := kfact q hq
  have hk : ∀ i : Nat, i < 6 → (KY ((6 * q + i : Nat) : Int) = wdc y fr (fr + n) i ↔ ((i < ksL q ∧ (i : Int) < n ∧ KM ((ksS q + i : Nat) : Int) = y (fr + i)) ∨ (ksL q ≤ i ∧ n ≤ i))) := by
    intro i hi
    unfold wdc
    by_cases ha : (i : Int) < n
    · rw [if_pos (by omega)]
      by_cases hb : i < ksL q
      · rw [← (h5 i (by omega) hb).2]; constructor
        · intro h; exact Or.inl ⟨hb, ha, h⟩
        · intro h; rcases h with h | h
          · exact h.2.2
          · omega
      · rw [h6 i hi (by omega)]; constructor
        · intro h; exact absurd h.symm (hl i (by omega) ha)
        · intro h; omega
    · rw [if_neg (by omega)]
      by_cases hb : i < ksL q
      · rw [← (h5 i (by omega) hb).2]; constructor
        · intro h; exact absurd h (h5 i (by omega) hb).1
        · intro h; omega
      · rw [h6 i hi (by omega)]; constructor
        · intro _; omega
        · intro _; rfl
  unfold isK
  simp only [decide_eq_true_eq]
  have c0 := hk 0 (by omega); have c1 := hk 1 (by omega); have c2 := hk 2 (by omega); have c3 := hk 3 (by omega); have c4 := hk 4 (by omega); have c5 := hk 5 (by omega)
  have e : ∀ i : Nat, ((6 * q + i : Nat) : Int) = ((6 * q : Nat) : Int) + (i : Int) := fun i => by omega
  rw [e] at c0 c1 c2 c3 c4 c5
  have z0 : ((0 : Nat) : Int) = 0 := rfl
  have z1 : ((1 : Nat) : Int) = 1 := rfl
  have z2 : ((2 : Nat) : Int) = 2 := rfl
  have z3 : ((3 : Nat) : Int) = 3 := rfl
  have z4 : ((4 : Nat) : Int) = 4 := rfl
  have z5 : ((5 : Nat) : Int) = 5 := rfl
  rw [z0] at c0; rw [z1] at c1; rw [z2] at c2; rw [z3] at c3; rw [z4] at c4; rw [z5] at c5
  rw [c0, c1, c2, c3, c4, c5]
  unfold isW
  constructor
  · intro ⟨a0, a1, a2, a3, a4, a5⟩
    have hnl : n = ksL q := by omega
    refine ⟨hnl, fun i hi => ?_⟩
    have : i = 0 ∨ i = 1 ∨ i = 2 ∨ i = 3 ∨ i = 4 ∨ i = 5 := by omega
    rcases this with rfl | rfl | rfl | rfl | rfl | rfl
    · rcases a0 with a | a; exact a.2.2; omega
    · rcases a1 with a | a; exact a.2.2; omega
    · rcases a2 with a | a; exact a.2.2; omega
    · rcases a3 with a | a; exact a.2.2; omega
    · rcases a4 with a | a; exact a.2.2; omega
    · rcases a5 with a | a; exact a.2.2; omega
  · intro ⟨hnl, hw⟩
    refine ⟨?_, ?_, ?_, ?_, ?_, ?_⟩
    · by_cases h : 0 < ksL q
      · exact Or.inl ⟨h, by omega, hw 0 h⟩
      · exact Or.inr ⟨by omega, by omega⟩
    · by_cases h : 1 < ksL q
      · exact Or.inl ⟨h, by omega, hw 1 h⟩
      · exact Or.inr ⟨by omega, by omega⟩
    · by_cases h : 2 < ksL q
      · exact Or.inl ⟨h, by omega, hw 2 h⟩
      · exact Or.inr ⟨by omega, by omega⟩
    · by_cases h : 3 < ksL q
      · exact Or.inl ⟨h, by omega, hw 3 h⟩
      · exact Or.inr ⟨by omega, by omega⟩
    · by_cases h : 4 < ksL q
      · exact Or.inl ⟨h, by omega, hw 4 h⟩
      · exact Or.inr ⟨by omega, by omega⟩
    · by_cases h : 5 < ksL q
      · exact Or.inl ⟨h, by omega, hw 5 h⟩
      · exact Or.inr ⟨by omega, by omega⟩
