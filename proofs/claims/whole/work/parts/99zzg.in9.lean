/-! The relation behind the constructors -/
section
variable {L d : Nat} {m : Mem} {Q : Option TV → Wd → Prop}
theorem t10 {P : Nat → Prop} (h : P 0 ∧ P 1 ∧ P 2 ∧ P 3 ∧ P 4 ∧ P 5 ∧ P 6 ∧ P 7 ∧ P 8 ∧ P 9) : ∀ r, r < 10 → P r := by
  intro r hr
  obtain ⟨h0, h1, h2, h3, h4, h5, h6, h7, h8, h9⟩ := h
  have : r = 0 ∨ r = 1 ∨ r = 2 ∨ r = 3 ∨ r = 4 ∨ r = 5 ∨ r = 6 ∨ r = 7 ∨ r = 8 ∨ r = 9 := by omega
  rcases this with rfl | rfl | rfl | rfl | rfl | rfl | rfl | rfl | rfl | rfl <;> assumption
theorem mm_a : ∀ r, r < 10 → aT (MMi m) r = 49 + 10 * r := t10 ⟨rfl, rfl, rfl, rfl, rfl, rfl, rfl, rfl, rfl, rfl⟩
theorem mm_15 : ∀ r, r < 10 → MMi m (49 + 10 * r) 15 = 0 := t10 ⟨rfl, rfl, rfl, rfl, rfl, rfl, rfl, rfl, rfl, rfl⟩
theorem mm_13 : (MMi m 1 3).toNat = 4 := rfl
theorem mm_29 {h : Nat} : MMi m 29 h = if h < 6 then -1 else 0 := rfl
theorem mm_30 {h : Nat} : MMi m 30 h = if h < 8 then -1 else 0 := rfl
theorem mm_h : ∀ h, h < 14 → hC (MMi m) h = -1 := by
  intro h hh
  unfold hC
  by_cases h6 : h < 6
  · rw [if_pos h6, mm_29, if_pos h6]
  · rw [if_neg h6, mm_30, if_pos (by omega)]
theorem mm_175 : ∀ h, h < 14 → MMi m 175 h = -1 := fun h hh => by unfold MMi; rw [zfl_v hh]
theorem mm_t : Rtext (fun _ => (⟨0, false, ([] : TB 0 6)⟩ : Tre)) (MMi m) (MMi m) (MMi m) := by
  have no : ∀ r, r < 10 → ¬ MMi m (aT (MMi m) r) 15 = 1 := fun r hr => by rw [mm_a r hr, mm_15 r hr]; decide
  refine ⟨⟨fun r hr => ?_, fun r hr => ?_, fun r hr h => absurd h (no r hr)⟩, ⟨fun r hr => ?_, fun r hr h => absurd h (no r hr)⟩, fun r r' h1 h2 h3 => ?_, ?_, fun r hr => ?_, fun r hr h => absurd h (no r hr)⟩
  · rw [mm_a r hr]; exact isT_k hr
  · rw [mm_a r hr]; exact Or.inl (mm_15 r hr)
  · rw [mm_a r hr, mm_15 r hr]; rfl
  · rw [mm_a r h1, mm_a r' h2] at h3; omega
  · rw [mm_13]; exact Or.inl rfl
  · rw [mm_a r hr, mm_13]; omega
theorem mm_s : RSt (MMi m) (MMi m) 0 := by
  refine ⟨rfl, by decide, fun k hk => Or.inl ⟨rfl, by simp⟩, fun s hs => ⟨rfl, (by decide : (0 : Int) ≤ 0), (by decide : (0 : Int) ≤ 30)⟩, fun s i hs hi => ?_, fun h hh => Or.inl ⟨mm_h h hh, mm_175 h hh⟩, fun h h' hh hh' h1 h2 => ?_, fun n hn => ⟨(by decide : (0 : Int) ≤ 0), (by decide : (0 : Int) ≤ 12)⟩, fun n hn => ⟨(by decide : (0 : Int) ≤ 0), (by decide : (0 : Int) ≤ 12)⟩⟩
  · have hi' : (i : Int) < 0 := hi
    omega
  · rw [mm_h h hh] at h1; omega
theorem mm_c : RC (MMi m) := by
  refine ⟨fun k hk h1 => ?_, fun s i hs hi => ?_, fun h hh h0 => ?_⟩
  · have h1' : (0 : Int) = 1 := h1
    omega
  · have hi' : (i : Int) < 0 := hi
    omega
  · rw [mm_h h hh] at h0; omega
theorem mm_rel : Rel (MMi m) (MMi m) (MMi m) := by
  refine ⟨fun _ => ⟨0, false, ([] : TB 0 6)⟩, 0, RelX_mk ⟨⟨rfl, ⟨(by decide : (0 : Int) ≤ 0), (by decide : (0 : Int) ≤ 600)⟩, fun i hi => ?_⟩, mm_t, ⟨rfl, ⟨(by decide : (0 : Int) ≤ 0), (by decide : (0 : Int) ≤ 4000)⟩, fun i hi => ?_⟩, mm_s, mm_c, ⟨rfl, Or.inl rfl, fun h => ?_, rfl⟩, ⟨rfl, rfl, rfl⟩⟩⟩
  · have hi' : (i : Int) < 0 := hi
    omega
  · have hi' : (i : Int) < 0 := hi
    omega
  · have h' : (0 : Int) = 1 := h
    omega
theorem mm_900 {j : Nat} : MMi m 900 j = m 900 j := rfl
/-- the law answers 1 -/
theorem law_1 (hMi : ∀ a b : Int, Both tI m_T_mirror [some (tA 1), some (tI a), some (tI b)] m_M_mirror [some (tA 156), some (tI a), some (tI b)]) (hTu : ∀ a b : Int, Both tI m_T_turn [some (tA 1), some (tI a), some (tI b)] m_M_turn [some (tA 156), some (tI a), some (tI b), none]) (hL : L ≤ 3072) (hsc : ∀ j, j < L → R32 (m 900 j)) (hQ : ∀ w, Q (some (tI 1)) w) : VV L (d + 200 + 1) m_Law_law 0 [some (tA 900), none, none, none] [] (0, m) Q := by
  rw [show d + 200 + 1 = d + 197 + 4 by omega, s_law0]
  exact l_law (d := d) hMi hTu hL hQ (L + 1) 0 _ _ _ (by omega) (fun j hj => by rw [mm_900]; exact hsc j hj) mm_rel
end
