/-! The state of both: rows -/
def setH (f : Mem) (h : Nat) (n : Int) : Mem := if h < 6 then mset f 29 h n else mset f 30 (h - 6) n
theorem setH_o {f : Mem} {h b j : Nat} {n : Int} (hb : ¬ b = 29) (hb2 : ¬ b = 30) : setH f h n b j = f b j := by
  unfold setH; split <;> rw [rd, if_neg (by omega)]
theorem hC_set {f : Mem} {h : Nat} {n : Int} (hh : h < 14) (k : Nat) (hk : k < 14) : hC (setH f h n) k = if k = h then n else hC f k := by
  unfold hC setH
  by_cases h6 : h < 6
  · rw [if_pos h6]
    by_cases k6 : k < 6
    · rw [if_pos k6, if_pos k6, rd]
      by_cases e : k = h
      · subst e; simp
      · rw [if_neg (by omega), if_neg e]
    · rw [if_neg k6, if_neg k6, rd, if_neg (by omega), if_neg (by omega)]
  · rw [if_neg h6]
    by_cases k6 : k < 6
    · rw [if_pos k6, if_pos k6, rd, if_neg (by omega), if_neg (by omega)]
    · rw [if_neg k6, if_neg k6, rd]
      by_cases e : k = h
      · subst e; simp
      · rw [if_neg (by omega), if_neg e]
theorem hC_eq {f f' : Mem} (h1 : ∀ j, f' 29 j = f 29 j) (h2 : ∀ j, f' 30 j = f 30 j) (k : Nat) : hC f' k = hC f k := by unfold hC; rw [h1, h2]
section
variable {f g : Mem} {TH : Nat}
/-- a holder holds what another holds, or nothing -/
theorem RSt_hold {h h1 : Nat} (hS : RSt f g TH) (hh : h < 14) (hh1 : h1 < 14) : RSt (setH f h (hC f h1)) (mset g 175 h (g 175 h1)) TH := by
  have key : ∀ k, k < 14 → ∃ k', k' < 14 ∧ hC (setH f h (hC f h1)) k = hC f k' ∧ (mset g 175 h (g 175 h1)) 175 k = g 175 k' := by
    intro k hk
    rw [hC_set hh k hk, rd]
    by_cases e : k = h
    · subst e; exact ⟨h1, hh1, by simp, by simp⟩
    · exact ⟨k, hk, by rw [if_neg e], by rw [if_neg (by omega)]⟩
  have ff : ∀ b j, ¬ b = 29 → ¬ b = 30 → setH f h (hC f h1) b j = f b j := fun b j h1 h2 => setH_o h1 h2
  have gg : ∀ b j, ¬ b = 175 → (mset g 175 h (g 175 h1)) b j = g b j := fun b j hb => by rw [rd, if_neg (by omega)]
  refine RSt_r hS (fun b j h1 h2 => ff b j (by omega) (by omega)) (fun b j hb => gg b j (by omega)) (gg _ _ (by omega)) ?_ ?_ ?_ ?_
  · intro k hk
    obtain ⟨k', hk', e1, e2⟩ := key k hk
    rw [e1, e2, ff 31 _ (by omega) (by omega), ff 32 _ (by omega) (by omega), gg 176 _ (by omega), gg 177 _ (by omega)]
    rcases hS.rw k' hk' with q | q
    · exact Or.inl q
    · refine Or.inr ⟨q.1, q.2.1, q.2.2.1, q.2.2.2.1, q.2.2.2.2.1, q.2.2.2.2.2.1, q.2.2.2.2.2.2.1, fun i hi => ?_⟩
      rw [ff _ _ (by omega) (by omega), gg 178 _ (by omega)]
      exact q.2.2.2.2.2.2.2 i hi
  · intro a b ha hb h1 h2
    obtain ⟨a', ha', e1, e2⟩ := key a ha
    obtain ⟨b', hb', e3, e4⟩ := key b hb
    rw [e1] at h1
    rw [e3] at h2
    rw [e1, e2, e3, e4]
    exact hS.inj a' b' ha' hb' h1 h2
  · intro n hn; rw [ff 32 n (by omega) (by omega)]; exact hS.cC n hn
  · intro n hn; rw [gg 177 n (by omega)]; exact hS.cM n hn
theorem RSt_end {h : Nat} (hS : RSt f g TH) (hh : h < 14) : RSt (setH f h (-1)) (mset g 175 h (-1)) TH := by
  have key : ∀ k, k < 14 → (k = h ∧ hC (setH f h (-1)) k = -1 ∧ (mset g 175 h (-1)) 175 k = -1) ∨ (¬ k = h ∧ hC (setH f h (-1)) k = hC f k ∧ (mset g 175 h (-1)) 175 k = g 175 k) := by
    intro k hk
    rw [hC_set hh k hk, rd]
    by_cases e : k = h
    · subst e; exact Or.inl ⟨rfl, by simp, by simp⟩
    · exact Or.inr ⟨e, by rw [if_neg e], by rw [if_neg (by omega)]⟩
  have ff : ∀ b j, ¬ b = 29 → ¬ b = 30 → setH f h (-1) b j = f b j := fun b j h1 h2 => setH_o h1 h2
  have gg : ∀ b j, ¬ b = 175 → (mset g 175 h (-1)) b j = g b j := fun b j hb => by rw [rd, if_neg (by omega)]
  refine RSt_r hS (fun b j h1 h2 => ff b j (by omega) (by omega)) (fun b j hb => gg b j (by omega)) (gg _ _ (by omega)) ?_ ?_ ?_ ?_
  · intro k hk
    rcases key k hk with ⟨_, e1, e2⟩ | ⟨_, e1, e2⟩
    · exact Or.inl ⟨e1, e2⟩
    · rw [e1, e2, ff 31 _ (by omega) (by omega), ff 32 _ (by omega) (by omega), gg 176 _ (by omega), gg 177 _ (by omega)]
      rcases hS.rw k hk with q | q
      · exact Or.inl q
      · refine Or.inr ⟨q.1, q.2.1, q.2.2.1, q.2.2.2.1, q.2.2.2.2.1, q.2.2.2.2.2.1, q.2.2.2.2.2.2.1, fun i hi => ?_⟩
        rw [ff _ _ (by omega) (by omega), gg 178 _ (by omega)]
        exact q.2.2.2.2.2.2.2 i hi
  · intro a b ha hb h1 h2
    rcases key a ha with ⟨_, e1, e2⟩ | ⟨_, e1, e2⟩
    · rw [e1] at h1; omega
    · rcases key b hb with ⟨_, e3, e4⟩ | ⟨_, e3, e4⟩
      · rw [e3] at h2; omega
      · rw [e1] at h1
        rw [e3] at h2
        rw [e1, e2, e3, e4]
        exact hS.inj a b ha hb h1 h2
  · intro n hn; rw [ff 32 n (by omega) (by omega)]; exact hS.cC n hn
  · intro n hn; rw [gg 177 n (by omega)]; exact hS.cM n hn
def mkM (g : Mem) (m : Nat) (kd ct : Int) : Mem := fun b j => if b = 178 ∧ 12 * m ≤ j ∧ j < 12 * m + 12 then 0 else (mset (mset g 176 m kd) 177 m ct) b j
theorem RSt_new {h n m : Nat} {kd ct : Int} (hS : RSt f g TH) (hh : h < 14) (hn : n < 15) (hm : m < 15) (hkd : 0 ≤ kd ∧ kd ≤ 4) (hct : 0 ≤ ct ∧ ct ≤ 12) (fn : ∀ k, k < 14 → ¬ k = h → ¬ hC f k = n) (fm : ∀ k, k < 14 → ¬ k = h → ¬ g 175 k = m) : RSt (setH (mkC f n kd ct) h n) (mset (mkM g m kd ct) 175 h m) TH := by
  have m0 : ∀ b j, ¬ b = 31 → ¬ b = 32 → ¬ b = 34 + n → mkC f n kd ct b j = f b j := by
    intro b j h1 h2 h3; unfold mkC; rw [zfl_o h3, rd, if_neg (by omega), rd, if_neg (by omega)]
  have hCm : ∀ k, hC (mkC f n kd ct) k = hC f k := fun k => by unfold hC; rw [m0 29 _ (by omega) (by omega) (by omega), m0 30 _ (by omega) (by omega) (by omega)]
  have ff : ∀ b j, ¬ b = 29 → ¬ b = 30 → setH (mkC f n kd ct) h n b j = mkC f n kd ct b j := fun b j h1 h2 => setH_o h1 h2
  have gg : ∀ b j, ¬ b = 175 → (mset (mkM g m kd ct) 175 h m) b j = mkM g m kd ct b j := fun b j hb => by rw [rd, if_neg (by omega)]
  have mm0 : ∀ b j, ¬ b = 176 → ¬ b = 177 → ¬ b = 178 → mkM g m kd ct b j = g b j := by
    intro b j h1 h2 h3; unfold mkM; rw [if_neg (by omega), rd, if_neg (by omega), rd, if_neg (by omega)]
  have f31 : ∀ j, mkC f n kd ct 31 j = if j = n then kd else f 31 j := by
    intro j; unfold mkC; rw [zfl_o (by omega), rd, if_neg (by omega), rd]; simp
  have f32 : ∀ j, mkC f n kd ct 32 j = if j = n then ct else f 32 j := by
    intro j; unfold mkC; rw [zfl_o (by omega), rd]
    by_cases e : j = n
    · subst e; simp
    · rw [if_neg (by omega), rd, if_neg (by omega), if_neg e]
  have f34 : ∀ q j, q < 15 → mkC f n kd ct (34 + q) j = if q = n ∧ j < 12 then 0 else f (34 + q) j := by
    intro q j hq
    unfold mkC zfl
    by_cases e : q = n
    · subst e
      by_cases hj : j < 12
      · rw [if_pos ⟨rfl, hj⟩, if_pos ⟨rfl, hj⟩]
      · rw [if_neg (by omega), if_neg (by omega), rd, if_neg (by omega), rd, if_neg (by omega)]
    · rw [if_neg (by omega), if_neg (by omega), rd, if_neg (by omega), rd, if_neg (by omega)]
  have g176 : ∀ j, mkM g m kd ct 176 j = if j = m then kd else g 176 j := by
    intro j; unfold mkM; rw [if_neg (by omega), rd, if_neg (by omega), rd]; simp
  have g177 : ∀ j, mkM g m kd ct 177 j = if j = m then ct else g 177 j := by
    intro j; unfold mkM; rw [if_neg (by omega), rd]
    by_cases e : j = m
    · subst e; simp
    · rw [if_neg (by omega), rd, if_neg (by omega), if_neg e]
  have g178 : ∀ q i, i < 12 → mkM g m kd ct 178 (12 * q + i) = if q = m then 0 else g 178 (12 * q + i) := by
    intro q i hi
    unfold mkM
    by_cases e : q = m
    · subst e; rw [if_pos (by omega), if_pos rfl]
    · rw [if_neg (by omega), if_neg e, rd, if_neg (by omega), rd, if_neg (by omega)]
  have key : ∀ k, k < 14 → (k = h ∧ hC (setH (mkC f n kd ct) h n) k = n ∧ (mset (mkM g m kd ct) 175 h m) 175 k = m) ∨ (¬ k = h ∧ hC (setH (mkC f n kd ct) h n) k = hC f k ∧ (mset (mkM g m kd ct) 175 h m) 175 k = g 175 k) := by
    intro k hk
    rw [hC_set hh k hk, rd, hCm]
    by_cases e : k = h
    · subst e; exact Or.inl ⟨rfl, by simp, by simp⟩
    · exact Or.inr ⟨e, by rw [if_neg e], by rw [if_neg (by omega), mm0 175 _ (by omega) (by omega) (by omega)]⟩
  refine RSt_r hS (fun b j h1 h2 => by rw [ff b j (by omega) (by omega), m0 b j (by omega) (by omega) (by omega)]) (fun b j hb => by rw [gg b j (by omega), mm0 b j (by omega) (by omega) (by omega)]) (by rw [gg _ _ (by omega), mm0 _ _ (by omega) (by omega) (by omega)]) ?_ ?_ ?_ ?_
  · intro k hk
    rcases key k hk with ⟨_, e1, e2⟩ | ⟨ne, e1, e2⟩
    · rw [e1, e2]
      right
      have nN : ((n : Int)).toNat = n := by omega
      have mN : ((m : Int)).toNat = m := by omega
      rw [nN, mN, ff 31 _ (by omega) (by omega), ff 32 _ (by omega) (by omega), gg 176 _ (by omega), gg 177 _ (by omega), f31, f32, g176, g177, if_pos rfl, if_pos rfl, if_pos rfl, if_pos rfl]
      refine ⟨by omega, by omega, by omega, by omega, rfl, rfl, hkd, fun i hi => ?_⟩
      rw [ff _ _ (by omega) (by omega), gg 178 _ (by omega), f34 n i hn, if_pos ⟨rfl, by omega⟩, g178 m i (by omega), if_pos rfl]
    · rw [e1, e2]
      rcases hS.rw k hk with q | q
      · exact Or.inl q
      · have c1 := fn k hk ne
        have c2 := fm k hk ne
        right
        obtain ⟨q1, q2, q3, q4, q5, q6, q7, q8⟩ := q
        rw [ff 31 _ (by omega) (by omega), ff 32 _ (by omega) (by omega), gg 176 _ (by omega), gg 177 _ (by omega), f31, f32, g176, g177, if_neg (by omega), if_neg (by omega), if_neg (by omega), if_neg (by omega)]
        refine ⟨q1, q2, q3, q4, q5, q6, q7, fun i hi => ?_⟩
        have hc := hS.cC (hC f k).toNat (by omega)
        rw [ff _ _ (by omega) (by omega), gg 178 _ (by omega), f34 _ i (by omega), if_neg (by omega), g178 _ i (by omega), if_neg (by omega)]
        exact q8 i hi
  · intro a b ha hb h1 h2
    rcases key a ha with ⟨x1, e1, e2⟩ | ⟨x1, e1, e2⟩
    · rcases key b hb with ⟨x2, e3, e4⟩ | ⟨x2, e3, e4⟩
      · rw [e1, e2, e3, e4]; simp
      · rw [e1, e2, e3, e4]
        have := fn b hb x2; have := fm b hb x2
        constructor
        · intro hh; omega
        · intro hh; omega
    · rcases key b hb with ⟨x2, e3, e4⟩ | ⟨x2, e3, e4⟩
      · rw [e1, e2, e3, e4]
        have := fn a ha x1; have := fm a ha x1
        constructor
        · intro hh; omega
        · intro hh; omega
      · rw [e1] at h1
        rw [e3] at h2
        rw [e1, e2, e3, e4]
        exact hS.inj a b ha hb h1 h2
  · intro q hq; rw [ff 32 q (by omega) (by omega), f32]; split
    · exact hct
    · exact hS.cC q hq
  · intro q hq; rw [gg 177 q (by omega), g177]; split
    · exact hct
    · exact hS.cM q hq
theorem RSt_item {h i : Nat} {v : Int} (hS : RSt f g TH) (hh : h < 14) (h0 : 0 ≤ hC f h) (hi : i < 12) : RSt (mset f (34 + (hC f h).toNat) i v) (mset g 178 (12 * (g 175 h).toNat + i) v) TH := by
  have hq := (hS.rw h hh).resolve_left (fun q => by omega)
  have ff : ∀ b j, ¬ b = 34 + (hC f h).toNat → (mset f (34 + (hC f h).toNat) i v) b j = f b j := fun b j hb => by rw [rd, if_neg (by omega)]
  have gg : ∀ b j, ¬ b = 178 → (mset g 178 (12 * (g 175 h).toNat + i) v) b j = g b j := fun b j hb => by rw [rd, if_neg (by omega)]
  have hCm : ∀ k, hC (mset f (34 + (hC f h).toNat) i v) k = hC f k := hC_eq (fun j => ff 29 j (by omega)) (fun j => ff 30 j (by omega))
  refine RSt_r hS (fun b j h1 h2 => ff b j (by omega)) (fun b j hb => gg b j (by omega)) (gg _ _ (by omega)) ?_ ?_ ?_ ?_
  · intro k hk
    rw [hCm, gg 175 _ (by omega)]
    rcases hS.rw k hk with q | q
    · exact Or.inl q
    · right
      obtain ⟨q1, q2, q3, q4, q5, q6, q7, q8⟩ := q
      rw [ff 31 _ (by omega), ff 32 _ (by omega), gg 176 _ (by omega), gg 177 _ (by omega)]
      refine ⟨q1, q2, q3, q4, q5, q6, q7, fun j hj => ?_⟩
      have hij := hS.inj k h hk hh q1 h0
      have hcc := hS.cC (hC f k).toNat (by omega)
      rw [rd, rd]
      by_cases e : hC f k = hC f h
      · have e2 := hij.mp e
        by_cases ej : j = i
        · subst ej
          rw [if_pos ⟨by rw [e], rfl⟩, if_pos ⟨rfl, by rw [e2]⟩]
        · rw [if_neg (by omega), if_neg (by omega)]; exact q8 j hj
      · have e2 : ¬ g 175 k = g 175 h := fun hh => e (hij.mpr hh)
        rw [if_neg (by omega), if_neg (by omega)]; exact q8 j hj
  · intro a b ha hb h1 h2
    rw [hCm] at h1 h2
    rw [hCm, hCm, gg 175 _ (by omega), gg 175 _ (by omega)]
    exact hS.inj a b ha hb h1 h2
  · intro n hn; rw [ff 32 n (by omega)]; exact hS.cC n hn
  · intro n hn; rw [gg 177 n (by omega)]; exact hS.cM n hn
end
