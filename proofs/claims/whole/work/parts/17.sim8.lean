/-! cells only come -/
theorem zcall_no {m' : Mth} {st : List TV} {x : Nat × Lo × List TV × Wd} (h : zcall m' st = some (.inl x)) : False := by
  obtain ⟨_, _, q, _⟩ := zcall_inv h
  cases q
theorem zinv_nc {L : Nat} {m : Mth} {idx pc pc' o : Nat} {ls ls' : Lo} {st st' : List TV} {w w' : Wd} (h : zinv L m idx pc ls st w o = some (.inl (pc', ls', st', w'))) : w'.1 = w.1 := by
  unfold zinv at h
  split at h
  · cases h
  · split at h
    · exact (zcall_no (if_some h).2).elim
    · split at h
      · exact (zcall_no h).elim
      · split at h
        · split at h
          · split at h
            · cases h
            · exact (zcall_no h).elim
          · cases h
        · split at h
          · split at h
            · have h3 := (if_some h).2; cases h3; rfl
            · cases h
          · split at h
            · split at h
              · have h3 := (if_some h).2; cases h3; rfl
              · cases h
            · split at h
              · split at h
                · have h3 := (if_some h).2; cases h3; rfl
                · cases h
              · split at h
                · split at h
                  · have h3 := (if_some h).2; cases h3; rfl
                  · cases h
                · split at h
                  · split at h
                    · have h3 := (if_some h).2; cases h3; rfl
                    · cases h
                  · cases h
theorem zmna_nc {L : Nat} {m : Mth} {idx pc pc' : Nat} {ls ls' : Lo} {st st' : List TV} {w w' : Wd} (h : zmna L m idx pc ls w st = some (.inl (pc', ls', st', w'))) : w.1 ≤ w'.1 := by
  unfold zmna at h
  split at h
  · split at h
    · have h3 := (if_some h).2; cases h3; exact Nat.le_add_right _ _
    · cases h
  · cases h
set_option maxHeartbeats 4000000 in
theorem stp_nc {L : Nat} {m : Mth} {pc pc' : Nat} {ls ls' : Lo} {st st' : List TV} {w w' : Wd} (h : stp L m pc ls st w = some (.inl (pc', ls', st', w'))) : w.1 ≤ w'.1 := by
  unfold stp at h
  split at h
  · cases h
  · rename_i i len hd
    cases i <;> dsimp only at h <;> first | (cases h; done) | skip
    all_goals (first
      | (have h2 := (if_some h).2; first
        | (cases h2; exact Nat.le_refl _)
        | (obtain ⟨_, _, _, _, q⟩ := zii_inv h2; cases q; exact Nat.le_refl _)
        | (obtain ⟨_, _, _, _, q⟩ := zll_inv h2; cases q; exact Nat.le_refl _)
        | (obtain ⟨_, _, _, _, q⟩ := zli_inv h2; cases q; exact Nat.le_refl _)
        | (obtain ⟨_, _, _, _, _, q⟩ := ziid_inv h2; cases q; exact Nat.le_refl _)
        | (obtain ⟨_, _, _, _, _, q⟩ := zlld_inv h2; cases q; exact Nat.le_refl _)
        | (obtain ⟨_, _, _, q⟩ := zi_inv h2; cases q; exact Nat.le_refl _)
        | (obtain ⟨_, _, q, _⟩ := zld_inv h2; cases q; exact Nat.le_refl _)
        | (obtain ⟨_, _, q⟩ := zgo_inv h2; cases q; exact Nat.le_refl _)
        | (obtain ⟨_, _, _, _, _, _, _, q⟩ := zget_inv h2; cases q; exact Nat.le_refl _)
        | (obtain ⟨_, _, _, _, _, _, _, _, _, _, q, _⟩ := zput_inv h2; cases q; exact Nat.le_refl _)
        | (obtain ⟨_, _, _, _, _, _, _, q⟩ := zald_inv h2; cases q; exact Nat.le_refl _)
        | (obtain ⟨_, _, _, _, _, _, _, _, q, _⟩ := zast_inv h2; cases q; exact Nat.le_refl _)
        | (unfold zst at h2; split at h2 <;> first | (cases h2; done) | (have h3 := (if_some h2).2; cases h3; exact Nat.le_refl _))
        | (unfold zif at h2; split at h2 <;> first | (cases h2; done) | (have h3 := (if_some h2).2; split at h3 <;> (cases h3; exact Nat.le_refl _)))
        | (unfold zicmp at h2; split at h2 <;> first | (cases h2; done) | (have h3 := (if_some h2).2; split at h3 <;> (cases h3; exact Nat.le_refl _)))
        | (unfold zalen at h2; split at h2 <;> first | (cases h2; done) | (have h3 := (if_some h2).2; cases h3; exact Nat.le_refl _))
        | (unfold zdupR at h2; split at h2 <;> first | (cases h2; done) | (cases h2; exact Nat.le_refl _))
        | (split at h2 <;> first | (cases h2; done) | (cases h2; exact Nat.le_refl _) | (have h3 := (if_some h2).2; cases h3; first | exact Nat.le_refl _ | exact Nat.le_add_right _ _) | (obtain ⟨_, _, q⟩ := zsw_l _ h2; cases q; exact Nat.le_refl _) | (rcases zsw_t _ _ h2 with ⟨_, _, _, q⟩ | ⟨_, _, _, _, _, _, q⟩ <;> (cases q; exact Nat.le_refl _))))
      | skip)
    case invokevirtual idx => have h2 := zinv_nc (if_some h).2; omega
    case invokestatic idx => have h2 := zinv_nc (if_some h).2; omega
    case invokespecial idx => have h2 := zinv_nc (if_some h).2; omega
    case multianewarray idx dm =>
      match dm, h with
      | 2, h => exact zmna_nc (if_some h).2
      | 0, h => cases h
      | 1, h => cases h
      | k + 3, h => cases h
    all_goals (have h2 := (if_some h).2; split at h2 <;> first | (cases h2; done) | (cases h2; exact Nat.le_refl _) | (have h3 := (if_some h2).2; cases h3; done) | (have h3 := (if_some h2).2; cases h3; first | exact Nat.le_refl _ | exact Nat.le_add_right _ _))
theorem mrun_nc (L : Nat) : ∀ (n d : Nat) (m : Mth) (pc : Nat) (ls : Lo) (st : List TV) (w : Wd) (r : Option TV) (w' : Wd), mrun L n d m pc ls st w = some (r, w') → w.1 ≤ w'.1 := by
  intro n
  induction n with
  | zero => intro d m pc ls st w r w' h; cases h
  | succ n ih =>
    intro d m pc ls st w r w' h
    rw [mrun] at h
    match hs : stp L m pc ls st w with
    | none => rw [hs] at h; cases h
    | some (.inl (pc', ls', st', w1)) => rw [hs] at h; exact Nat.le_trans (stp_nc hs) (ih _ _ _ _ _ _ _ _ h)
    | some (.inr (.inl r')) => rw [hs] at h; cases h; exact Nat.le_refl _
    | some (.inr (.inr (m', as, rest))) =>
      rw [hs] at h
      cases d with
      | zero => cases h
      | succ d =>
        dsimp only at h
        match hc : mrun L n d m' 0 (lentry m'.2.2.2.2.1 as) [] w with
        | none => rw [hc] at h; cases h
        | some (r1, w1) =>
          rw [hc] at h
          exact Nat.le_trans (ih _ _ _ _ _ _ _ _ hc) (ih _ _ _ _ _ _ _ _ h)
theorem ssum_le (L : Nat) {a b : Nat} (h : a ≤ b) : ssum L a ≤ ssum L b := by
  induction h with
  | refl => exact Nat.le_refl _
  | step _ ih => exact Nat.le_trans ih (Nat.le_add_right _ _)
