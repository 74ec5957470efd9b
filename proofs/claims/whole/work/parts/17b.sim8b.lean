/-! the ends and the calls of the small machine -/
theorem zmna_in {L : Nat} {m : Mth} {idx pc : Nat} {ls : Lo} {st : List TV} {w : Wd} {X : StR} (h : zmna L m idx pc ls w st = some X) : ∃ y, X = .inl y := by
  unfold zmna at h
  split at h
  · split at h
    · have h3 := (if_some h).2; cases h3; exact ⟨_, rfl⟩
    · cases h
  · cases h
theorem zinv_ret {L : Nat} {m : Mth} {idx pc o : Nat} {ls : Lo} {st : List TV} {w : Wd} {r : Option TV} (h : zinv L m idx pc ls st w o = some (.inr (.inl r))) : False := by
  have hz : ∀ (m' : Mth), zcall m' st = some (.inr (.inl r)) → False := fun m' q => by
    obtain ⟨_, _, q, _⟩ := zcall_inv q
    cases q
  unfold zinv at h
  split at h
  · cases h
  · split at h
    · exact hz _ (if_some h).2
    · split at h
      · exact hz _ h
      · split at h
        · split at h
          · split at h
            · cases h
            · exact hz _ h
          · cases h
        · split at h
          · split at h
            · have h3 := (if_some h).2; cases h3
            · cases h
          · split at h
            · split at h
              · have h3 := (if_some h).2; cases h3
              · cases h
            · split at h
              · split at h
                · have h3 := (if_some h).2; cases h3
                · cases h
              · split at h
                · split at h
                  · have h3 := (if_some h).2; cases h3
                  · cases h
                · split at h
                  · split at h
                    · have h3 := (if_some h).2; cases h3
                    · cases h
                  · cases h
set_option maxHeartbeats 4000000 in
theorem stp_ret {L : Nat} {m : Mth} {pc : Nat} {ls : Lo} {st : List TV} {w : Wd} {r : Option TV} (h : stp L m pc ls st w = some (.inr (.inl r))) : st = r.toList ∧ retOK m pc r := by
  unfold stp at h
  split at h
  · cases h
  · rename_i i len hd
    cases i <;> dsimp only at h <;> first | (cases h; done) | skip
    case ireturn =>
      obtain ⟨rfl, h2⟩ := if_some h
      split at h2
      · obtain ⟨hc, h3⟩ := if_some h2; cases h3; exact ⟨rfl, hd, hc⟩
      · cases h2
    case lreturn =>
      obtain ⟨rfl, h2⟩ := if_some h
      split at h2
      · obtain ⟨hc, h3⟩ := if_some h2; cases h3; exact ⟨rfl, hd, hc⟩
      · cases h2
    case areturn =>
      obtain ⟨rfl, h2⟩ := if_some h
      split at h2
      · obtain ⟨hc, h3⟩ := if_some h2; cases h3; exact ⟨rfl, hd, hc⟩
      · cases h2
    case return_ =>
      obtain ⟨rfl, h2⟩ := if_some h
      split at h2
      · obtain ⟨hc, h3⟩ := if_some h2; cases h3; exact ⟨rfl, hd, hc⟩
      · cases h2
    case invokevirtual idx => exact (zinv_ret (if_some h).2).elim
    case invokestatic idx => exact (zinv_ret (if_some h).2).elim
    case invokespecial idx => exact (zinv_ret (if_some h).2).elim
    case multianewarray idx dm =>
      match dm, h with
      | 2, h => obtain ⟨_, q⟩ := zmna_in (if_some h).2; cases q
      | 0, h => cases h
      | 1, h => cases h
      | k + 3, h => cases h
    all_goals (first
      | (have h2 := (if_some h).2; first
        | (cases h2; done)
        | (obtain ⟨_, _, _, _, q⟩ := zii_inv h2; cases q; done)
        | (obtain ⟨_, _, _, _, q⟩ := zll_inv h2; cases q; done)
        | (obtain ⟨_, _, _, _, q⟩ := zli_inv h2; cases q; done)
        | (obtain ⟨_, _, _, _, _, q⟩ := ziid_inv h2; cases q; done)
        | (obtain ⟨_, _, _, _, _, q⟩ := zlld_inv h2; cases q; done)
        | (obtain ⟨_, _, _, q⟩ := zi_inv h2; cases q; done)
        | (obtain ⟨_, _, q, _⟩ := zld_inv h2; cases q; done)
        | (obtain ⟨_, _, q⟩ := zgo_inv h2; cases q; done)
        | (obtain ⟨_, _, _, _, _, _, _, q⟩ := zget_inv h2; cases q; done)
        | (obtain ⟨_, _, _, _, _, _, _, _, _, _, q, _⟩ := zput_inv h2; cases q; done)
        | (obtain ⟨_, _, _, _, _, _, _, q⟩ := zald_inv h2; cases q; done)
        | (obtain ⟨_, _, _, _, _, _, _, _, q, _⟩ := zast_inv h2; cases q; done)
        | (unfold zst at h2; split at h2 <;> first | (cases h2; done) | (have h3 := (if_some h2).2; cases h3; done))
        | (unfold zif at h2; split at h2 <;> first | (cases h2; done) | (have h3 := (if_some h2).2; split at h3 <;> (cases h3; done)))
        | (unfold zicmp at h2; split at h2 <;> first | (cases h2; done) | (have h3 := (if_some h2).2; split at h3 <;> (cases h3; done)))
        | (unfold zalen at h2; split at h2 <;> first | (cases h2; done) | (have h3 := (if_some h2).2; cases h3; done))
        | (unfold zdupR at h2; split at h2 <;> (cases h2; done))
        | (split at h2 <;> first | (cases h2; done) | (have h3 := (if_some h2).2; cases h3; done) | (obtain ⟨_, _, q⟩ := zsw_l _ h2; cases q; done) | (rcases zsw_t _ _ h2 with ⟨_, _, _, q⟩ | ⟨_, _, _, _, _, _, q⟩ <;> (cases q; done))))
      | skip)
    all_goals (first
      | (have h2 := (if_some h).2; split at h2 <;> first | (cases h2; done) | (split at h2 <;> first | (cases h2; done) | (have h3 := (if_some h2).2; cases h3; done)))
      | skip)
set_option maxHeartbeats 4000000 in
theorem stp_call {L : Nat} {m : Mth} {pc : Nat} {ls : Lo} {st : List TV} {w : Wd} {x : Mth × List TV × List TV} (h : stp L m pc ls st w = some (.inr (.inr x))) : ∃ i idx o, decode m.2.2.2.1 pc = .ok (i, 3) ∧ ((i = .invokevirtual idx ∧ o = 0) ∨ (i = .invokestatic idx ∧ o = 1) ∨ (i = .invokespecial idx ∧ o = 2)) ∧ zinv L m idx pc ls st w o = some (.inr (.inr x)) := by
  unfold stp at h
  split at h
  · cases h
  · rename_i i len hd
    cases i <;> dsimp only at h <;> first | (cases h; done) | skip
    case invokevirtual idx => obtain ⟨rfl, h2⟩ := if_some h; exact ⟨_, idx, 0, hd, Or.inl ⟨rfl, rfl⟩, h2⟩
    case invokestatic idx => obtain ⟨rfl, h2⟩ := if_some h; exact ⟨_, idx, 1, hd, Or.inr (Or.inl ⟨rfl, rfl⟩), h2⟩
    case invokespecial idx => obtain ⟨rfl, h2⟩ := if_some h; exact ⟨_, idx, 2, hd, Or.inr (Or.inr ⟨rfl, rfl⟩), h2⟩
    case multianewarray idx dm =>
      match dm, h with
      | 2, h => obtain ⟨_, q⟩ := zmna_in (if_some h).2; cases q
      | 0, h => cases h
      | 1, h => cases h
      | k + 3, h => cases h
    all_goals (first
      | (have h2 := (if_some h).2; first
        | (cases h2; done)
        | (obtain ⟨_, _, _, _, q⟩ := zii_inv h2; cases q; done)
        | (obtain ⟨_, _, _, _, q⟩ := zll_inv h2; cases q; done)
        | (obtain ⟨_, _, _, _, q⟩ := zli_inv h2; cases q; done)
        | (obtain ⟨_, _, _, _, _, q⟩ := ziid_inv h2; cases q; done)
        | (obtain ⟨_, _, _, _, _, q⟩ := zlld_inv h2; cases q; done)
        | (obtain ⟨_, _, _, q⟩ := zi_inv h2; cases q; done)
        | (obtain ⟨_, _, q, _⟩ := zld_inv h2; cases q; done)
        | (obtain ⟨_, _, q⟩ := zgo_inv h2; cases q; done)
        | (obtain ⟨_, _, _, _, _, _, _, q⟩ := zget_inv h2; cases q; done)
        | (obtain ⟨_, _, _, _, _, _, _, _, _, _, q, _⟩ := zput_inv h2; cases q; done)
        | (obtain ⟨_, _, _, _, _, _, _, q⟩ := zald_inv h2; cases q; done)
        | (obtain ⟨_, _, _, _, _, _, _, _, q, _⟩ := zast_inv h2; cases q; done)
        | (unfold zst at h2; split at h2 <;> first | (cases h2; done) | (have h3 := (if_some h2).2; cases h3; done))
        | (unfold zif at h2; split at h2 <;> first | (cases h2; done) | (have h3 := (if_some h2).2; split at h3 <;> (cases h3; done)))
        | (unfold zicmp at h2; split at h2 <;> first | (cases h2; done) | (have h3 := (if_some h2).2; split at h3 <;> (cases h3; done)))
        | (unfold zalen at h2; split at h2 <;> first | (cases h2; done) | (have h3 := (if_some h2).2; cases h3; done))
        | (unfold zdupR at h2; split at h2 <;> (cases h2; done))
        | (split at h2 <;> first | (cases h2; done) | (have h3 := (if_some h2).2; cases h3; done) | (obtain ⟨_, _, q⟩ := zsw_l _ h2; cases q; done) | (rcases zsw_t _ _ h2 with ⟨_, _, _, q⟩ | ⟨_, _, _, _, _, _, q⟩ <;> (cases q; done))))
      | skip)
    all_goals (first
      | (have h2 := (if_some h).2; split at h2 <;> first | (cases h2; done) | (split at h2 <;> first | (cases h2; done) | (have h3 := (if_some h2).2; cases h3; done)))
      | skip)
