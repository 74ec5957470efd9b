/-! Which tokens stand in an E -/
def eTk (x : Int) : Prop := x < 0 ∨ kName x = true ∨ kRow x = true ∨ x = 35 ∨ x = 45 ∨ x = 40 ∨ x = 41 ∨ x = 91 ∨ x = 93 ∨ x = 60 ∨ x = 61 ∨ kSum x = true ∨ kPro x = true
theorem eTk_no {x : Int} (h : eTk x) : ¬ x = 59 ∧ ¬ x = 123 ∧ ¬ x = 125 ∧ x < 125 ∧ ¬ x = 0 := by
  unfold eTk kName kRow kSum kPro at h
  simp only [decide_eq_true_eq] at h
  omega
theorem kL_e : ∀ (x : Int ⊕ Int), wL x → ∀ v ∈ kL x, eTk v := by
  intro x h v hv
  unfold eTk
  match x with
  | .inl t =>
    rw [List.mem_singleton.mp hv]
    rcases h with h | h
    · exact Or.inl h.2
    · exact Or.inr (Or.inl h)
  | .inr r =>
    rcases List.mem_cons.mp hv with rfl | hv
    · right; right; right; left; rfl
    · rw [List.mem_singleton.mp hv]; exact Or.inr (Or.inr (Or.inl h))
theorem kT_e {F : Type} {kf : F → List Int} {wf : F → Prop} (hf : ∀ x, wf x → ∀ v ∈ kf x, eTk v) (x : Ter F) (h : wT wf x) : ∀ v ∈ kT kf x, eTk v := by
  intro v hv
  rcases List.mem_append.mp hv with hv | hv
  · exact hf _ h.1 v hv
  · obtain ⟨p, hp, hv⟩ := List.mem_flatMap.mp hv
    have q := h.2 p hp
    rcases List.mem_cons.mp hv with rfl | hv
    · unfold eTk; have := q.1; simp [this]
    · exact hf _ q.2 v hv
theorem kE_e {F : Type} {kf : F → List Int} {wf : F → Prop} (hf : ∀ x, wf x → ∀ v ∈ kf x, eTk v) (x : Exq F) (h : wE wf x) : ∀ v ∈ kE kf x, eTk v := by
  intro v hv
  rcases List.mem_append.mp hv with hv | hv
  · exact kT_e hf _ h.1 v hv
  · obtain ⟨p, hp, hv⟩ := List.mem_flatMap.mp hv
    have q := h.2 p hp
    rcases List.mem_cons.mp hv with rfl | hv
    · unfold eTk; have := q.1; simp [this]
    · exact kT_e hf _ q.2 v hv
theorem kF_e : ∀ (b : Nat) (x : FF b), wF b x → ∀ v ∈ kF b x, eTk v := by
  intro b
  induction b with
  | zero => intro x h v hv; exact kL_e x h v hv
  | succ b ih =>
    intro x h v hv
    match x with
    | .inl x => exact kL_e x h v hv
    | .inr (.inl x) =>
      rcases List.mem_cons.mp hv with rfl | hv
      · unfold eTk; omega
      · exact ih x h v hv
    | .inr (.inr (.inl (r, e))) =>
      rcases List.mem_cons.mp hv with rfl | hv
      · exact Or.inr (Or.inr (Or.inl h.1))
      · rcases List.mem_cons.mp hv with rfl | hv
        · unfold eTk; omega
        · rcases List.mem_append.mp hv with hv | hv
          · exact kE_e ih e h.2 v hv
          · rw [List.mem_singleton.mp hv]; unfold eTk; omega
    | .inr (.inr (.inr (.inl e))) =>
      rcases List.mem_cons.mp hv with rfl | hv
      · unfold eTk; omega
      · rcases List.mem_append.mp hv with hv | hv
        · exact kE_e ih e h v hv
        · rw [List.mem_singleton.mp hv]; unfold eTk; omega
    | .inr (.inr (.inr (.inr (c, e1, e2)))) =>
      rcases List.mem_cons.mp hv with rfl | hv
      · unfold eTk; omega
      · rcases List.mem_append.mp hv with hv | hv
        · exact kE_e ih e1 h.2.1 v hv
        · rcases List.mem_cons.mp hv with rfl | hv
          · have := h.1; unfold eTk; omega
          · rcases List.mem_append.mp hv with hv | hv
            · exact kE_e ih e2 h.2.2 v hv
            · rw [List.mem_singleton.mp hv]; unfold eTk; omega
theorem kX_e {c : Nat} (x : EE c) (h : wX x) : ∀ v ∈ kX x, eTk v := kE_e (kF_e c) x h
theorem kP_e {c : Nat} (x : PP c) (h : wP x) : ∀ v ∈ kP x, eTk v := by
  intro v hv
  match x with
  | .inl n => rw [List.mem_singleton.mp hv]; exact Or.inr (Or.inl h)
  | .inr (r, e) =>
    rcases List.mem_cons.mp hv with rfl | hv
    · exact Or.inr (Or.inr (Or.inl h.1))
    · rcases List.mem_cons.mp hv with rfl | hv
      · unfold eTk; omega
      · rcases List.mem_append.mp hv with hv | hv
        · exact kX_e e h.2 v hv
        · rw [List.mem_singleton.mp hv]; unfold eTk; omega
/-- next, over tokens that are known -/
theorem tks_at {T : Int → Int} : ∀ (m : Nat) (i q : Int), i ≤ q → q < i + m → T q ∈ tks T i m := by
  intro m
  induction m with
  | zero => intro i q h1 h2; omega
  | succ m ih =>
    intro i q h1 h2
    by_cases e : q = i
    · subst e; exact List.mem_cons_self
    · exact List.mem_cons_of_mem _ (ih (i + 1) q (by omega) (by omega))
theorem seg_at {T : Int → Int} {i j q : Int} {l : List Int} (h : seg T i j l) (h1 : i ≤ q) (h2 : q < j) : T q ∈ l := by
  rw [h.2]; exact tks_at _ i q h1 (by omega)
theorem nxt_is {T : Int → Int} {len tk : Int} : ∀ (n : Nat) (i j : Int), n = (len - i).toNat → i ≤ j → j < len → (∀ q, i ≤ q → q < j → ¬ T q = tk) → T j = tk → nxtF T len tk n i = j := by
  intro n
  induction n with
  | zero => intro i j h1 h2 h3; omega
  | succ n ih =>
    intro i j h1 h2 h3 h4 h5
    unfold nxtF
    by_cases e : i = j
    · subst e; rw [if_pos h5]
    · rw [if_neg (h4 i (Int.le_refl _) (by omega))]
      exact ih (i + 1) j (by omega) (by omega) h3 (fun q a b => h4 q (by omega) b) h5
theorem nxt_seg {T : Int → Int} {len tk i j : Int} {l : List Int} (h : seg T i j l) (hl : ∀ v ∈ l, ¬ v = tk) (hj : T j = tk) (hlen : j < len) : nxt T len tk i = j :=
  nxt_is _ i j rfl h.1 hlen (fun _ a b => hl _ (seg_at h a b)) hj
