/-! What was read, in both -/
def QOk (E : Env) (q : List (Int × Int)) : Prop := ∀ p ∈ q, p.1 = -1 ∨ (0 ≤ p.1 ∧ p.1 < 6 ∧ ∃ n, E.2.1 p.1 = some n ∧ 0 ≤ p.2 ∧ p.2 < n)
theorem QOk_nil {E : Env} : QOk E [] := fun p hp => absurd hp List.not_mem_nil
theorem QOk_app {E : Env} {q r : List (Int × Int)} (h : QOk E q) (h' : QOk E r) : QOk E (q ++ r) := fun p hp => by
  rcases List.mem_append.mp hp with hp | hp
  · exact h p hp
  · exact h' p hp
def RQ (E : Env) : Rs → Prop
  | .error _ => True
  | .ok (_, q) => QOk E q
section
variable {E : Env}
theorem vL_q (x : Int ⊕ Int) : RQ E (vL E x) := by
  match x with
  | .inl t =>
    unfold vL
    dsimp only
    split
    · exact QOk_nil
    · split
      · trivial
      · intro p hp; left; rw [List.mem_singleton.mp hp]
  | .inr r =>
    unfold vL
    dsimp only
    split
    · trivial
    · exact QOk_nil
theorem vT1_qo {F : Type} {vf : F → Rs} : ∀ (l : List (Int × F)), (∀ p ∈ l, RQ E (vf p.2)) → ∀ (v : Int) (q : List (Int × Int)), QOk E q → RQ E (vT1 vf v q l) := by
  intro l
  induction l with
  | nil => intro _ v q hq; exact hq
  | cons p l ih =>
    intro hl v q hq
    obtain ⟨s, x⟩ := p
    have hx := hl (s, x) List.mem_cons_self
    unfold vT1
    cases hv : vf x with
    | error e => trivial
    | ok z =>
      obtain ⟨u, r⟩ := z
      dsimp only
      split
      · trivial
      · refine ih (fun p hp => hl p (List.mem_cons_of_mem _ hp)) _ _ (QOk_app hq ?_)
        have : RQ E (vf x) := hx
        rw [hv] at this; exact this
theorem vT_qo {F : Type} {vf : F → Rs} {wf : F → Prop} (hf : ∀ x, wf x → RQ E (vf x)) (x : Ter F) (hx : wT wf x) : RQ E (vT vf x) := by
  unfold vT
  have h1 := hf _ hx.1
  cases hv : vf x.1 with
  | error e => trivial
  | ok z =>
    obtain ⟨u, r⟩ := z
    rw [hv] at h1
    exact vT1_qo x.2 (fun p hp => hf _ (hx.2 p hp).2) u r h1
theorem vE1_qo {F : Type} {vf : F → Rs} : ∀ (l : List (Int × Ter F)), (∀ p ∈ l, RQ E (vT vf p.2)) → ∀ (v : Int) (q : List (Int × Int)), QOk E q → RQ E (vE1 vf v q l) := by
  intro l
  induction l with
  | nil => intro _ v q hq; exact hq
  | cons p l ih =>
    intro hl v q hq
    obtain ⟨s, x⟩ := p
    have hx : RQ E (vT vf x) := hl (s, x) List.mem_cons_self
    unfold vE1
    cases hv : vT vf x with
    | error e => trivial
    | ok z =>
      obtain ⟨u, r⟩ := z
      rw [hv] at hx
      exact ih (fun p hp => hl p (List.mem_cons_of_mem _ hp)) _ _ (QOk_app hq hx)
theorem vE_qo {F : Type} {vf : F → Rs} {wf : F → Prop} (hf : ∀ x, wf x → RQ E (vf x)) (x : Exq F) (hx : wE wf x) : RQ E (vE vf x) := by
  unfold vE
  have h1 := vT_qo hf _ hx.1
  cases hv : vT vf x.1 with
  | error e => trivial
  | ok z =>
    obtain ⟨u, r⟩ := z
    rw [hv] at h1
    exact vE1_qo x.2 (fun p hp => vT_qo hf _ (hx.2 p hp).2) u r h1
theorem vI_in {r : Int} {R : Rs} {i : Int} {q : List (Int × Int)} (h : vI E r R = .ok (i, q)) : R = .ok (i, q) ∧ ∃ n, E.2.1 r = some n ∧ 0 ≤ i ∧ i < n := by
  rw [vI_1] at h
  cases R with
  | error e => cases h
  | ok z =>
    obtain ⟨u, q'⟩ := z
    dsimp only at h
    cases hn : E.2.1 r with
    | none => rw [hn] at h; cases h
    | some n =>
      rw [hn] at h
      dsimp only at h
      split at h
      · cases h
      · cases h; exact ⟨rfl, n, rfl, by omega, by omega⟩
theorem vF_qo : ∀ (b : Nat) (x : FF b), wF b x → RQ E (vF E b x) := by
  intro b
  induction b with
  | zero => intro x _; exact vL_q x
  | succ b ih =>
    intro x h
    match x, h with
    | .inl x, h => exact vL_q x
    | .inr (.inl x), h =>
      have h1 := ih x h
      show RQ E (match vF E b x with
        | .error e => .error e
        | .ok (v, q) => .ok (w64 (-v), q))
      cases hv : vF E b x with
      | error e => trivial
      | ok z => obtain ⟨u, q⟩ := z; rw [hv] at h1; exact h1
    | .inr (.inr (.inl (r, e))), h =>
      have h1 := vE_qo ih e h.2
      have hb : 65 ≤ r ∧ r ≤ 70 := by have := h.1; unfold kRow at this; simpa using this
      show RQ E (match vI E (r - 65) (vE (vF E b) e) with
        | .error e => .error e
        | .ok (i, q) => if E.2.2.2 (r - 65) i = true then .error 6 else .ok (E.2.2.1 (r - 65) i, q ++ [(r - 65, i)]))
      cases hv : vI E (r - 65) (vE (vF E b) e) with
      | error e => trivial
      | ok z =>
        obtain ⟨u, q⟩ := z
        obtain ⟨e1, n, e2, e3, e4⟩ := vI_in hv
        rw [e1] at h1
        dsimp only
        split
        · trivial
        · refine QOk_app h1 (fun p hp => ?_)
          rw [List.mem_singleton.mp hp]
          exact Or.inr ⟨by show 0 ≤ r - 65; omega, by show r - 65 < 6; omega, n, e2, e3, e4⟩
    | .inr (.inr (.inr (.inl e))), h => exact vE_qo ih e h
    | .inr (.inr (.inr (.inr (c, e1, e2)))), h =>
      have h1 := vE_qo ih e1 h.2.1
      have h2 := vE_qo ih e2 h.2.2
      show RQ E (match vE (vF E b) e1 with
        | .error e => .error e
        | .ok (v, q) => match vE (vF E b) e2 with
          | .error e => .error e
          | .ok (u, q') => .ok (if c = 60 then bI (v < u) else bI (v = u), q ++ q'))
      cases hv : vE (vF E b) e1 with
      | error e => trivial
      | ok z =>
        obtain ⟨v, q⟩ := z
        rw [hv] at h1
        dsimp only
        cases hv2 : vE (vF E b) e2 with
        | error e => trivial
        | ok z => obtain ⟨u, q'⟩ := z; rw [hv2] at h2; exact QOk_app h1 h2
theorem vP_qo {c : Nat} (p : PP c) (hp : wP p) {pl : Pl} {q : List (Int × Int)} (h : vP E p = .ok (pl, q)) : QOk E q := by
  match p, hp, h with
  | .inl n, hp, h =>
    unfold vP at h
    dsimp only at h
    split at h
    · cases h
    · cases h; exact QOk_nil
  | .inr (r, e), hp, h =>
    unfold vP at h
    dsimp only at h
    split at h
    · cases h
    · rename_i hv
      cases h
      have h1 := vE_qo (vF_qo (E := E) c) e hp.2
      rw [(vI_in hv).1] at h1
      exact h1
end
theorem snI_bit {h : Int → Int} {k i : Nat} : ∀ (q : List (Int × Int)) (I : Nat → Nat), ((snI h I q) k).testBit i = ((I k).testBit i || q.any (fun p => decide (¬ p.1 = -1 ∧ (k : Int) = h p.1 ∧ p.2.toNat = i))) := by
  intro q
  induction q with
  | nil => intro I; simp [snI]
  | cons p q ih =>
    intro I
    have e : snI h I (p :: q) = snI h (if p.1 = -1 then I else fun k => if (k : Int) = h p.1 then I k ||| 2 ^ p.2.toNat else I k) q := rfl
    rw [e, ih, List.any_cons]
    by_cases h1 : p.1 = -1
    · rw [if_pos h1]
      have : decide (¬ p.1 = -1 ∧ (k : Int) = h p.1 ∧ p.2.toNat = i) = false := by simp [h1]
      rw [this, Bool.false_or]
    · rw [if_neg h1]
      by_cases h2 : (k : Int) = h p.1
      · rw [if_pos h2, or_t]
        have : decide (¬ p.1 = -1 ∧ (k : Int) = h p.1 ∧ p.2.toNat = i) = decide (p.2.toNat = i) := by
          rw [decide_eq_decide]; exact ⟨fun hh => hh.2.2, fun hh => ⟨h1, h2, hh⟩⟩
        rw [this, Bool.or_assoc]
      · rw [if_neg h2]
        have : decide (¬ p.1 = -1 ∧ (k : Int) = h p.1 ∧ p.2.toNat = i) = false := by
          rw [decide_eq_false_iff_not]; exact fun hh => h2 hh.2.1
        rw [this, Bool.false_or]
section
variable {f g : Mem} {TH : Nat} {br : Int → Int → Bool}
/-- an item was read in the one as in the other -/
theorem seen_eq (hS : RSt f g TH) {q : List (Int × Int)} (hq : QOk (envC f br) q) {r i : Nat} (hr : r < 6) (h0 : 0 ≤ f 29 r) : ((snI (hld f) (fun _ => 0) q) (f 29 r).toNat).testBit i = ((snI (hlm g) (fun _ => 0) q) (g 175 r).toNat).testBit i := by
  have hrr := hS.rw r (by omega)
  rw [hC_r hr] at hrr
  have hrr := hrr.resolve_left (fun x => by omega)
  rw [snI_bit, snI_bit]
  congr 1
  revert hq
  induction q with
  | nil => intro _; rfl
  | cons p q ih =>
    intro hq
    rw [List.any_cons, List.any_cons, ih (fun x hx => hq x (List.mem_cons_of_mem _ hx))]
    congr 1
    rw [decide_eq_decide]
    rcases hq p List.mem_cons_self with hp | ⟨a1, a2, n, a3, a4, a5⟩
    · constructor
      · intro hh; exact absurd hp hh.1
      · intro hh; exact absurd hp hh.1
    · have hne : ¬ f 29 p.1.toNat = -1 := by
        intro hh
        have : (envC f br).2.1 p.1 = none := by unfold envC; simp only; rw [if_pos hh]
        rw [this] at a3; cases a3
      have hpp := hS.rw p.1.toNat (by omega)
      rw [hC_r (by omega)] at hpp
      have hpp := hpp.resolve_left (fun x => hne x.1)
      have hinj := hS.inj r p.1.toNat (by omega) (by omega) (by rw [hC_r hr]; exact h0) (by rw [hC_r (by omega)]; exact hpp.1)
      rw [hC_r hr, hC_r (by omega)] at hinj
      have e1 : (((f 29 r).toNat : Nat) : Int) = f 29 r := by omega
      have e2 : (((g 175 r).toNat : Nat) : Int) = g 175 r := by omega
      rw [e1, e2]
      show (¬ p.1 = -1 ∧ f 29 r = f 29 p.1.toNat ∧ p.2.toNat = i) ↔ (¬ p.1 = -1 ∧ g 175 r = g 175 p.1.toNat ∧ p.2.toNat = i)
      rw [hinj]
end
