/-! Worth: what is read, and what a value leaves -/
def snN (N : Nat) (q : List (Int × Int)) : Nat := q.foldl (fun N p => if p.1 = -1 then N ||| 2 ^ p.2.toNat else N) N
def snI (h : Int → Int) (I : Nat → Nat) (q : List (Int × Int)) : Nat → Nat := q.foldl (fun I p => if p.1 = -1 then I else fun k => if (k : Int) = h p.1 then I k ||| 2 ^ p.2.toNat else I k) I
theorem snN_app {N : Nat} {q r : List (Int × Int)} : snN N (q ++ r) = snN (snN N q) r := by unfold snN; rw [List.foldl_append]
theorem snI_app {h : Int → Int} {I : Nat → Nat} {q r : List (Int × Int)} : snI h I (q ++ r) = snI h (snI h I q) r := by unfold snI; rw [List.foldl_append]
abbrev EnC (f : Mem) (E : Env) : Prop := (∀ k : Nat, k < 26 → (f 20 k = 0 ∧ E.1 k = none) ∨ (f 20 k = 1 ∧ E.1 k = some (f 21 k))) ∧ (∀ r : Nat, r < 6 → (f 29 r = -1 ∧ E.2.1 r = none) ∨ (0 ≤ f 29 r ∧ f 29 r < 15 ∧ E.2.1 r = some (f 32 (f 29 r).toNat))) ∧ (∀ n : Nat, n < 15 → 0 ≤ f 32 n ∧ f 32 n ≤ 12) ∧ (∀ r i : Nat, r < 6 → 0 ≤ f 29 r → (i : Int) < f 32 (f 29 r).toNat → E.2.2.1 r i = f (34 + (f 29 r).toNat) i) ∧ (∀ r i : Nat, r < 6 → 0 ≤ f 29 r → (i : Int) < 12 → E.2.2.2 r i = decide (f 149 4 = 26 + f 29 r * 12 + i))
theorem EnC.n {f : Mem} {E : Env} (hSelf : EnC f E) : ∀ k : Nat, k < 26 → (f 20 k = 0 ∧ E.1 k = none) ∨ (f 20 k = 1 ∧ E.1 k = some (f 21 k)) := hSelf.1
theorem EnC.r {f : Mem} {E : Env} (hSelf : EnC f E) : ∀ r : Nat, r < 6 → (f 29 r = -1 ∧ E.2.1 r = none) ∨ (0 ≤ f 29 r ∧ f 29 r < 15 ∧ E.2.1 r = some (f 32 (f 29 r).toNat)) := hSelf.2.1
theorem EnC.c {f : Mem} {E : Env} (hSelf : EnC f E) : ∀ n : Nat, n < 15 → 0 ≤ f 32 n ∧ f 32 n ≤ 12 := hSelf.2.2.1
theorem EnC.i {f : Mem} {E : Env} (hSelf : EnC f E) : ∀ r i : Nat, r < 6 → 0 ≤ f 29 r → (i : Int) < f 32 (f 29 r).toNat → E.2.2.1 r i = f (34 + (f 29 r).toNat) i := hSelf.2.2.2.1
theorem EnC.b {f : Mem} {E : Env} (hSelf : EnC f E) : ∀ r i : Nat, r < 6 → 0 ≤ f 29 r → (i : Int) < 12 → E.2.2.2 r i = decide (f 149 4 = 26 + f 29 r * 12 + i) := hSelf.2.2.2.2
def WS (f : Mem) (N : Nat) (I : Nat → Nat) : Prop := f 149 3 = (N : Int) ∧ N < 67108864 ∧ ∀ k, k < 15 → f 150 k = (I k : Int) ∧ I k < 4096
/-- what the reckoning of an E may change -/
def FW (f f' : Mem) : Prop := ∀ b j, ¬ (b = 150 ∨ (b = 149 ∧ (j = 3 ∨ j = 6 ∨ j = 7))) → f' b j = f b j
theorem FW_refl {f : Mem} : FW f f := fun _ _ _ => rfl
theorem FW_tr {f f1 f2 : Mem} (h : FW f f1) (h' : FW f1 f2) : FW f f2 := fun b j hh => (h' b j hh).trans (h b j hh)
theorem FW_m {f : Mem} {j : Nat} {v : Int} (h : j = 3 ∨ j = 6 ∨ j = 7) : FW f (mset f 149 j v) := fun b k hh => by rw [rd, if_neg (by omega)]
theorem EnC_FW {f f' : Mem} {E : Env} (h : EnC f E) (hf : FW f f') : EnC f' E := by
  refine ⟨fun k hk => ?_, fun r hr => ?_, fun n hn => ?_, fun r i hr h0 hi => ?_, fun r i hr h0 hi => ?_⟩
  · rw [hf 20 k (by omega), hf 21 k (by omega)]; exact h.n k hk
  · rw [hf 29 r (by omega), hf 32 _ (by omega)]; exact h.r r hr
  · rw [hf 32 n (by omega)]; exact h.c n hn
  · rw [hf 29 r (by omega)] at h0
    rw [hf 29 r (by omega), hf 32 _ (by omega)] at hi
    rw [hf 29 r (by omega), hf _ _ (by have := h.r r hr; omega)]
    exact h.i r i hr h0 hi
  · rw [hf 29 r (by omega)] at h0
    rw [hf 29 r (by omega), hf 149 4 (by omega)]
    exact h.b r i hr h0 hi
def hld (f : Mem) (r : Int) : Int := f 29 r.toNat
theorem hld_FW {f f' : Mem} (hf : FW f f') : hld f' = hld f := by funext r; exact hf 29 _ (by omega)
def VQ (f : Mem) (N : Nat) (I : Nat → Nat) (t g : Mem) (j : Int) (Q : Option TV → Wd → Prop) : Rs → Prop
  | .ok (v, q) => ∀ f', FW f f' → f' 149 6 = j → f' 149 7 = 0 → WS f' (snN N q) (snI (hld f) I q) → Q (some (tL v)) (WW f' t g)
  | .error w => ∀ f' v, FW f f' → f' 149 7 = w → ¬ w = 0 → Q (some (tL v)) (WW f' t g)
def addq (q : List (Int × Int)) : Rs → Rs
  | .ok (v, r) => .ok (v, q ++ r)
  | .error e => .error e
theorem addq_nil {R : Rs} : addq [] R = R := by cases R <;> rfl
theorem addq_addq {q r : List (Int × Int)} {R : Rs} : addq q (addq r R) = addq (q ++ r) R := by
  cases R with
  | error e => rfl
  | ok z => obtain ⟨v, s⟩ := z; simp [addq]
theorem VQ_seq {f f1 t g : Mem} {N : Nat} {I : Nat → Nat} {j : Int} {Q : Option TV → Wd → Prop} {q : List (Int × Int)} {R : Rs} (hf : FW f f1) (h : VQ f N I t g j Q (addq q R)) : VQ f1 (snN N q) (snI (hld f) I q) t g j Q R := by
  cases R with
  | error e => exact fun f' v a b c => h f' v (FW_tr hf a) b c
  | ok z =>
    obtain ⟨v, r⟩ := z
    intro f' a b c e
    rw [hld_FW hf] at e
    exact h f' (FW_tr hf a) b c (by rw [snN_app, snI_app]; exact e)
theorem VQ_FW {f f1 t g : Mem} {N : Nat} {I : Nat → Nat} {j : Int} {Q : Option TV → Wd → Prop} {R : Rs} (hf : FW f f1) (h : VQ f N I t g j Q R) : VQ f1 N I t g j Q R := VQ_seq (q := []) hf (by rw [addq_nil]; exact h)
theorem vT1_q {F : Type} {vf : F → Rs} : ∀ (l : List (Int × F)) (v : Int) (q : List (Int × Int)), vT1 vf v q l = addq q (vT1 vf v [] l) := by
  intro l
  induction l with
  | nil => intro v q; simp [vT1, addq]
  | cons p l ih =>
    intro v q
    obtain ⟨s, x⟩ := p
    simp only [vT1]
    cases vf x with
    | error e => rfl
    | ok z =>
      obtain ⟨u, r⟩ := z
      dsimp only
      split
      · rfl
      · rw [ih _ (q ++ r), ih _ ([] ++ r), addq_addq]; rfl
theorem vE1_q {F : Type} {vf : F → Rs} : ∀ (l : List (Int × Ter F)) (v : Int) (q : List (Int × Int)), vE1 vf v q l = addq q (vE1 vf v [] l) := by
  intro l
  induction l with
  | nil => intro v q; simp [vE1, addq]
  | cons p l ih =>
    intro v q
    obtain ⟨s, x⟩ := p
    simp only [vE1]
    cases vT vf x with
    | error e => rfl
    | ok z =>
      obtain ⟨u, r⟩ := z
      dsimp only
      rw [ih _ (q ++ r), ih _ ([] ++ r), addq_addq]; rfl
theorem WS_m {f : Mem} {N : Nat} {I : Nat → Nat} {j : Nat} {v : Int} (h : WS f N I) (hj : ¬ j = 3) : WS (mset f 149 j v) N I := by
  obtain ⟨a, b, c⟩ := h
  refine ⟨by rw [rd, if_neg (by omega)]; exact a, b, fun k hk => ?_⟩
  rw [rd, if_neg (by omega)]; exact c k hk
