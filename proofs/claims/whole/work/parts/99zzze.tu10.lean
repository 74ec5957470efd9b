/-! turn, the reference: the tests of a set -/
def gf : Int → List Int → Prop
  | _, [] => True
  | pv, v :: l => ((v = 43 ∨ v = 94 ∨ v = 124) → kEnd pv = true) ∧ gf v l
theorem gf_app : ∀ (l m : List Int) (pv : Int), gf pv l → gf (lstD pv l) m → gf pv (l ++ m) := by
  intro l
  induction l with
  | nil => intro m pv _ h; exact h
  | cons v l ih => intro m pv h1 h2; exact ⟨h1.1, ih m v h1.2 h2⟩
def gok (l : List Int) : Prop := ∀ pv, gf pv l ∧ kEnd (lstD pv l) = true
theorem gok_L (x : Int ⊕ Int) (h : wL x) : gok (kL x) := by
  intro pv
  match x, h with
  | .inl v, h =>
    have h' : (-1000000000 ≤ v ∧ v < 0) ∨ kName v = true := h
    rcases h' with h' | h'
    · refine ⟨⟨fun hh => by omega, trivial⟩, ?_⟩
      show kEnd v = true
      exact kEnd_n h'.2
    · refine ⟨⟨fun hh => by unfold kName at h'; simp at h'; omega, trivial⟩, ?_⟩
      show kEnd v = true
      exact kEnd_a h'
  | .inr r, h =>
    have h' : kRow r = true := h
    refine ⟨⟨fun hh => by omega, fun hh => by unfold kRow at h'; simp at h'; omega, trivial⟩, ?_⟩
    show kEnd r = true
    exact kEnd_r h'
theorem gok_fl {α : Type} {k : α → List Int} : ∀ (l : List (Int × α)), (∀ p ∈ l, gok (k p.2)) → ∀ pv, kEnd pv = true → gf pv (l.flatMap (fun p => p.1 :: k p.2)) ∧ kEnd (lstD pv (l.flatMap (fun p => p.1 :: k p.2))) = true := by
  intro l
  induction l with
  | nil => intro _ pv h; exact ⟨trivial, h⟩
  | cons p l ih =>
    intro hp pv h
    obtain ⟨h1, h2⟩ := hp p List.mem_cons_self p.1
    obtain ⟨h3, h4⟩ := ih (fun q hq => hp q (List.mem_cons_of_mem _ hq)) (lstD p.1 (k p.2)) h2
    rw [List.flatMap_cons, List.cons_append]
    refine ⟨⟨fun _ => h, gf_app _ _ _ h1 h3⟩, ?_⟩
    show kEnd (lstD p.1 (k p.2 ++ _)) = true
    rw [lstD_app]; exact h4
theorem gok_T {F : Type} {kf : F → List Int} {wf : F → Prop} (hf : ∀ x, wf x → gok (kf x)) (x : Ter F) (h : wT wf x) : gok (kT kf x) := by
  intro pv
  obtain ⟨h1, h2⟩ := hf _ h.1 pv
  obtain ⟨h3, h4⟩ := gok_fl x.2 (fun p hp => hf p.2 (h.2 p hp).2) _ h2
  refine ⟨gf_app _ _ _ h1 h3, ?_⟩
  show kEnd (lstD pv (kf x.1 ++ _)) = true
  rw [lstD_app]; exact h4
theorem gok_E {F : Type} {kf : F → List Int} {wf : F → Prop} (hf : ∀ x, wf x → gok (kf x)) (x : Exq F) (h : wE wf x) : gok (kE kf x) := by
  intro pv
  obtain ⟨h1, h2⟩ := gok_T hf _ h.1 pv
  obtain ⟨h3, h4⟩ := gok_fl x.2 (fun p hp => gok_T hf p.2 (h.2 p hp).2) _ h2
  refine ⟨gf_app _ _ _ h1 h3, ?_⟩
  show kEnd (lstD pv (kT kf x.1 ++ _)) = true
  rw [lstD_app]; exact h4
theorem gok_br {l : List Int} {o v : Int} (h : gok l) (hv : ¬ (v = 43 ∨ v = 94 ∨ v = 124)) (hk : kEnd v = true) : gf o (l ++ [v]) ∧ kEnd (lstD o (l ++ [v])) = true := by
  refine ⟨gf_app _ _ _ (h o).1 ⟨fun hh => absurd hh hv, trivial⟩, ?_⟩
  rw [lstD_app]; exact hk
theorem gok_F : ∀ (b : Nat) (x : FF b), wF b x → gok (kF b x) := by
  intro b
  induction b with
  | zero => intro x h; exact gok_L x h
  | succ b ih =>
    intro x h
    match x, h with
    | .inl x, h => exact gok_L x h
    | .inr (.inl x), h =>
      intro pv
      obtain ⟨h1, h2⟩ := ih x h 45
      exact ⟨⟨fun hh => by omega, h1⟩, h2⟩
    | .inr (.inr (.inl (r, e))), h =>
      intro pv
      have hr : kRow r = true := h.1
      obtain ⟨h1, h2⟩ := gok_br (o := 91) (v := 93) (gok_E ih e h.2) (by omega) (by decide)
      exact ⟨⟨fun hh => by unfold kRow at hr; simp at hr; omega, fun hh => by omega, h1⟩, h2⟩
    | .inr (.inr (.inr (.inl e))), h =>
      intro pv
      obtain ⟨h1, h2⟩ := gok_br (o := 40) (v := 41) (gok_E ih e h) (by omega) (by decide)
      exact ⟨⟨fun hh => by omega, h1⟩, h2⟩
    | .inr (.inr (.inr (.inr (q, e1, e2)))), h =>
      intro pv
      have hq : q = 60 ∨ q = 61 := h.1
      obtain ⟨h1, h2⟩ := gok_br (o := q) (v := 41) (gok_E ih e2 h.2.2) (by omega) (by decide)
      refine ⟨⟨fun hh => by omega, gf_app _ _ _ (gok_E ih e1 h.2.1 40).1 ⟨fun hh => by omega, h1⟩⟩, ?_⟩
      show kEnd (lstD 40 (kE (kF b) e1 ++ q :: (kE (kF b) e2 ++ [41]))) = true
      rw [lstD_app]; exact h2
theorem gok_X {c : Nat} (e : EE c) (h : wX e) : gok (kX e) := gok_E (gok_F c) e h
/-- how many signs of a sum stand outside of brackets -/
def cntS : Int → Int → List Int → Nat
  | _, _, [] => 0
  | pv, dp, v :: l => (if dp = 0 ∧ eSl pv v = 7 ∧ kSum v = true then 1 else 0) + cntS v (dp + opb v) l
theorem sum_7 {pv v : Int} (h : kSum v = true) : (eSl pv v = 7 ↔ (v = 45 → kEnd pv = true)) ∧ opb v = 0 := by
  have hv : v = 43 ∨ v = 45 ∨ v = 94 ∨ v = 124 := by unfold kSum at h; simpa using h
  unfold eSl
  rcases hv with rfl | rfl | rfl | rfl
  · exact ⟨by rw [if_neg (by omega)]; exact ⟨fun _ hh => by omega, fun _ => by decide⟩, by decide⟩
  · refine ⟨?_, by decide⟩
    by_cases hk : kEnd pv = true
    · rw [if_neg (fun hh => hh.2 hk)]; exact ⟨fun _ _ => hk, fun _ => by decide⟩
    · rw [if_pos ⟨rfl, hk⟩]; exact ⟨fun hh => absurd hh (by decide), fun hh => absurd (hh rfl) hk⟩
  · exact ⟨by rw [if_neg (by omega)]; exact ⟨fun _ hh => by omega, fun _ => by decide⟩, by decide⟩
  · exact ⟨by rw [if_neg (by omega)]; exact ⟨fun _ hh => by omega, fun _ => by decide⟩, by decide⟩
theorem one_cnt : ∀ (l : List Int) (pv dp : Int), gf pv l → (one1 pv dp l = true ↔ cntS pv dp l = 0) := by
  intro l
  induction l with
  | nil => intro pv dp _; exact ⟨fun _ => rfl, fun _ => rfl⟩
  | cons v l ih =>
    intro pv dp hg
    have hr := ih v (dp + opb v) hg.2
    show (if dp + opb v = 0 ∧ kSum v = true ∧ kEnd pv = true then false else one1 v (dp + opb v) l) = true ↔ (if dp = 0 ∧ eSl pv v = 7 ∧ kSum v = true then 1 else 0) + cntS v (dp + opb v) l = 0
    by_cases hs : kSum v = true
    · obtain ⟨h7, h0⟩ := sum_7 (pv := pv) hs
      have hv : v = 43 ∨ v = 45 ∨ v = 94 ∨ v = 124 := by unfold kSum at hs; simpa using hs
      have h8 : eSl pv v = 7 ↔ kEnd pv = true := by
        rw [h7]
        constructor
        · intro hh
          rcases hv with h | h | h | h
          · exact hg.1 (Or.inl h)
          · exact hh h
          · exact hg.1 (Or.inr (Or.inl h))
          · exact hg.1 (Or.inr (Or.inr h))
        · intro hh _; exact hh
      rw [h0, Int.add_zero] at hr ⊢
      by_cases hc : dp = 0 ∧ kEnd pv = true
      · rw [if_pos ⟨hc.1, hs, hc.2⟩, if_pos ⟨hc.1, h8.mpr hc.2, hs⟩]
        exact ⟨fun hh => absurd hh (by decide), fun hh => by omega⟩
      · rw [if_neg (fun hh => hc ⟨hh.1, hh.2.2⟩), if_neg (fun hh => hc ⟨hh.1, h8.mp hh.2.1⟩), Nat.zero_add]
        exact hr
    · rw [if_neg (fun hh => hs hh.2.1), if_neg (fun hh => hs hh.2.2), Nat.zero_add]
      exact hr
theorem smw_iff {pv v : Int} : (eSl pv v = 7 ∧ kSum (whc v) = true) ↔ (eSl pv v = 7 ∧ kSum v = true) := by
  have key : eSl pv v = 7 → whc v = v := by
    intro h
    unfold eSl at h
    split at h
    · omega
    · exact srt7 h
  constructor
  · rintro ⟨h1, h2⟩
    rw [key h1] at h2
    exact ⟨h1, h2⟩
  · rintro ⟨h1, h2⟩
    refine ⟨h1, ?_⟩
    rw [key h1]; exact h2
