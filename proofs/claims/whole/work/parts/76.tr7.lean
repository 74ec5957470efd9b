/-! Walks over tokens that count brackets -/
def brc (v : Int) : Int := if v = 123 then 1 else if v = 125 then -1 else 0
def bwt (β γ v : Int) : Int := if v = 91 then β else if v = 93 then -β else if v = 40 then γ else if v = 41 then -γ else 0
/-- after each token something is open still -/
def Wl (br : Int → Int) : Int → List Int → Int → Prop
  | o, [], o' => o = o'
  | o, v :: l, o' => 0 < o + br v ∧ Wl br (o + br v) l o'
/-- no sg at no depth -/
def Skp (sg : Int) : Int → List Int → Int → Prop
  | o, [], o' => o = o'
  | o, v :: l, o' => (0 < o ∨ ¬ v = sg) ∧ Skp sg (o + brc v) l o'
theorem Wl_app {br : Int → Int} : ∀ (l m : List Int) (o o1 o2 : Int), Wl br o l o1 → Wl br o1 m o2 → Wl br o (l ++ m) o2 := by
  intro l
  induction l with
  | nil => intro m o o1 o2 h1 h2; rw [show o = o1 from h1]; exact h2
  | cons v l ih => intro m o o1 o2 h1 h2; exact ⟨h1.1, ih m _ o1 o2 h1.2 h2⟩
theorem Skp_app {sg : Int} : ∀ (l m : List Int) (o o1 o2 : Int), Skp sg o l o1 → Skp sg o1 m o2 → Skp sg o (l ++ m) o2 := by
  intro l
  induction l with
  | nil => intro m o o1 o2 h1 h2; rw [show o = o1 from h1]; exact h2
  | cons v l ih => intro m o o1 o2 h1 h2; exact ⟨h1.1, ih m _ o1 o2 h1.2 h2⟩
theorem Wl_0 {br : Int → Int} {o : Int} (ho : 0 < o) : ∀ (l : List Int), (∀ v ∈ l, br v = 0) → Wl br o l o := by
  intro l
  induction l with
  | nil => intro _; rfl
  | cons v l ih =>
    intro h
    have e : o + br v = o := by rw [h v List.mem_cons_self]; omega
    exact ⟨by omega, by rw [e]; exact ih (fun x hx => h x (List.mem_cons_of_mem _ hx))⟩
theorem brc_0 {v : Int} (h : nSep v) : brc v = 0 := by
  obtain ⟨_, h2, h3⟩ := h
  unfold brc; rw [if_neg h2, if_neg h3]
theorem Skp_0 {sg o : Int} : ∀ (l : List Int), (∀ v ∈ l, nSep v ∧ ¬ v = sg) → Skp sg o l o := by
  intro l
  induction l with
  | nil => intro _; rfl
  | cons v l ih =>
    intro h
    have hv := h v List.mem_cons_self
    have e : o + brc v = o := by rw [brc_0 hv.1]; omega
    exact ⟨Or.inr hv.2, by rw [e]; exact ih (fun x hx => h x (List.mem_cons_of_mem _ hx))⟩
theorem Skp_Wl {sg : Int} : ∀ (l : List Int) (o o' : Int), 0 < o → Wl brc o l o' → Skp sg o l o' := by
  intro l
  induction l with
  | nil => intro o o' _ h; exact h
  | cons v l ih => intro o o' ho h; exact ⟨Or.inl ho, ih _ o' h.1 h.2⟩
section
variable {β γ : Int}
theorem bwt_0 {v : Int} (h : ¬ v = 91 ∧ ¬ v = 93 ∧ ¬ v = 40 ∧ ¬ v = 41) : bwt β γ v = 0 := by
  unfold bwt; rw [if_neg h.1, if_neg h.2.1, if_neg h.2.2.1, if_neg h.2.2.2]
theorem kL_b {o : Int} (ho : 0 < o) (x : Int ⊕ Int) (h : wL x) : Wl (bwt β γ) o (kL x) o := by
  refine Wl_0 ho _ (fun v hv => bwt_0 ?_)
  match x, h with
  | .inl t, h =>
    rw [List.mem_singleton.mp hv]
    rcases h with h | h
    · omega
    · unfold kName at h; simp at h; omega
  | .inr r, h =>
    rcases List.mem_cons.mp hv with rfl | hv
    · omega
    · rw [List.mem_singleton.mp hv]; have : kRow r = true := h; unfold kRow at this; simp at this; omega
theorem flat_b {α : Type} {o : Int} (k : α → List Int) : ∀ (l : List α), (∀ p ∈ l, Wl (bwt β γ) o (k p) o) → Wl (bwt β γ) o (l.flatMap k) o := by
  intro l
  induction l with
  | nil => intro _; rfl
  | cons p l ih => intro h; rw [List.flatMap_cons]; exact Wl_app _ _ o o o (h p List.mem_cons_self) (ih (fun q hq => h q (List.mem_cons_of_mem _ hq)))
theorem kT_b {F : Type} {kf : F → List Int} {wf : F → Prop} {o : Int} (ho : 0 < o) (hf : ∀ x, wf x → Wl (bwt β γ) o (kf x) o) (x : Ter F) (h : wT wf x) : Wl (bwt β γ) o (kT kf x) o := by
  refine Wl_app _ _ o o o (hf _ h.1) (flat_b _ _ (fun p hp => ?_))
  have q := h.2 p hp
  have e : bwt β γ p.1 = 0 := bwt_0 (by have := q.1; unfold kPro at this; simp at this; omega)
  refine ⟨by rw [e]; omega, ?_⟩
  rw [e, Int.add_zero]; exact hf _ q.2
theorem kE_b {F : Type} {kf : F → List Int} {wf : F → Prop} {o : Int} (ho : 0 < o) (hf : ∀ x, wf x → Wl (bwt β γ) o (kf x) o) (x : Exq F) (h : wE wf x) : Wl (bwt β γ) o (kE kf x) o := by
  refine Wl_app _ _ o o o (kT_b ho hf _ h.1) (flat_b _ _ (fun p hp => ?_))
  have q := h.2 p hp
  have e : bwt β γ p.1 = 0 := bwt_0 (by have := q.1; unfold kSum at this; simp at this; omega)
  refine ⟨by rw [e]; omega, ?_⟩
  rw [e, Int.add_zero]; exact kT_b ho hf _ q.2
theorem kF_b (hβ : 0 ≤ β) (hγ : 0 ≤ γ) : ∀ (b : Nat) (o : Int), 0 < o → ∀ x : FF b, wF b x → Wl (bwt β γ) o (kF b x) o := by
  have w91 : bwt β γ 91 = β := by simp [bwt]
  have w93 : bwt β γ 93 = -β := by simp [bwt]
  have w40 : bwt β γ 40 = γ := by simp [bwt]
  have w41 : bwt β γ 41 = -γ := by simp [bwt]
  intro b
  induction b with
  | zero => intro o ho x h; exact kL_b ho x h
  | succ b ih =>
    intro o ho x h
    match x with
    | .inl x => exact kL_b ho x h
    | .inr (.inl x) =>
      have e : bwt β γ 45 = 0 := bwt_0 (by omega)
      exact ⟨by rw [e]; omega, by rw [e, Int.add_zero]; exact ih o ho x h⟩
    | .inr (.inr (.inl (r, e))) =>
      have hr : bwt β γ r = 0 := bwt_0 (by have := h.1; unfold kRow at this; simp at this; omega)
      refine ⟨by rw [hr]; omega, ?_⟩
      rw [hr, Int.add_zero]
      refine ⟨by rw [w91]; omega, ?_⟩
      rw [w91]
      refine Wl_app _ _ _ (o + β) _ (kE_b (by omega) (ih (o + β) (by omega)) e h.2) ⟨by rw [w93]; omega, ?_⟩
      rw [w93]; show o + β + -β = o; omega
    | .inr (.inr (.inr (.inl e))) =>
      refine ⟨by rw [w40]; omega, ?_⟩
      rw [w40]
      refine Wl_app _ _ _ (o + γ) _ (kE_b (by omega) (ih (o + γ) (by omega)) e h) ⟨by rw [w41]; omega, ?_⟩
      rw [w41]; show o + γ + -γ = o; omega
    | .inr (.inr (.inr (.inr (c, e1, e2)))) =>
      refine ⟨by rw [w40]; omega, ?_⟩
      rw [w40]
      refine Wl_app _ _ _ (o + γ) _ (kE_b (by omega) (ih (o + γ) (by omega)) e1 h.2.1) ?_
      have hc : bwt β γ c = 0 := bwt_0 (by have := h.1; omega)
      refine ⟨by rw [hc]; omega, ?_⟩
      rw [hc, Int.add_zero]
      refine Wl_app _ _ _ (o + γ) _ (kE_b (by omega) (ih (o + γ) (by omega)) e2 h.2.2) ⟨by rw [w41]; omega, ?_⟩
      rw [w41]; show o + γ + -γ = o; omega
theorem kX_b {c : Nat} {o : Int} (hβ : 0 ≤ β) (hγ : 0 ≤ γ) (ho : 0 < o) (x : EE c) (h : wX x) : Wl (bwt β γ) o (kX x) o := kE_b ho (kF_b hβ hγ c o ho) x h
end
/-! braces of steps -/
theorem kS_c {c : Nat} {o : Bool} {p : Int} (hp : 0 < p) (s : SS c) (h : wS o s) : Wl brc p (kS s) p := by
  rw [kS_0]
  refine Wl_app _ _ p p p (Wl_0 hp _ (fun v hv => brc_0 (kS0_s s h v hv))) ?_
  exact ⟨by simp [brc]; omega, by simp [brc, Wl]⟩
theorem nS_c {p : Int} (hp : 0 < p) (l : List Int) (h : ∀ v ∈ l, nSep v) : Wl brc p l p := Wl_0 hp _ (fun v hv => brc_0 (h v hv))
theorem one_c {p v : Int} (hp : 0 < p) (h : brc v = 0) {l : List Int} {q : Int} (hl : Wl brc p l q) : Wl brc p (v :: l) q := ⟨by omega, by rw [h, Int.add_zero]; exact hl⟩
theorem op_c {p : Int} (hp : 0 < p) {l : List Int} {q : Int} (hl : Wl brc (p + 1) l q) : Wl brc p (123 :: l) q := ⟨by simp [brc]; omega, by simpa [brc] using hl⟩
theorem cl_c {p : Int} (hp : 0 < p) {l : List Int} {q : Int} (hl : Wl brc p l q) : Wl brc (p + 1) (125 :: l) q := ⟨by simp [brc]; omega, by
  rw [show p + 1 + brc 125 = p by simp [brc]; omega]; exact hl⟩
theorem kC_c {c : Nat} {o : Bool} {T : Type} {kb : T → List Int} {wb : T → Prop} (hb : ∀ x, wb x → ∀ p, 0 < p → Wl brc p (kb x) p) {p : Int} (hp : 0 < p) (s : CC c T) (h : wC o wb s) : Wl brc p (kC kb s) p := by
  match s, h with
  | .inl (k, e, a, b, e2), h =>
    obtain ⟨_, hk, he, hx, hy, he2⟩ := h
    refine one_c hp (brc_0 (by unfold nSep; omega)) ?_
    refine Wl_app _ _ p p p (nS_c hp _ (fun v hv => eTk_s (kX_e e he v hv))) (op_c hp ?_)
    refine Wl_app _ _ _ (p + 1) p (hb a hx _ (by omega)) (cl_c hp ?_)
    refine one_c hp (brc_0 (by unfold nSep; split <;> omega)) (op_c hp ?_)
    refine Wl_app _ _ _ (p + 1) p (hb b hy _ (by omega)) (cl_c hp ?_)
    refine one_c hp (brc_0 (by unfold nSep; split <;> omega)) ?_
    refine Wl_app _ _ p p p (nS_c hp _ (fun v hv => eTk_s (kX_e e2 he2 v hv))) ?_
    exact ⟨by simp [brc]; omega, by simp [brc, Wl]⟩
  | .inr (.inl (e, a, b)), h =>
    obtain ⟨_, he, hx, hy⟩ := h
    refine one_c hp (by simp [brc]) ?_
    refine Wl_app _ _ p p p (nS_c hp _ (fun v hv => eTk_s (kX_e e he v hv))) (op_c hp ?_)
    refine Wl_app _ _ _ (p + 1) p (hb a hx _ (by omega)) (cl_c hp ?_)
    refine one_c hp (by simp [brc]) (op_c hp ?_)
    refine Wl_app _ _ _ (p + 1) p (hb b hy _ (by omega)) (cl_c hp ?_)
    exact ⟨by simp [brc]; omega, by simp [brc, Wl]⟩
  | .inr (.inr (e, a)), h =>
    obtain ⟨_, he, hx⟩ := h
    refine one_c hp (by simp [brc]) ?_
    refine Wl_app _ _ p p p (nS_c hp _ (fun v hv => eTk_s (kX_e e he v hv))) (op_c hp ?_)
    refine Wl_app _ _ _ (p + 1) p (hb a hx _ (by omega)) (cl_c hp ?_)
    exact ⟨by simp [brc]; omega, by simp [brc, Wl]⟩
theorem kB_c {c : Nat} {o : Bool} : ∀ (b : Nat) (x : TB c b), wB o b x → ∀ p, 0 < p → Wl brc p (kB b x) p := by
  intro b
  induction b with
  | zero => intro x; exact nomatch x
  | succ b ih =>
    intro x hx p hp
    show Wl brc p (List.flatMap (k1 (kB b)) x) p
    have hx : allL (w1 o (wB o b)) x := hx
    revert hx
    generalize (show List (SS c ⊕ CC c (TB c b)) from x) = l
    intro hl
    induction l with
    | nil => rfl
    | cons s l ihl =>
      rw [List.flatMap_cons]
      refine Wl_app _ _ p p p ?_ (ihl (fun y hy => hl y (List.mem_cons_of_mem _ hy)))
      have hs := hl s List.mem_cons_self
      match s, hs with
      | .inl s, hs => exact kS_c hp s hs
      | .inr s, hs => exact kC_c ih hp s hs
/-- a step ends at the ; that find finds -/
def k10 {c : Nat} {T : Type} (kb : T → List Int) : SS c ⊕ CC c T → List Int
  | .inl s => kS0 s
  | .inr (.inl (k, e, a, b, e2)) => k :: (kX e ++ 123 :: (kb a ++ 125 :: (if k = 208 then 209 else 212) :: 123 :: (kb b ++ 125 :: (if k = 208 then 210 else 213) :: kX e2)))
  | .inr (.inr (.inl (e, a, b))) => 216 :: (kX e ++ 123 :: (kb a ++ 125 :: 209 :: 123 :: (kb b ++ [125])))
  | .inr (.inr (.inr (e, a))) => 215 :: (kX e ++ 123 :: (kb a ++ [125]))
theorem k1_0 {c : Nat} {T : Type} (kb : T → List Int) (s : SS c ⊕ CC c T) : k1 kb s = k10 kb s ++ [59] := by
  match s with
  | .inl s => exact kS_0 s
  | .inr (.inl (k, e, a, b, e2)) => simp [k1, k10, kC]
  | .inr (.inr (.inl (e, a, b))) => simp [k1, k10, kC]
  | .inr (.inr (.inr (e, a))) => simp [k1, k10, kC]
theorem sk1 {sg o o' v : Int} {l : List Int} (h : ¬ v = sg) (hv : brc v = 0) (hl : Skp sg o l o') : Skp sg o (v :: l) o' := ⟨Or.inr h, by rw [hv, Int.add_zero]; exact hl⟩
theorem sk_op {o' : Int} {l : List Int} (hl : Skp 59 1 l o') : Skp 59 0 (123 :: l) o' := ⟨Or.inr (by omega), by simpa [brc] using hl⟩
theorem sk_cl {o' : Int} {l : List Int} (hl : Skp 59 0 l o') : Skp 59 1 (125 :: l) o' := ⟨Or.inl (by omega), by simpa [brc] using hl⟩
theorem k10_s {c : Nat} {o : Bool} {T : Type} {kb : T → List Int} {wb : T → Prop} (hb : ∀ x, wb x → ∀ p, 0 < p → Wl brc p (kb x) p) (s : SS c ⊕ CC c T) (h : w1 o wb s) : Skp 59 0 (k10 kb s) 0 := by
  have hx : ∀ (e : EE c), wX e → Skp 59 0 (kX e) 0 := fun e he => Skp_0 _ (fun v hv => ⟨eTk_s (kX_e e he v hv), (eTk_s (kX_e e he v hv)).1⟩)
  have hk : ∀ x, wb x → Skp 59 1 (kb x) 1 := fun x hx => Skp_Wl _ _ _ (by omega) (hb x hx 1 (by omega))
  match s, h with
  | .inl s, h => exact Skp_0 _ (fun v hv => ⟨kS0_s s h v hv, (kS0_s s h v hv).1⟩)
  | .inr (.inl (k, e, a, b, e2)), h =>
    obtain ⟨_, hk', he, ha, hb', he2⟩ := h
    refine sk1 (by omega) (brc_0 (by unfold nSep; omega)) (Skp_app _ _ _ 0 _ (hx e he) (sk_op (Skp_app _ _ _ 1 _ (hk a ha) (sk_cl ?_))))
    refine sk1 (by split <;> omega) (brc_0 (by unfold nSep; split <;> omega)) (sk_op (Skp_app _ _ _ 1 _ (hk b hb') (sk_cl ?_)))
    exact sk1 (by split <;> omega) (brc_0 (by unfold nSep; split <;> omega)) (hx e2 he2)
  | .inr (.inr (.inl (e, a, b))), h =>
    obtain ⟨_, he, ha, hb'⟩ := h
    refine sk1 (by omega) (by simp [brc]) (Skp_app _ _ _ 0 _ (hx e he) (sk_op (Skp_app _ _ _ 1 _ (hk a ha) (sk_cl ?_))))
    refine sk1 (by omega) (by simp [brc]) (sk_op (Skp_app _ _ _ 1 _ (hk b hb') (sk_cl rfl)))
  | .inr (.inr (.inr (e, a))), h =>
    obtain ⟨_, he, ha⟩ := h
    exact sk1 (by omega) (by simp [brc]) (Skp_app _ _ _ 0 _ (hx e he) (sk_op (Skp_app _ _ _ 1 _ (hk a ha) (sk_cl rfl))))
