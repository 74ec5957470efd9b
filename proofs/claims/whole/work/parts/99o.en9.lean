/-! Entries of a text, for the run -/
def EO9 (t : Mem) (a q : Nat) (e : En9) : Prop := EOk t a 0 q e.1 ∧ (¬ e.1.2.1 = 0 → t (a + 5) e.1.2.2.2.2.1.toNat = e.2.1 ∧ t (a + 5) e.1.2.2.2.2.2.2.toNat = e.2.2)
def TO9 (t : Mem) (a : Nat) : Nat → List En9 → Prop
  | _, [] => True
  | q, e :: l => EO9 t a q e ∧ TO9 t a (q + 1) l
theorem TO9_app {t : Mem} {a : Nat} : ∀ (l m : List En9) (q : Nat), TO9 t a q (l ++ m) ↔ TO9 t a q l ∧ TO9 t a (q + l.length) m := by
  intro l
  induction l with
  | nil => intro m q; simp [TO9]
  | cons e l ih =>
    intro m q
    rw [List.cons_append, TO9, TO9, ih, List.length_cons, show q + 1 + l.length = q + (l.length + 1) by omega, and_assoc]
theorem TO9_get {t : Mem} {a : Nat} : ∀ (l : List En9) (q k : Nat) (e : En9), TO9 t a q l → l[k]? = some e → EO9 t a (q + k) e := by
  intro l
  induction l with
  | nil => intro q k e _ h; simp at h
  | cons x l ih =>
    intro q k e h hk
    match k with
    | 0 => simp at hk; subst hk; exact h.1
    | k + 1 => simp at hk; have := ih (q + 1) k e h.2 hk; rw [show q + (k + 1) = q + 1 + k by omega]; exact this
theorem t9C_len {c : Nat} {T : Type} {kb : T → List Int} {nb : T → Nat} {tb : T → Int → Int → List En9} (h : ∀ x i p, (tb x i p).length = nb x) (i p : Int) (s : CC c T) : (t9C kb nb tb i p s).length = nC nb s := by
  match s with
  | .inl (k, e, a, b, e2) => simp [t9C, nC, h]; omega
  | .inr (.inl (e, a, b)) => simp [t9C, nC, h]; omega
  | .inr (.inr (e, a)) => simp [t9C, nC, h]
theorem t91_len {c : Nat} {T : Type} {kb : T → List Int} {nb : T → Nat} {tb : T → Int → Int → List En9} (h : ∀ x i p, (tb x i p).length = nb x) (i p : Int) (s : SS c ⊕ CC c T) : (t91 kb nb tb i p s).length = n1 nb s := by
  match s with
  | .inl s => rfl
  | .inr s => exact t9C_len h i p s
theorem t9L_len {c : Nat} {T : Type} {kb : T → List Int} {nb : T → Nat} {tb : T → Int → Int → List En9} (h : ∀ x i p, (tb x i p).length = nb x) : ∀ (l : List (SS c ⊕ CC c T)) (i p : Int), (t9L kb nb tb l i p).length = (List.map (n1 nb) l).sum := by
  intro l
  induction l with
  | nil => intro i p; rfl
  | cons s l ih => intro i p; rw [t9L, List.length_append, t91_len h, ih]; simp
theorem t9B_len {c : Nat} : ∀ (b : Nat) (x : TB c b) (i p : Int), (t9B b x i p).length = nB b x := by
  intro b
  induction b with
  | zero => intro x; exact nomatch x
  | succ b ih => intro x i p; exact t9L_len ih x i p
section
variable {t : Mem} {a lo : Nat}
theorem E0 {q : Nat} {e : Ent} (h : EOk t a lo q e) : EOk t a 0 q e := EOk_lo h (Nat.zero_le _)
theorem TO9_2 {op i b i2 b2 i3 b3 p m q : Int} {la lb : List Ent} {ka kb : List En9} (hp : 0 ≤ p) (hm : m = p + la.length + 1) (hq : q = m + lb.length + 1) (hka : ka.length = la.length) (hkb : kb.length = lb.length) (ha : TOk t a lo (p.toNat + 1) la → TO9 t a (p.toNat + 1) ka) (hb : TOk t a lo (m.toNat + 1) lb → TO9 t a (m.toNat + 1) kb) (h : TOk t a lo p.toNat ((op, 1, i, b, p, m, q) :: (la ++ (op, 2, i2, b2, p, m, q) :: (lb ++ [(op, 3, i3, b3, p, m, q)])))) : TO9 t a p.toNat (((op, 1, i, b, p, m, q), b, b3) :: (ka ++ ((op, 2, i2, b2, p, m, q), b, b3) :: (kb ++ [((op, 3, i3, b3, p, m, q), b, b3)]))) := by
  rw [TOk, TOk_app, TOk, TOk_app, TOk, TOk] at h
  rw [TO9, TO9_app, TO9, TO9_app, TO9, TO9, hka, hkb]
  have eM : p.toNat + 1 + la.length = m.toNat := by omega
  have eQ : m.toNat + 1 + lb.length = q.toNat := by omega
  rw [eM, eQ] at h
  rw [eM, eQ]
  obtain ⟨h1, h2, h3, h4, h5, _⟩ := h
  have b1 : t (a + 5) p.toNat = b := h1.2.2.2.1
  have b2' : t (a + 5) q.toNat = b3 := h5.2.2.2.1
  exact ⟨⟨E0 h1, fun _ => ⟨b1, b2'⟩⟩, ha h2, ⟨E0 h3, fun _ => ⟨b1, b2'⟩⟩, hb h4, ⟨E0 h5, fun _ => ⟨b1, b2'⟩⟩, trivial⟩
theorem TO9_1 {op i b i3 b3 p q : Int} {la : List Ent} {ka : List En9} (hp : 0 ≤ p) (hq : q = p + la.length + 1) (hka : ka.length = la.length) (ha : TOk t a lo (p.toNat + 1) la → TO9 t a (p.toNat + 1) ka) (h : TOk t a lo p.toNat ((op, 1, i, b, p, q, q) :: (la ++ [(op, 3, i3, b3, p, q, q)]))) : TO9 t a p.toNat (((op, 1, i, b, p, q, q), b, b3) :: (ka ++ [((op, 3, i3, b3, p, q, q), b, b3)])) := by
  rw [TOk, TOk_app, TOk, TOk] at h
  rw [TO9, TO9_app, TO9, TO9, hka]
  have eQ : p.toNat + 1 + la.length = q.toNat := by omega
  rw [eQ] at h
  rw [eQ]
  obtain ⟨h1, h2, h5, _⟩ := h
  have b1 : t (a + 5) p.toNat = b := h1.2.2.2.1
  have b2' : t (a + 5) q.toNat = b3 := h5.2.2.2.1
  exact ⟨⟨E0 h1, fun _ => ⟨b1, b2'⟩⟩, ha h2, ⟨E0 h5, fun _ => ⟨b1, b2'⟩⟩, trivial⟩
theorem TO9_C {c : Nat} {T : Type} {kb : T → List Int} {nb : T → Nat} {tb : T → Int → Int → List Ent} {tb9 : T → Int → Int → List En9} (hl : ∀ x i p, (tb x i p).length = nb x) (hl9 : ∀ x i p, (tb9 x i p).length = nb x) (hb : ∀ x i p, 0 ≤ p → TOk t a lo p.toNat (tb x i p) → TO9 t a p.toNat (tb9 x i p)) (i p : Int) (hp : 0 ≤ p) (s : CC c T) (h : TOk t a lo p.toNat (tbC kb nb tb i p s)) : TO9 t a p.toNat (t9C kb nb tb9 i p s) := by
  match s, h with
  | .inl (k, e, x, y, e2), h =>
    refine TO9_2 hp (by rw [hl]) (by rw [hl]) (by rw [hl, hl9]) (by rw [hl, hl9]) (fun hh => ?_) (fun hh => ?_) h
    · have := hb x (i + (kX e).length + 2) (p + 1) (by omega)
      rw [show (p + 1).toNat = p.toNat + 1 by omega] at this
      exact this hh
    · have := hb y (i + (kX e).length + 2 + (kb x).length + 3) (p + nb x + 1 + 1) (by omega)
      rw [show (p + (nb x : Int) + 1 + 1).toNat = (p + (nb x : Int) + 1).toNat + 1 by omega] at this
      exact this hh
  | .inr (.inl (e, x, y)), h =>
    refine TO9_2 hp (by rw [hl]) (by rw [hl]) (by rw [hl, hl9]) (by rw [hl, hl9]) (fun hh => ?_) (fun hh => ?_) h
    · have := hb x (i + (kX e).length + 2) (p + 1) (by omega)
      rw [show (p + 1).toNat = p.toNat + 1 by omega] at this
      exact this hh
    · have := hb y (i + (kX e).length + 2 + (kb x).length + 3) (p + nb x + 1 + 1) (by omega)
      rw [show (p + (nb x : Int) + 1 + 1).toNat = (p + (nb x : Int) + 1).toNat + 1 by omega] at this
      exact this hh
  | .inr (.inr (e, x)), h =>
    refine TO9_1 hp (by rw [hl]) (by rw [hl, hl9]) (fun hh => ?_) h
    have := hb x (i + (kX e).length + 2) (p + 1) (by omega)
    rw [show (p + 1).toNat = p.toNat + 1 by omega] at this
    exact this hh
theorem TO9_L {c : Nat} {T : Type} {kb : T → List Int} {nb : T → Nat} {tb : T → Int → Int → List Ent} {tb9 : T → Int → Int → List En9} (hl : ∀ x i p, (tb x i p).length = nb x) (hl9 : ∀ x i p, (tb9 x i p).length = nb x) (hb : ∀ x i p, 0 ≤ p → TOk t a lo p.toNat (tb x i p) → TO9 t a p.toNat (tb9 x i p)) : ∀ (l : List (SS c ⊕ CC c T)) (i p : Int), 0 ≤ p → TOk t a lo p.toNat (tbL kb nb tb l i p) → TO9 t a p.toNat (t9L kb nb tb9 l i p) := by
  intro l
  induction l with
  | nil => intro i p _ _; trivial
  | cons s l ih =>
    intro i p hp h
    rw [tbL, TOk_app, tb1_len hl] at h
    rw [t9L, TO9_app, t91_len hl9]
    have e : p.toNat + n1 nb s = (p + (n1 nb s : Int)).toNat := by omega
    rw [e] at h ⊢
    refine ⟨?_, ih _ _ (by omega) h.2⟩
    match s, h with
    | .inl s, h => exact ⟨⟨E0 h.1.1, fun hh => absurd rfl hh⟩, trivial⟩
    | .inr s, h => exact TO9_C hl hl9 hb i p hp s h.1
theorem TO9_B {c : Nat} : ∀ (b : Nat) (x : TB c b) (i p : Int), 0 ≤ p → TOk t a lo p.toNat (tbB b x i p) → TO9 t a p.toNat (t9B b x i p) := by
  intro b
  induction b with
  | zero => intro x; exact nomatch x
  | succ b ih => intro x i p hp h; exact TO9_L (tbB_len b) (t9B_len b) ih x i p hp h
end
/-! what an entry means -/
def GE {c : Nat} (o : Bool) (T : Int → Int) (lo hi idx : Int) (e : En9) (_ : EE c → True) : Prop :=
  (e.1.2.1 = 0 ∧ ∃ (s : SS c) (j : Int), wS o s ∧ e.1.1 = opS1 s ∧ e.1.2.2.2.1 = e.1.2.2.1 + boS1 s ∧ 0 ≤ e.1.2.2.1 ∧ seg T e.1.2.2.1 j (kS s)) ∨
  ((e.1.2.1 = 1 ∨ e.1.2.1 = 2 ∨ e.1.2.1 = 3) ∧ (if o = true then e.1.1 = 215 ∨ e.1.1 = 216 else e.1.1 = 208 ∨ e.1.1 = 211) ∧ (∃ (x : EE c) (j : Int), wX x ∧ seg T e.2.1 j (kX x) ∧ T j = 123) ∧ T (e.2.1 - 1) = e.1.1 ∧ 1 ≤ e.2.1 ∧ (e.1.1 = 208 ∨ e.1.1 = 211 → 1 ≤ e.2.2 ∧ 200 ≤ T (e.2.2 - 1) ∧ ∃ (x : EE c) (j : Int), wX x ∧ seg T e.2.2 j (kX x) ∧ T j = 59) ∧ lo ≤ e.1.2.2.2.2.1 ∧ e.1.2.2.2.2.1 < e.1.2.2.2.2.2.1 ∧ e.1.2.2.2.2.2.1 ≤ e.1.2.2.2.2.2.2 ∧ e.1.2.2.2.2.2.2 < hi ∧ idx = (if e.1.2.1 = 1 then e.1.2.2.2.2.1 else if e.1.2.1 = 2 then e.1.2.2.2.2.2.1 else e.1.2.2.2.2.2.2))
def GL {c : Nat} (o : Bool) (T : Int → Int) (lo hi : Int) (u : EE c → True) : Int → List En9 → Prop
  | _, [] => True
  | q, e :: l => GE o T lo hi q e u ∧ GL o T lo hi u (q + 1) l
section
variable {c : Nat} {o : Bool} {T : Int → Int} {u : EE c → True}
theorem GE_w {lo hi lo' hi' q : Int} {e : En9} (h : GE o T lo hi q e u) (h1 : lo' ≤ lo) (h2 : hi ≤ hi') : GE o T lo' hi' q e u := by
  rcases h with h | ⟨a1, a2, a3, a4, a5, a6, a7, a8, a9, a10, a11⟩
  · exact Or.inl h
  · exact Or.inr ⟨a1, a2, a3, a4, a5, a6, by omega, a8, a9, by omega, a11⟩
theorem GL_w {lo hi lo' hi' : Int} (h1 : lo' ≤ lo) (h2 : hi ≤ hi') : ∀ (l : List En9) (q : Int), GL o T lo hi u q l → GL o T lo' hi' u q l := by
  intro l
  induction l with
  | nil => intro q _; trivial
  | cons e l ih => intro q h; exact ⟨GE_w h.1 h1 h2, ih _ h.2⟩
theorem GL_app {lo hi : Int} : ∀ (l m : List En9) (q : Int), GL o T lo hi u q (l ++ m) ↔ GL o T lo hi u q l ∧ GL o T lo hi u (q + l.length) m := by
  intro l
  induction l with
  | nil => intro m q; simp [GL]
  | cons e l ih =>
    intro m q
    rw [List.cons_append, GL, GL, ih, List.length_cons, and_assoc, show q + 1 + (l.length : Int) = q + ((l.length + 1 : Nat) : Int) by omega]
theorem GL_get {lo hi : Int} : ∀ (l : List En9) (q : Int) (k : Nat) (e : En9), GL o T lo hi u q l → l[k]? = some e → GE o T lo hi (q + k) e u := by
  intro l
  induction l with
  | nil => intro q k e _ h; simp at h
  | cons x l ih =>
    intro q k e h hk
    match k with
    | 0 => simp at hk; subst hk; simpa using h.1
    | k + 1 => simp at hk; have := ih (q + 1) k e h.2 hk; rw [show q + ((k + 1 : Nat) : Int) = q + 1 + k by omega]; exact this
theorem GL_C {Y : Type} {kb : Y → List Int} {nb : Y → Nat} {tb : Y → Int → Int → List En9} {wb : Y → Prop} (hl : ∀ x i p, (tb x i p).length = nb x) (hb : ∀ x, wb x → ∀ i j p, 0 ≤ i → seg T i j (kb x) → GL o T p (p + nb x) u p (tb x i p)) (s : CC c Y) (hw : wC o wb s) (i j p : Int) (hi : 0 ≤ i) (hs : seg T i j (kC kb s)) : GL o T p (p + nC nb s) u p (t9C kb nb tb i p s) := by
  match s, hw, hs with
  | .inl (k, e, x, y, e2), hw, hs =>
    obtain ⟨ho, hk, he, hx, hy, he2⟩ := hw
    obtain ⟨r1, hs⟩ := seg_hd hs
    obtain ⟨r2, hs⟩ := seg_split hs
    obtain ⟨r3, hs⟩ := seg_hd hs
    obtain ⟨r4, hs⟩ := seg_split hs
    obtain ⟨r5, hs⟩ := seg_hd hs
    obtain ⟨r6, hs⟩ := seg_hd hs
    obtain ⟨r7, hs⟩ := seg_hd hs
    obtain ⟨r8, hs⟩ := seg_split hs
    obtain ⟨r9, hs⟩ := seg_hd hs
    obtain ⟨r10, hs⟩ := seg_hd hs
    obtain ⟨r11, hs⟩ := seg_split hs
    obtain ⟨r12, hs⟩ := seg_hd hs
    have g1 := hb x hx (i + (kX e).length + 2) _ (p + 1) (by omega) (by rw [show i + ((kX e).length : Int) + 2 = i + 1 + (kX e).length + 1 by omega]; exact r4)
    have g2 := hb y hy (i + (kX e).length + 2 + (kb x).length + 3) _ (p + nb x + 1 + 1) (by omega) (by rw [show i + ((kX e).length : Int) + 2 + (kb x).length + 3 = i + 1 + (kX e).length + 1 + (kb x).length + 1 + 1 + 1 by omega]; exact r8)
    have good : ∀ (ro s1 b1 idx : Int), ro = 1 ∨ ro = 2 ∨ ro = 3 → idx = (if ro = 1 then p else if ro = 2 then p + nb x + 1 else p + nb x + 1 + nb y + 1) → GE o T p (p + nC nb (.inl (k, e, x, y, e2) : CC c Y)) idx ((k, ro, s1, b1, p, p + nb x + 1, p + nb x + 1 + nb y + 1), i + 1, i + (kX e).length + 2 + (kb x).length + 3 + (kb y).length + 1 + 1) u := by
      intro ro s1 b1 idx hro hidx
      right
      refine ⟨hro, ?_, ⟨e, _, he, r2, r3⟩, ?_, by show 1 ≤ i + 1; omega, fun _ => ⟨by show 1 ≤ i + ((kX e).length : Int) + 2 + (kb x).length + 3 + (kb y).length + 1 + 1; omega, ?_, e2, _, he2, ?_, r12⟩, Int.le_refl _, by show p < p + (nb x : Int) + 1; omega, by show p + (nb x : Int) + 1 ≤ p + nb x + 1 + nb y + 1; omega, ?_, hidx⟩
      · rw [ho]; simpa using hk
      · show T (i + 1 - 1) = k; rw [show i + 1 - 1 = i by omega]; exact r1
      · show 200 ≤ T (i + ((kX e).length : Int) + 2 + (kb x).length + 3 + (kb y).length + 1 + 1 - 1)
        rw [show i + ((kX e).length : Int) + 2 + (kb x).length + 3 + (kb y).length + 1 + 1 - 1 = i + 1 + (kX e).length + 1 + (kb x).length + 1 + 1 + 1 + (kb y).length + 1 by omega, r10]; split <;> omega
      · show seg T (i + ((kX e).length : Int) + 2 + (kb x).length + 3 + (kb y).length + 1 + 1) _ (kX e2)
        rw [show i + ((kX e).length : Int) + 2 + (kb x).length + 3 + (kb y).length + 1 + 1 = i + 1 + (kX e).length + 1 + (kb x).length + 1 + 1 + 1 + (kb y).length + 1 + 1 by omega]; exact r11
      · show p + (nb x : Int) + 1 + nb y + 1 < p + ((nb x + nb y + 3 : Nat) : Int); omega
    show GL o T p (p + nC nb (.inl (k, e, x, y, e2) : CC c Y)) u p (_ :: (_ ++ _ :: (_ ++ [_])))
    rw [GL, GL_app, GL, GL_app, GL, GL, hl, hl]
    have hnC : ((nC nb (.inl (k, e, x, y, e2) : CC c Y) : Nat) : Int) = nb x + nb y + 3 := by show ((nb x + nb y + 3 : Nat) : Int) = _; omega
    refine ⟨good 1 _ _ _ (by omega) (by simp), GL_w (by omega) (by rw [hnC]; omega) _ _ g1, good 2 _ _ _ (by omega) (by simp; omega), ?_, good 3 _ _ _ (by omega) (by simp; omega), trivial⟩
    rw [show p + 1 + (nb x : Int) + 1 = p + nb x + 1 + 1 by omega]
    exact GL_w (by omega) (by rw [hnC]; omega) _ _ g2
  | .inr (.inl (e, x, y)), hw, hs =>
    obtain ⟨ho, he, hx, hy⟩ := hw
    obtain ⟨r1, hs⟩ := seg_hd hs
    obtain ⟨r2, hs⟩ := seg_split hs
    obtain ⟨r3, hs⟩ := seg_hd hs
    obtain ⟨r4, hs⟩ := seg_split hs
    obtain ⟨r5, hs⟩ := seg_hd hs
    obtain ⟨r6, hs⟩ := seg_hd hs
    obtain ⟨r7, hs⟩ := seg_hd hs
    obtain ⟨r8, hs⟩ := seg_split hs
    have g1 := hb x hx (i + (kX e).length + 2) _ (p + 1) (by omega) (by rw [show i + ((kX e).length : Int) + 2 = i + 1 + (kX e).length + 1 by omega]; exact r4)
    have g2 := hb y hy (i + (kX e).length + 2 + (kb x).length + 3) _ (p + nb x + 1 + 1) (by omega) (by rw [show i + ((kX e).length : Int) + 2 + (kb x).length + 3 = i + 1 + (kX e).length + 1 + (kb x).length + 1 + 1 + 1 by omega]; exact r8)
    have good : ∀ (ro s1 b1 idx qb : Int), ro = 1 ∨ ro = 2 ∨ ro = 3 → idx = (if ro = 1 then p else if ro = 2 then p + nb x + 1 else p + nb x + 1 + nb y + 1) → GE o T p (p + nC nb (.inr (.inl (e, x, y)) : CC c Y)) idx ((216, ro, s1, b1, p, p + nb x + 1, p + nb x + 1 + nb y + 1), i + 1, qb) u := by
      intro ro s1 b1 idx qb hro hidx
      right
      refine ⟨hro, ?_, ⟨e, _, he, r2, r3⟩, ?_, by show 1 ≤ i + 1; omega, fun hh => absurd (show (216 : Int) = 208 ∨ (216 : Int) = 211 from hh) (by decide), Int.le_refl _, by show p < p + (nb x : Int) + 1; omega, by show p + (nb x : Int) + 1 ≤ p + nb x + 1 + nb y + 1; omega, ?_, hidx⟩
      · rw [ho]; simp
      · show T (i + 1 - 1) = 216; rw [show i + 1 - 1 = i by omega]; exact r1
      · show p + (nb x : Int) + 1 + nb y + 1 < p + ((nb x + nb y + 3 : Nat) : Int); omega
    show GL o T p (p + nC nb (.inr (.inl (e, x, y)) : CC c Y)) u p (_ :: (_ ++ _ :: (_ ++ [_])))
    rw [GL, GL_app, GL, GL_app, GL, GL, hl, hl]
    have hnC : ((nC nb (.inr (.inl (e, x, y)) : CC c Y) : Nat) : Int) = nb x + nb y + 3 := by show ((nb x + nb y + 3 : Nat) : Int) = _; omega
    refine ⟨good 1 _ _ _ _ (by omega) (by simp), GL_w (by omega) (by rw [hnC]; omega) _ _ g1, good 2 _ _ _ _ (by omega) (by simp; omega), ?_, good 3 _ _ _ _ (by omega) (by simp; omega), trivial⟩
    rw [show p + 1 + (nb x : Int) + 1 = p + nb x + 1 + 1 by omega]
    exact GL_w (by omega) (by rw [hnC]; omega) _ _ g2
  | .inr (.inr (e, x)), hw, hs =>
    obtain ⟨ho, he, hx⟩ := hw
    obtain ⟨r1, hs⟩ := seg_hd hs
    obtain ⟨r2, hs⟩ := seg_split hs
    obtain ⟨r3, hs⟩ := seg_hd hs
    obtain ⟨r4, hs⟩ := seg_split hs
    have g1 := hb x hx (i + (kX e).length + 2) _ (p + 1) (by omega) (by rw [show i + ((kX e).length : Int) + 2 = i + 1 + (kX e).length + 1 by omega]; exact r4)
    have good : ∀ (ro s1 b1 idx qb : Int), ro = 1 ∨ ro = 3 → idx = (if ro = 1 then p else p + nb x + 1) → GE o T p (p + nC nb (.inr (.inr (e, x)) : CC c Y)) idx ((215, ro, s1, b1, p, p + nb x + 1, p + nb x + 1), i + 1, qb) u := by
      intro ro s1 b1 idx qb hro hidx
      right
      refine ⟨by show ro = 1 ∨ ro = 2 ∨ ro = 3; omega, ?_, ⟨e, _, he, r2, r3⟩, ?_, by show 1 ≤ i + 1; omega, fun hh => absurd (show (215 : Int) = 208 ∨ (215 : Int) = 211 from hh) (by decide), Int.le_refl _, by show p < p + (nb x : Int) + 1; omega, Int.le_refl _, ?_, ?_⟩
      · rw [ho]; simp
      · show T (i + 1 - 1) = 215; rw [show i + 1 - 1 = i by omega]; exact r1
      · show p + (nb x : Int) + 1 < p + ((nb x + 2 : Nat) : Int); omega
      · show idx = if ro = 1 then p else if ro = 2 then p + nb x + 1 else p + nb x + 1
        rw [hidx]; split <;> simp
    show GL o T p (p + nC nb (.inr (.inr (e, x)) : CC c Y)) u p (_ :: (_ ++ [_]))
    rw [GL, GL_app, GL, GL, hl]
    have hnC : ((nC nb (.inr (.inr (e, x)) : CC c Y) : Nat) : Int) = nb x + 2 := by show ((nb x + 2 : Nat) : Int) = _; omega
    exact ⟨good 1 _ _ _ _ (by omega) (by simp), GL_w (by omega) (by rw [hnC]; omega) _ _ g1, good 3 _ _ _ _ (by omega) (by simp; omega), trivial⟩
theorem GL_L {Y : Type} {kb : Y → List Int} {nb : Y → Nat} {tb : Y → Int → Int → List En9} {wb : Y → Prop} (hl : ∀ x i p, (tb x i p).length = nb x) (hb : ∀ x, wb x → ∀ i j p, 0 ≤ i → seg T i j (kb x) → GL o T p (p + nb x) u p (tb x i p)) : ∀ (l : List (SS c ⊕ CC c Y)), allL (w1 o wb) l → ∀ (i j p : Int), 0 ≤ i → seg T i j (l.flatMap (k1 kb)) → GL o T p (p + ((List.map (n1 nb) l).sum : Nat)) u p (t9L kb nb tb l i p) := by
  intro l
  induction l with
  | nil => intro _ i j p _ _; trivial
  | cons s l ih =>
    intro hw i j p hi hs
    rw [List.flatMap_cons] at hs
    obtain ⟨s1, s2⟩ := seg_split hs
    have hws := hw s List.mem_cons_self
    have h2 := ih (fun x hx => hw x (List.mem_cons_of_mem _ hx)) (i + (k1 kb s).length) j (p + n1 nb s) (by omega) s2
    rw [t9L, GL_app, t91_len hl, List.map_cons, List.sum_cons]
    refine ⟨?_, GL_w (by omega) (by omega) _ _ h2⟩
    match s, hws, s1 with
    | .inl s, hws, s1 => exact ⟨Or.inl ⟨rfl, s, _, hws, rfl, rfl, hi, s1⟩, trivial⟩
    | .inr s, hws, s1 => exact GL_w (Int.le_refl _) (by show p + (nC nb s : Int) ≤ p + ((nC nb s + _ : Nat) : Int); omega) _ _ (GL_C hl hb s hws i _ p hi s1)
theorem GL_B : ∀ (b : Nat) (x : TB c b), wB o b x → ∀ i j p, 0 ≤ i → seg T i j (kB b x) → GL o T p (p + nB b x) u p (t9B b x i p) := by
  intro b
  induction b with
  | zero => intro x; exact nomatch x
  | succ b ih => intro x hx i j p hi hs; exact GL_L (t9B_len b) ih x hx i j p hi hs
end
