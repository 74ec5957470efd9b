/-! The reference's table -/
abbrev En9 : Type := Ent × Int × Int
def t9C {c : Nat} {T : Type} (kb : T → List Int) (nb : T → Nat) (tb : T → Int → Int → List En9) (i p : Int) : CC c T → List En9
  | .inl (k, e, a, b, _) =>
    let i1 := i + (kX e).length + 2
    let m := p + nb a + 1
    let i2 := i1 + (kb a).length + 3
    let q := m + nb b + 1
    let i3 := i2 + (kb b).length + 1
    ((k, 1, i, i + 1, p, m, q), i + 1, i3 + 1) :: (tb a i1 (p + 1) ++ ((k, 2, i2 - 2, i2 - 1, p, m, q), i + 1, i3 + 1) :: (tb b i2 (m + 1) ++ [((k, 3, i3, i3 + 1, p, m, q), i + 1, i3 + 1)]))
  | .inr (.inl (e, a, b)) =>
    let i1 := i + (kX e).length + 2
    let m := p + nb a + 1
    let i2 := i1 + (kb a).length + 3
    let q := m + nb b + 1
    let i3 := i2 + (kb b).length + 1
    ((216, 1, i, i + 1, p, m, q), i + 1, i3 + 1) :: (tb a i1 (p + 1) ++ ((216, 2, i2 - 2, i2 - 1, p, m, q), i + 1, i3 + 1) :: (tb b i2 (m + 1) ++ [((216, 3, i3, i3 + 1, p, m, q), i + 1, i3 + 1)]))
  | .inr (.inr (e, a)) =>
    let i1 := i + (kX e).length + 2
    let q := p + nb a + 1
    let i3 := i1 + (kb a).length + 1
    ((215, 1, i, i + 1, p, q, q), i + 1, i3 + 1) :: (tb a i1 (p + 1) ++ [((215, 3, i3, i3 + 1, p, q, q), i + 1, i3 + 1)])
def t91 {c : Nat} {T : Type} (kb : T → List Int) (nb : T → Nat) (tb : T → Int → Int → List En9) (i p : Int) : SS c ⊕ CC c T → List En9
  | .inl s => [((opS1 s, 0, i, i + boS1 s, p, 0, 0), 0, 0)]
  | .inr s => t9C kb nb tb i p s
def t9L {c : Nat} {T : Type} (kb : T → List Int) (nb : T → Nat) (tb : T → Int → Int → List En9) : List (SS c ⊕ CC c T) → Int → Int → List En9
  | [], _, _ => []
  | s :: l, i, p => t91 kb nb tb i p s ++ t9L kb nb tb l (i + (k1 kb s).length) (p + n1 nb s)
def t9B {c : Nat} : (b : Nat) → TB c b → Int → Int → List En9
  | 0, x, _, _ => nomatch x
  | b + 1, l, i, p => t9L (kB b) (nB b) (t9B b) l i p
def dzS (op : Int) : Int := if op < 200 then 20 + whc op else op - 200
def dzC (op ro : Int) : Int := if ro = 1 then op - 200 else if ro = 2 then (if op = 208 then 9 else if op = 211 then 13 else 31) else (if op = 208 then 10 else if op = 211 then 12 else if op = 216 then 32 else 30)
def RO (g : Mem) (r q : Nat) (e : En9) : Prop :=
  if e.1.2.1 = 0 then g 167 (40 * r + q) = dzS e.1.1 ∧ g 168 (40 * r + q) = (if e.1.1 < 200 then e.1.2.2.1 else e.1.2.2.1 + 1) ∧ g 169 (40 * r + q) = e.1.2.2.2.1
  else g 167 (40 * r + q) = dzC e.1.1 e.1.2.1 ∧ g 169 (40 * r + q) = e.2.1 ∧ (e.1.1 = 208 ∨ e.1.1 = 211 → g 170 (40 * r + q) = e.2.2) ∧ g 171 (40 * r + q) = e.1.2.2.2.2.1 ∧ g 172 (40 * r + q) = e.1.2.2.2.2.2.1 ∧ g 173 (40 * r + q) = e.1.2.2.2.2.2.2
def RLt (g : Mem) (r : Nat) : Nat → List En9 → Prop
  | _, [] => True
  | q, e :: l => RO g r q e ∧ RLt g r (q + 1) l
theorem RO_mono {g g' : Mem} {r q : Nat} {e : En9} (h : RO g r q e) (hf : ∀ c, 167 ≤ c → c ≤ 173 → g' c (40 * r + q) = g c (40 * r + q)) : RO g' r q e := by
  unfold RO at h ⊢
  rw [hf 167 (by omega) (by omega), hf 168 (by omega) (by omega), hf 169 (by omega) (by omega), hf 170 (by omega) (by omega), hf 171 (by omega) (by omega), hf 172 (by omega) (by omega), hf 173 (by omega) (by omega)]
  exact h
theorem RLt_mono {g g' : Mem} {r : Nat} : ∀ (l : List En9) (q : Nat), RLt g r q l → (∀ c k, 167 ≤ c → c ≤ 173 → q ≤ k → k < q + l.length → g' c (40 * r + k) = g c (40 * r + k)) → RLt g' r q l := by
  intro l
  induction l with
  | nil => intro q _ _; trivial
  | cons e l ih =>
    intro q h hf
    rw [List.length_cons] at hf
    exact ⟨RO_mono h.1 (fun c c1 c2 => hf c q c1 c2 (Nat.le_refl _) (by omega)), ih (q + 1) h.2 (fun c k c1 c2 k1 k2 => hf c k c1 c2 (by omega) (by omega))⟩
theorem RLt_app {g : Mem} {r : Nat} : ∀ (l m : List En9) (q : Nat), RLt g r q (l ++ m) ↔ RLt g r q l ∧ RLt g r (q + l.length) m := by
  intro l
  induction l with
  | nil => intro m q; simp [RLt]
  | cons e l ih =>
    intro m q
    rw [List.cons_append, RLt, RLt, ih, List.length_cons, show q + 1 + l.length = q + (l.length + 1) by omega, and_assoc]
theorem RLt_get {g : Mem} {r : Nat} : ∀ (l : List En9) (q k : Nat) (e : En9), RLt g r q l → l[k]? = some e → RO g r (q + k) e := by
  intro l
  induction l with
  | nil => intro q k e _ h; simp at h
  | cons x l ih =>
    intro q k e h hk
    match k with
    | 0 => simp at hk; subst hk; exact h.1
    | k + 1 => simp at hk; have := ih (q + 1) k e h.2 hk; rw [show q + (k + 1) = q + 1 + k by omega]; exact this
abbrev SetR (r : Nat) (g g' : Mem) (n : Nat) (l : List En9) : Prop := (∀ c k, c < 166 ∨ 173 < c → g' c k = g c k) ∧ (∀ k, ¬ k = r → g' 166 k = g 166 k) ∧ (g' 166 r = g 166 r + n) ∧ (∀ c k : Nat, 167 ≤ c → c ≤ 173 → ((k : Int) < 40 * r + g 166 r ∨ 40 * (r : Int) + 40 ≤ k) → g' c k = g c k) ∧ (RLt g' r (g 166 r).toNat l) ∧ (l.length = n)
theorem SetR.fr {r : Nat} {g g' : Mem} {n : Nat} {l : List En9} (hSelf : SetR r g g' n l) : ∀ c k, c < 166 ∨ 173 < c → g' c k = g c k := hSelf.1
theorem SetR.f6 {r : Nat} {g g' : Mem} {n : Nat} {l : List En9} (hSelf : SetR r g g' n l) : ∀ k, ¬ k = r → g' 166 k = g 166 k := hSelf.2.1
theorem SetR.n6 {r : Nat} {g g' : Mem} {n : Nat} {l : List En9} (hSelf : SetR r g g' n l) : g' 166 r = g 166 r + n := hSelf.2.2.1
theorem SetR.en {r : Nat} {g g' : Mem} {n : Nat} {l : List En9} (hSelf : SetR r g g' n l) : ∀ c k : Nat, 167 ≤ c → c ≤ 173 → ((k : Int) < 40 * r + g 166 r ∨ 40 * (r : Int) + 40 ≤ k) → g' c k = g c k := hSelf.2.2.2.1
theorem SetR.tb {r : Nat} {g g' : Mem} {n : Nat} {l : List En9} (hSelf : SetR r g g' n l) : RLt g' r (g 166 r).toNat l := hSelf.2.2.2.2.1
theorem SetR.len {r : Nat} {g g' : Mem} {n : Nat} {l : List En9} (hSelf : SetR r g g' n l) : l.length = n := hSelf.2.2.2.2.2
theorem SetR_nil {r : Nat} {g : Mem} : SetR r g g 0 [] := by
  refine ⟨?_, ?_, ?_, ?_, ?_, ?_⟩
  · exact fun _ _ _ => rfl
  · exact fun _ _ => rfl
  · simp
  · exact fun _ _ _ _ _ => rfl
  · exact trivial
  · exact rfl
theorem SetR_app {r : Nat} {g g1 g2 : Mem} {n m : Nat} {l k : List En9} (h0 : 0 ≤ g 166 r) (h : SetR r g g1 n l) (h' : SetR r g1 g2 m k) : SetR r g g2 (n + m) (l ++ k) := by
  refine ⟨?_, ?_, ?_, ?_, ?_, ?_⟩
  · exact fun b q hb => by rw [h'.fr b q hb, h.fr b q hb]
  · exact fun q hq => by rw [h'.f6 q hq, h.f6 q hq]
  · rw [h'.n6, h.n6]; omega
  · exact fun c q c1 c2 hq => by rw [h'.en c q c1 c2 (by rw [h.n6]; omega), h.en c q c1 c2 hq]
  · rw [RLt_app]
    have e : (g1 166 r).toNat = (g 166 r).toNat + l.length := by rw [h.n6, h.len]; omega
    refine ⟨RLt_mono l _ h.tb (fun c q c1 c2 q1 q2 => h'.en c _ c1 c2 (by rw [h.n6]; have := h.len; omega)), ?_⟩
    rw [← e]; exact h'.tb
  · rw [List.length_append, h.len, h'.len]
abbrev AdP (r : Nat) (g g' : Mem) (wt of e : Int) : Prop := (∀ c k, c < 166 ∨ 169 < c → g' c k = g c k) ∧ (∀ k, ¬ k = r → g' 166 k = g 166 k) ∧ (g' 166 r = g 166 r + 1) ∧ (∀ c k : Nat, 167 ≤ c → c ≤ 169 → ¬ (k : Int) = 40 * r + g 166 r → g' c k = g c k) ∧ (g' 167 (40 * r + (g 166 r).toNat) = wt) ∧ (g' 168 (40 * r + (g 166 r).toNat) = of) ∧ (g' 169 (40 * r + (g 166 r).toNat) = e)
theorem AdP.fr {r : Nat} {g g' : Mem} {wt of e : Int} (hSelf : AdP r g g' wt of e) : ∀ c k, c < 166 ∨ 169 < c → g' c k = g c k := hSelf.1
theorem AdP.f6 {r : Nat} {g g' : Mem} {wt of e : Int} (hSelf : AdP r g g' wt of e) : ∀ k, ¬ k = r → g' 166 k = g 166 k := hSelf.2.1
theorem AdP.n6 {r : Nat} {g g' : Mem} {wt of e : Int} (hSelf : AdP r g g' wt of e) : g' 166 r = g 166 r + 1 := hSelf.2.2.1
theorem AdP.en {r : Nat} {g g' : Mem} {wt of e : Int} (hSelf : AdP r g g' wt of e) : ∀ c k : Nat, 167 ≤ c → c ≤ 169 → ¬ (k : Int) = 40 * r + g 166 r → g' c k = g c k := hSelf.2.2.2.1
theorem AdP.v7 {r : Nat} {g g' : Mem} {wt of e : Int} (hSelf : AdP r g g' wt of e) : g' 167 (40 * r + (g 166 r).toNat) = wt := hSelf.2.2.2.2.1
theorem AdP.v8 {r : Nat} {g g' : Mem} {wt of e : Int} (hSelf : AdP r g g' wt of e) : g' 168 (40 * r + (g 166 r).toNat) = of := hSelf.2.2.2.2.2.1
theorem AdP.v9 {r : Nat} {g g' : Mem} {wt of e : Int} (hSelf : AdP r g g' wt of e) : g' 169 (40 * r + (g 166 r).toNat) = e := hSelf.2.2.2.2.2.2
abbrev JnP (r : Nat) (g g' : Mem) (i j k : Nat) (x y : Int) : Prop := (∀ c q, c < 169 ∨ 173 < c → g' c q = g c q) ∧ (∀ c q : Nat, 169 ≤ c → c ≤ 173 → ¬ q = 40 * r + i → ¬ q = 40 * r + j → ¬ q = 40 * r + k → g' c q = g c q) ∧ (∀ z : Nat, z = i ∨ z = j ∨ z = k → g' 169 (40 * r + z) = x ∧ g' 170 (40 * r + z) = y ∧ g' 171 (40 * r + z) = i ∧ g' 172 (40 * r + z) = j ∧ g' 173 (40 * r + z) = k)
theorem JnP.fr {r : Nat} {g g' : Mem} {i j k : Nat} {x y : Int} (hSelf : JnP r g g' i j k x y) : ∀ c q, c < 169 ∨ 173 < c → g' c q = g c q := hSelf.1
theorem JnP.en {r : Nat} {g g' : Mem} {i j k : Nat} {x y : Int} (hSelf : JnP r g g' i j k x y) : ∀ c q : Nat, 169 ≤ c → c ≤ 173 → ¬ q = 40 * r + i → ¬ q = 40 * r + j → ¬ q = 40 * r + k → g' c q = g c q := hSelf.2.1
theorem JnP.v {r : Nat} {g g' : Mem} {i j k : Nat} {x y : Int} (hSelf : JnP r g g' i j k x y) : ∀ z : Nat, z = i ∨ z = j ∨ z = k → g' 169 (40 * r + z) = x ∧ g' 170 (40 * r + z) = y ∧ g' 171 (40 * r + z) = i ∧ g' 172 (40 * r + z) = j ∧ g' 173 (40 * r + z) = k := hSelf.2.2
theorem SetR_0 {r : Nat} {g g' : Mem} {wt of e op s b x : Int} (h0 : 0 ≤ g 166 r) (h1 : g 166 r < 40) (h : AdP r g g' wt of e) (hw : wt = dzS op) (ho : of = if op < 200 then s else s + 1) (he : e = b) : SetR r g g' 1 [((op, 0, s, b, x, 0, 0), 0, 0)] := by
  refine ⟨?_, ?_, ?_, ?_, ?_, ?_⟩
  · exact fun c k hc => h.fr c k (by omega)
  · exact h.f6
  · exact h.n6
  · exact fun c k c1 c2 hk => by
      by_cases hc : c ≤ 169
      · exact h.en c k c1 hc (by omega)
      · exact h.fr c k (by omega)
  · refine ⟨?_, trivial⟩
    unfold RO
    rw [if_pos rfl]
    exact ⟨by rw [h.v7, hw], by rw [h.v8, ho], by rw [h.v9, he]⟩
  · exact rfl
theorem SetR_2 {r na nb : Nat} {g g1 g2 g3 g4 g5 g6 : Mem} {la lb : List En9} {w1 w2 w3 o1 o2 o3 e1 e2 e3 x y op i b i2 b2 i3 b3 p m q hb qb : Int} (h0 : 0 ≤ g 166 r) (hp : p = g 166 r) (hm : m = p + na + 1) (hq : q = m + nb + 1) (hq40 : q < 40) (a1 : AdP r g g1 w1 o1 e1) (s2 : SetR r g1 g2 na la) (a3 : AdP r g2 g3 w2 o2 e2) (s4 : SetR r g3 g4 nb lb) (a5 : AdP r g4 g5 w3 o3 e3) (j6 : JnP r g5 g6 p.toNat m.toNat q.toNat x y) (hw1 : w1 = dzC op 1) (hw2 : w2 = dzC op 2) (hw3 : w3 = dzC op 3) (hx : x = hb) (hy : op = 208 ∨ op = 211 → y = qb) : SetR r g g6 (na + nb + 3) (((op, 1, i, b, p, m, q), hb, qb) :: (la ++ ((op, 2, i2, b2, p, m, q), hb, qb) :: (lb ++ [((op, 3, i3, b3, p, m, q), hb, qb)]))) := by
  have n1 := a1.n6
  have n2 := s2.n6
  have n3 := a3.n6
  have n4 := s4.n6
  have n5 := a5.n6
  have n6 : g6 166 r = g5 166 r := j6.fr 166 r (by omega)
  have v1 : ∀ c k : Nat, 167 ≤ c → c ≤ 173 → ¬ (k : Int) = 40 * r + p → g1 c k = g c k := fun c k c1 c2 hk => by
    by_cases hc : c ≤ 169
    · exact a1.en c k c1 hc (by omega)
    · exact a1.fr c k (by omega)
  have v3 : ∀ c k : Nat, 167 ≤ c → c ≤ 173 → ¬ (k : Int) = 40 * r + m → g3 c k = g2 c k := fun c k c1 c2 hk => by
    by_cases hc : c ≤ 169
    · exact a3.en c k c1 hc (by omega)
    · exact a3.fr c k (by omega)
  have v5 : ∀ c k : Nat, 167 ≤ c → c ≤ 173 → ¬ (k : Int) = 40 * r + q → g5 c k = g4 c k := fun c k c1 c2 hk => by
    by_cases hc : c ≤ 169
    · exact a5.en c k c1 hc (by omega)
    · exact a5.fr c k (by omega)
  have v6 : ∀ c k : Nat, 167 ≤ c → c ≤ 173 → ¬ (k : Int) = 40 * r + p → ¬ (k : Int) = 40 * r + m → ¬ (k : Int) = 40 * r + q → g6 c k = g5 c k := fun c k c1 c2 h1 h2 h3 => by
    by_cases hc : c < 169
    · exact j6.fr c k (by omega)
    · exact j6.en c k (by omega) c2 (by omega) (by omega) (by omega)
  have x7p : g6 167 (40 * r + p.toNat) = w1 := by
    rw [j6.fr 167 _ (by omega), v5 167 _ (by omega) (by omega) (by omega), s4.en 167 _ (by omega) (by omega) (by omega), v3 167 _ (by omega) (by omega) (by omega), s2.en 167 _ (by omega) (by omega) (by omega), hp]; exact a1.v7
  have x7m : g6 167 (40 * r + m.toNat) = w2 := by
    rw [j6.fr 167 _ (by omega), v5 167 _ (by omega) (by omega) (by omega), s4.en 167 _ (by omega) (by omega) (by omega), show m.toNat = (g2 166 r).toNat by omega]; exact a3.v7
  have x7q : g6 167 (40 * r + q.toNat) = w3 := by
    rw [j6.fr 167 _ (by omega), show q.toNat = (g4 166 r).toNat by omega]; exact a5.v7
  have pN : (p.toNat : Int) = p := by omega
  have mN : (m.toNat : Int) = m := by omega
  have qN : (q.toNat : Int) = q := by omega
  have jp := j6.v p.toNat (by omega)
  have jm := j6.v m.toNat (by omega)
  have jq := j6.v q.toNat (by omega)
  rw [pN, mN, qN, hx] at jp jm jq
  refine ⟨?_, ?_, ?_, ?_, ?_, ?_⟩
  · intro c k hc
    rw [j6.fr c k (by omega), a5.fr c k (by omega), s4.fr c k (by omega), a3.fr c k (by omega), s2.fr c k (by omega), a1.fr c k (by omega)]
  · intro k hk
    rw [j6.fr 166 k (by omega), a5.f6 k hk, s4.f6 k hk, a3.f6 k hk, s2.f6 k hk, a1.f6 k hk]
  · omega
  · intro c k c1 c2 hk
    rw [v6 c k c1 c2 (by omega) (by omega) (by omega), v5 c k c1 c2 (by omega), s4.en c k c1 c2 (by omega), v3 c k c1 c2 (by omega), s2.en c k c1 c2 (by omega), v1 c k c1 c2 (by omega)]
  · have lN := s2.len
    have lN' := s4.len
    rw [← hp, RLt, RLt_app, RLt, RLt_app, RLt, RLt]
    have eM : p.toNat + 1 + la.length = m.toNat := by omega
    have eQ : m.toNat + 1 + lb.length = q.toNat := by omega
    rw [eM, eQ]
    refine ⟨?_, ?_, ?_, ?_, ?_, trivial⟩
    · unfold RO; rw [if_neg (by simp)]
      exact ⟨by rw [x7p, hw1], jp.1, fun hh => by rw [jp.2.1, hy hh], jp.2.2⟩
    · have e9 : (g1 166 r).toNat = p.toNat + 1 := by omega
      have := s2.tb
      rw [e9] at this
      refine RLt_mono la _ this (fun c k c1 c2 k1 k2 => ?_)
      rw [v6 c _ c1 c2 (by omega) (by omega) (by omega), v5 c _ c1 c2 (by omega), s4.en c _ c1 c2 (by omega), v3 c _ c1 c2 (by omega)]
    · unfold RO; rw [if_neg (by simp)]
      exact ⟨by rw [x7m, hw2], jm.1, fun hh => by rw [jm.2.1, hy hh], jm.2.2⟩
    · have e9 : (g3 166 r).toNat = m.toNat + 1 := by omega
      have := s4.tb
      rw [e9] at this
      refine RLt_mono lb _ this (fun c k c1 c2 k1 k2 => ?_)
      rw [v6 c _ c1 c2 (by omega) (by omega) (by omega), v5 c _ c1 c2 (by omega)]
    · unfold RO; rw [if_neg (by simp)]
      exact ⟨by rw [x7q, hw3], jq.1, fun hh => by rw [jq.2.1, hy hh], jq.2.2⟩
  · simp only [List.length_cons, List.length_append, List.length_nil, s2.len, s4.len]; try omega
theorem SetR_1 {r na : Nat} {g g1 g2 g5 g6 : Mem} {la : List En9} {w1 w3 o1 o3 e1 e3 x y i b i3 b3 p q hb qb : Int} (h0 : 0 ≤ g 166 r) (hp : p = g 166 r) (hq : q = p + na + 1) (hq40 : q < 40) (a1 : AdP r g g1 w1 o1 e1) (s2 : SetR r g1 g2 na la) (a5 : AdP r g2 g5 w3 o3 e3) (j6 : JnP r g5 g6 p.toNat q.toNat q.toNat x y) (hw1 : w1 = 15) (hw3 : w3 = 30) (hx : x = hb) : SetR r g g6 (na + 2) (((215, 1, i, b, p, q, q), hb, qb) :: (la ++ [((215, 3, i3, b3, p, q, q), hb, qb)])) := by
  have n1 := a1.n6
  have n2 := s2.n6
  have n5 := a5.n6
  have n6 : g6 166 r = g5 166 r := j6.fr 166 r (by omega)
  have v1 : ∀ c k : Nat, 167 ≤ c → c ≤ 173 → ¬ (k : Int) = 40 * r + p → g1 c k = g c k := fun c k c1 c2 hk => by
    by_cases hc : c ≤ 169
    · exact a1.en c k c1 hc (by omega)
    · exact a1.fr c k (by omega)
  have v5 : ∀ c k : Nat, 167 ≤ c → c ≤ 173 → ¬ (k : Int) = 40 * r + q → g5 c k = g2 c k := fun c k c1 c2 hk => by
    by_cases hc : c ≤ 169
    · exact a5.en c k c1 hc (by omega)
    · exact a5.fr c k (by omega)
  have v6 : ∀ c k : Nat, 167 ≤ c → c ≤ 173 → ¬ (k : Int) = 40 * r + p → ¬ (k : Int) = 40 * r + q → g6 c k = g5 c k := fun c k c1 c2 h1 h3 => by
    by_cases hc : c < 169
    · exact j6.fr c k (by omega)
    · exact j6.en c k (by omega) c2 (by omega) (by omega) (by omega)
  have x7p : g6 167 (40 * r + p.toNat) = w1 := by
    rw [j6.fr 167 _ (by omega), v5 167 _ (by omega) (by omega) (by omega), s2.en 167 _ (by omega) (by omega) (by omega), hp]; exact a1.v7
  have x7q : g6 167 (40 * r + q.toNat) = w3 := by
    rw [j6.fr 167 _ (by omega), show q.toNat = (g2 166 r).toNat by omega]; exact a5.v7
  have pN : (p.toNat : Int) = p := by omega
  have qN : (q.toNat : Int) = q := by omega
  have jp := j6.v p.toNat (by omega)
  have jq := j6.v q.toNat (by omega)
  rw [pN, qN, hx] at jp jq
  refine ⟨?_, ?_, ?_, ?_, ?_, ?_⟩
  · intro c k hc
    rw [j6.fr c k (by omega), a5.fr c k (by omega), s2.fr c k (by omega), a1.fr c k (by omega)]
  · intro k hk
    rw [j6.fr 166 k (by omega), a5.f6 k hk, s2.f6 k hk, a1.f6 k hk]
  · omega
  · intro c k c1 c2 hk
    rw [v6 c k c1 c2 (by omega) (by omega), v5 c k c1 c2 (by omega), s2.en c k c1 c2 (by omega), v1 c k c1 c2 (by omega)]
  · have lN := s2.len
    rw [← hp, RLt, RLt_app, RLt, RLt]
    have eQ : p.toNat + 1 + la.length = q.toNat := by omega
    rw [eQ]
    refine ⟨?_, ?_, ?_, trivial⟩
    · unfold RO; rw [if_neg (by simp)]
      exact ⟨by rw [x7p, hw1]; rfl, jp.1, fun hh => by simp at hh, jp.2.2⟩
    · have e9 : (g1 166 r).toNat = p.toNat + 1 := by omega
      have := s2.tb
      rw [e9] at this
      refine RLt_mono la _ this (fun c k c1 c2 k1 k2 => ?_)
      rw [v6 c _ c1 c2 (by omega) (by omega), v5 c _ c1 c2 (by omega)]
    · unfold RO; rw [if_neg (by simp)]
      exact ⟨by rw [x7q, hw3]; rfl, jq.1, fun hh => by simp at hh, jq.2.2⟩
  · simp only [List.length_cons, List.length_append, List.length_nil, s2.len]; try omega
