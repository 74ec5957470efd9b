/-! The table of a text as settle lays it -/
theorem tbC_len {c : Nat} {T : Type} {kb : T → List Int} {nb : T → Nat} {tb : T → Int → Int → List Ent} (h : ∀ x i p, (tb x i p).length = nb x) (i p : Int) (s : CC c T) : (tbC kb nb tb i p s).length = nC nb s := by
  match s with
  | .inl (k, e, a, b, e2) => simp [tbC, nC, h]; omega
  | .inr (.inl (e, a, b)) => simp [tbC, nC, h]; omega
  | .inr (.inr (e, a)) => simp [tbC, nC, h]
theorem tb1_len {c : Nat} {T : Type} {kb : T → List Int} {nb : T → Nat} {tb : T → Int → Int → List Ent} (h : ∀ x i p, (tb x i p).length = nb x) (i p : Int) (s : SS c ⊕ CC c T) : (tb1 kb nb tb i p s).length = n1 nb s := by
  match s with
  | .inl s => rfl
  | .inr s => exact tbC_len h i p s
theorem tbL_len {c : Nat} {T : Type} {kb : T → List Int} {nb : T → Nat} {tb : T → Int → Int → List Ent} (h : ∀ x i p, (tb x i p).length = nb x) : ∀ (l : List (SS c ⊕ CC c T)) (i p : Int), (tbL kb nb tb l i p).length = (List.map (n1 nb) l).sum := by
  intro l
  induction l with
  | nil => intro i p; rfl
  | cons s l ih => intro i p; rw [tbL, List.length_append, tb1_len h, ih]; simp
theorem tbB_len {c : Nat} : ∀ (b : Nat) (x : TB c b) (i p : Int), (tbB b x i p).length = nB b x := by
  intro b
  induction b with
  | zero => intro x; exact nomatch x
  | succ b ih => intro x i p; exact tbL_len ih x i p
/-- entry q of the table is so; heads lie between lo and q -/
def EOk (t : Mem) (a lo q : Nat) (e : Ent) : Prop := t (a + 2) q = e.1 ∧ t (a + 3) q = e.2.1 ∧ t (a + 4) q = e.2.2.1 ∧ t (a + 5) q = e.2.2.2.1 ∧ (¬ e.2.1 = 0 → 0 ≤ e.2.2.2.2.1 ∧ lo ≤ e.2.2.2.2.1.toNat ∧ e.2.2.2.2.1.toNat ≤ q ∧ t (a + 6) q = e.2.2.2.2.1 ∧ (¬ e.1 = 215 → t (a + 7) e.2.2.2.2.1.toNat = e.2.2.2.2.2.1) ∧ t (a + 8) e.2.2.2.2.1.toNat = e.2.2.2.2.2.2)
theorem EOk_mono {t t' : Mem} {a lo q : Nat} {e : Ent} (h : EOk t a lo q e) (hq : lo ≤ q) (hf : ∀ c k, 2 ≤ c → c ≤ 8 → lo ≤ k → k ≤ q → t' (a + c) k = t (a + c) k) : EOk t' a lo q e := by
  obtain ⟨h1, h2, h3, h4, h5⟩ := h
  refine ⟨?_, ?_, ?_, ?_, fun hz => ?_⟩
  · rw [hf 2 q (by omega) (by omega) hq (Nat.le_refl _)]; exact h1
  · rw [hf 3 q (by omega) (by omega) hq (Nat.le_refl _)]; exact h2
  · rw [hf 4 q (by omega) (by omega) hq (Nat.le_refl _)]; exact h3
  · rw [hf 5 q (by omega) (by omega) hq (Nat.le_refl _)]; exact h4
  · obtain ⟨g1, g2, g3, g4, g5, g6⟩ := h5 hz
    refine ⟨g1, g2, g3, ?_, fun hn => ?_, ?_⟩
    · rw [hf 6 q (by omega) (by omega) hq (Nat.le_refl _)]; exact g4
    · rw [hf 7 _ (by omega) (by omega) g2 g3]; exact g5 hn
    · rw [hf 8 _ (by omega) (by omega) g2 g3]; exact g6
theorem EOk_lo {t : Mem} {a lo lo' q : Nat} {e : Ent} (h : EOk t a lo q e) (hl : lo' ≤ lo) : EOk t a lo' q e := by
  obtain ⟨h1, h2, h3, h4, h5⟩ := h
  refine ⟨h1, h2, h3, h4, fun hz => ?_⟩
  obtain ⟨g1, g2, g3⟩ := h5 hz
  exact ⟨g1, Nat.le_trans hl g2, g3⟩
def TOk (t : Mem) (a lo : Nat) : Nat → List Ent → Prop
  | _, [] => True
  | q, e :: l => EOk t a lo q e ∧ TOk t a lo (q + 1) l
theorem TOk_mono {t t' : Mem} {a lo : Nat} : ∀ (l : List Ent) (q : Nat), TOk t a lo q l → lo ≤ q → (∀ c k, 2 ≤ c → c ≤ 8 → lo ≤ k → k < q + l.length → t' (a + c) k = t (a + c) k) → TOk t' a lo q l := by
  intro l
  induction l with
  | nil => intro q _ _ _; trivial
  | cons e l ih =>
    intro q h hq hf
    rw [List.length_cons] at hf
    exact ⟨EOk_mono h.1 hq (fun c k c1 c2 k1 k2 => hf c k c1 c2 k1 (by omega)), ih (q + 1) h.2 (by omega) (fun c k c1 c2 k1 k2 => hf c k c1 c2 k1 (by omega))⟩
theorem TOk_lo {t : Mem} {a lo lo' : Nat} (hl : lo' ≤ lo) : ∀ (l : List Ent) (q : Nat), TOk t a lo q l → TOk t a lo' q l := by
  intro l
  induction l with
  | nil => intro q _; trivial
  | cons e l ih => intro q h; exact ⟨EOk_lo h.1 hl, ih (q + 1) h.2⟩
theorem TOk_app {t : Mem} {a lo : Nat} : ∀ (l m : List Ent) (q : Nat), TOk t a lo q (l ++ m) ↔ TOk t a lo q l ∧ TOk t a lo (q + l.length) m := by
  intro l
  induction l with
  | nil => intro m q; simp [TOk]
  | cons e l ih =>
    intro m q
    rw [List.cons_append, TOk, TOk, ih, List.length_cons, show q + 1 + l.length = q + (l.length + 1) by omega, and_assoc]
theorem TOk_get {t : Mem} {a lo : Nat} : ∀ (l : List Ent) (q k : Nat) (e : Ent), TOk t a lo q l → l[k]? = some e → EOk t a lo (q + k) e := by
  intro l
  induction l with
  | nil => intro q k e _ h; simp at h
  | cons x l ih =>
    intro q k e h hk
    match k with
    | 0 => simp at hk; subst hk; exact h.1
    | k + 1 => simp at hk; have := ih (q + 1) k e h.2 hk; rw [show q + (k + 1) = q + 1 + k by omega]; exact this
/-- what a stretch of settle's loop does: n entries more -/
abbrev SetP (a : Nat) (t t' : Mem) (n : Nat) (l : List Ent) (dp st : Int) : Prop := (∀ b k, b < a ∨ a + 9 < b ∨ b = a + 1 → t' b k = t b k) ∧ (∀ k, ¬ k = 9 → ¬ k = 12 → ¬ k = 13 → t' a k = t a k) ∧ (t' a 9 = t a 9 + n) ∧ (t' a 12 = if t a 11 = 0 then t a 12 + st else t a 12) ∧ (t' a 13 = mx (t a 13) (t a 11 + dp)) ∧ (∀ k : Nat, (k : Int) < t a 11 → t' (a + 9) k = t (a + 9) k) ∧ (∀ c k : Nat, 2 ≤ c → c ≤ 8 → (k : Int) < t a 9 → t' (a + c) k = t (a + c) k) ∧ (TOk t' a (t a 9).toNat (t a 9).toNat l) ∧ (l.length = n)
theorem SetP.fr {a : Nat} {t t' : Mem} {n : Nat} {l : List Ent} {dp st : Int} (hSelf : SetP a t t' n l dp st) : ∀ b k, b < a ∨ a + 9 < b ∨ b = a + 1 → t' b k = t b k := hSelf.1
theorem SetP.fa {a : Nat} {t t' : Mem} {n : Nat} {l : List Ent} {dp st : Int} (hSelf : SetP a t t' n l dp st) : ∀ k, ¬ k = 9 → ¬ k = 12 → ¬ k = 13 → t' a k = t a k := hSelf.2.1
theorem SetP.f9 {a : Nat} {t t' : Mem} {n : Nat} {l : List Ent} {dp st : Int} (hSelf : SetP a t t' n l dp st) : t' a 9 = t a 9 + n := hSelf.2.2.1
theorem SetP.f12 {a : Nat} {t t' : Mem} {n : Nat} {l : List Ent} {dp st : Int} (hSelf : SetP a t t' n l dp st) : t' a 12 = if t a 11 = 0 then t a 12 + st else t a 12 := hSelf.2.2.2.1
theorem SetP.f13 {a : Nat} {t t' : Mem} {n : Nat} {l : List Ent} {dp st : Int} (hSelf : SetP a t t' n l dp st) : t' a 13 = mx (t a 13) (t a 11 + dp) := hSelf.2.2.2.2.1
theorem SetP.op {a : Nat} {t t' : Mem} {n : Nat} {l : List Ent} {dp st : Int} (hSelf : SetP a t t' n l dp st) : ∀ k : Nat, (k : Int) < t a 11 → t' (a + 9) k = t (a + 9) k := hSelf.2.2.2.2.2.1
theorem SetP.en {a : Nat} {t t' : Mem} {n : Nat} {l : List Ent} {dp st : Int} (hSelf : SetP a t t' n l dp st) : ∀ c k : Nat, 2 ≤ c → c ≤ 8 → (k : Int) < t a 9 → t' (a + c) k = t (a + c) k := hSelf.2.2.2.2.2.2.1
theorem SetP.tb {a : Nat} {t t' : Mem} {n : Nat} {l : List Ent} {dp st : Int} (hSelf : SetP a t t' n l dp st) : TOk t' a (t a 9).toNat (t a 9).toNat l := hSelf.2.2.2.2.2.2.2.1
theorem SetP.len {a : Nat} {t t' : Mem} {n : Nat} {l : List Ent} {dp st : Int} (hSelf : SetP a t t' n l dp st) : l.length = n := hSelf.2.2.2.2.2.2.2.2
theorem mx_mx {x y d e : Int} : mx (mx x (y + d)) (y + e) = mx x (y + mx d e) := by
  unfold mx; (repeat' split) <;> omega
theorem SetP_nil {a : Nat} {t : Mem} (h : t a 11 ≤ t a 13) : SetP a t t 0 [] 0 0 := by
  refine ⟨?_, ?_, ?_, ?_, ?_, ?_, ?_, ?_, ?_⟩
  · exact fun _ _ _ => rfl
  · exact fun _ _ _ _ => rfl
  · simp
  · split <;> simp
  · unfold mx; rw [if_neg (by omega)]
  · exact fun _ _ => rfl
  · exact fun _ _ _ _ _ => rfl
  · exact trivial
  · exact rfl
theorem SetP_app {a : Nat} {t t1 t2 : Mem} {n m : Nat} {l k : List Ent} {d1 d2 s1 s2 : Int} (h0 : 0 ≤ t a 9) (h : SetP a t t1 n l d1 s1) (h' : SetP a t1 t2 m k d2 s2) : SetP a t t2 (n + m) (l ++ k) (mx d1 d2) (s1 + s2) := by
  refine ⟨?_, ?_, ?_, ?_, ?_, ?_, ?_, ?_, ?_⟩
  · exact fun b q hb => by rw [h'.fr b q hb, h.fr b q hb]
  · exact fun q q1 q2 q3 => by rw [h'.fa q q1 q2 q3, h.fa q q1 q2 q3]
  · rw [h'.f9, h.f9]; omega
  · rw [h'.f12, h.f12, h.fa 11 (by omega) (by omega) (by omega)]; split <;> omega
  · rw [h'.f13, h.f13, h.fa 11 (by omega) (by omega) (by omega)]; exact mx_mx
  · exact fun q hq => by rw [h'.op q (by rw [h.fa 11 (by omega) (by omega) (by omega)]; exact hq), h.op q hq]
  · exact fun c q c1 c2 hq => by rw [h'.en c q c1 c2 (by rw [h.f9]; omega), h.en c q c1 c2 hq]
  · rw [TOk_app]
    have e : (t1 a 9).toNat = (t a 9).toNat + l.length := by rw [h.f9, h.len]; omega
    refine ⟨TOk_mono l _ h.tb (Nat.le_refl _) (fun c q c1 c2 q1 q2 => h'.en c q c1 c2 (by rw [h.f9]; have := h.len; omega)), ?_⟩
    rw [← e]
    exact TOk_lo (by omega) k _ h'.tb
  · rw [List.length_append, h.len, h'.len]
