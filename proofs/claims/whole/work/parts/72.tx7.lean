/-! What a step adds to the table -/
section
variable {a : Nat} {t t2 t4 : Mem} {op i b i2 b2 i3 b3 x : Int} {na nb : Nat} {la lb : List Ent} {da db sa sb : Int}
theorem ou1_12 : ou1 t a a 12 = if t a 11 = 0 then t a 12 + 1 else t a 12 := by
  unfold ou1; split
  · simp only [rd]; simp
  · rfl
theorem SetP_0 (h13 : t a 11 ≤ t a 13) (h0 : 0 ≤ t a 9) : SetP a t (en0 (ou1 t a) a op i b) 1 [(op, 0, i, b, x, 0, 0)] 0 1 := by
  refine ⟨?_, ?_, ?_, ?_, ?_, ?_, ?_, ?_, ?_⟩
  · exact fun b k hb => by
      simp only [en0, en4, rd]
      rw [if_neg (by omega), if_neg (by omega), if_neg (by omega), if_neg (by omega), if_neg (by omega), if_neg (by omega)]
      exact ou1_o (by omega)
  · exact fun k k1 k2 k3 => by
      simp only [en0, en4, rd]
      rw [if_neg (by omega), if_neg (by omega), if_neg (by omega), if_neg (by omega), if_neg (by omega), if_neg (by omega)]
      exact ou1_o (by omega)
  · simp only [en0, en4, rd]
    rw [if_neg (by omega), if_neg (by omega), if_neg (by omega), if_neg (by omega), if_neg (by omega), if_pos (by simp), ou1_o (by omega)]
    rfl
  · simp only [en0, en4, rd]
    rw [if_neg (by omega), if_neg (by omega), if_neg (by omega), if_neg (by omega), if_neg (by omega), if_neg (by omega)]
    exact ou1_12
  · simp only [en0, en4, rd]
    rw [if_neg (by omega), if_neg (by omega), if_neg (by omega), if_neg (by omega), if_neg (by omega), if_neg (by omega), ou1_o (by omega)]
    unfold mx; rw [if_neg (by omega)]
  · exact fun k hk => by
      simp only [en0, en4, rd]
      rw [if_neg (by omega), if_neg (by omega), if_neg (by omega), if_neg (by omega), if_neg (by omega), if_neg (by omega)]
      exact ou1_o (by omega)
  · exact fun c k c1 c2 hk => by
      have e : ou1 t a a 9 = t a 9 := ou1_o (by omega)
      simp only [en0, en4, rd, e]
      rw [if_neg (by omega), if_neg (by omega), if_neg (by omega), if_neg (by omega), if_neg (by omega), if_neg (by omega)]
      exact ou1_o (by omega)
  · have e : ou1 t a a 9 = t a 9 := ou1_o (by omega)
    refine ⟨⟨?_, ?_, ?_, ?_, fun h => absurd rfl h⟩, trivial⟩
    · simp only [en0, en4, rd, e]
      rw [if_neg (by omega), if_neg (by omega), if_neg (by omega), if_neg (by omega), if_pos (by simp)]
    · simp only [en0, en4, rd, e]
      rw [if_neg (by omega), if_neg (by omega), if_neg (by omega), if_pos (by simp)]
    · simp only [en0, en4, rd, e]
      rw [if_neg (by omega), if_neg (by omega), if_pos (by simp)]
    · simp only [en0, en4, rd, e]
      rw [if_neg (by omega), if_pos (by simp)]
  · exact rfl
/-- heads -/
abbrev H1 (a : Nat) (t t1 : Mem) (op i b : Int) : Prop := (∀ b k, b < a ∨ a + 9 < b ∨ b = a + 1 → t1 b k = t b k) ∧ (∀ k, ¬ k = 9 → ¬ k = 11 → ¬ k = 12 → ¬ k = 13 → t1 a k = t a k) ∧ (t1 a 9 = t a 9 + 1) ∧ (t1 a 11 = t a 11 + 1) ∧ (t1 a 12 = if t a 11 = 0 then t a 12 + 1 else t a 12) ∧ (t1 a 13 = mx (t a 13) (t a 11 + 1)) ∧ (∀ k : Nat, (k : Int) < t a 11 → t1 (a + 9) k = t (a + 9) k) ∧ (t1 (a + 9) (t a 11).toNat = t a 9) ∧ (∀ c k : Nat, 2 ≤ c → c ≤ 8 → (k : Int) < t a 9 → t1 (a + c) k = t (a + c) k) ∧ (t1 (a + 2) (t a 9).toNat = op) ∧ (t1 (a + 3) (t a 9).toNat = 1) ∧ (t1 (a + 4) (t a 9).toNat = i) ∧ (t1 (a + 5) (t a 9).toNat = b) ∧ (t1 (a + 6) (t a 9).toNat = t a 9)
theorem H1.fr {a : Nat} {t t1 : Mem} {op i b : Int} (hSelf : H1 a t t1 op i b) : ∀ b k, b < a ∨ a + 9 < b ∨ b = a + 1 → t1 b k = t b k := hSelf.1
theorem H1.fa {a : Nat} {t t1 : Mem} {op i b : Int} (hSelf : H1 a t t1 op i b) : ∀ k, ¬ k = 9 → ¬ k = 11 → ¬ k = 12 → ¬ k = 13 → t1 a k = t a k := hSelf.2.1
theorem H1.f9 {a : Nat} {t t1 : Mem} {op i b : Int} (hSelf : H1 a t t1 op i b) : t1 a 9 = t a 9 + 1 := hSelf.2.2.1
theorem H1.f11 {a : Nat} {t t1 : Mem} {op i b : Int} (hSelf : H1 a t t1 op i b) : t1 a 11 = t a 11 + 1 := hSelf.2.2.2.1
theorem H1.f12 {a : Nat} {t t1 : Mem} {op i b : Int} (hSelf : H1 a t t1 op i b) : t1 a 12 = if t a 11 = 0 then t a 12 + 1 else t a 12 := hSelf.2.2.2.2.1
theorem H1.f13 {a : Nat} {t t1 : Mem} {op i b : Int} (hSelf : H1 a t t1 op i b) : t1 a 13 = mx (t a 13) (t a 11 + 1) := hSelf.2.2.2.2.2.1
theorem H1.os {a : Nat} {t t1 : Mem} {op i b : Int} (hSelf : H1 a t t1 op i b) : ∀ k : Nat, (k : Int) < t a 11 → t1 (a + 9) k = t (a + 9) k := hSelf.2.2.2.2.2.2.1
theorem H1.os1 {a : Nat} {t t1 : Mem} {op i b : Int} (hSelf : H1 a t t1 op i b) : t1 (a + 9) (t a 11).toNat = t a 9 := hSelf.2.2.2.2.2.2.2.1
theorem H1.en {a : Nat} {t t1 : Mem} {op i b : Int} (hSelf : H1 a t t1 op i b) : ∀ c k : Nat, 2 ≤ c → c ≤ 8 → (k : Int) < t a 9 → t1 (a + c) k = t (a + c) k := hSelf.2.2.2.2.2.2.2.2.1
theorem H1.e2 {a : Nat} {t t1 : Mem} {op i b : Int} (hSelf : H1 a t t1 op i b) : t1 (a + 2) (t a 9).toNat = op := hSelf.2.2.2.2.2.2.2.2.2.1
theorem H1.e3 {a : Nat} {t t1 : Mem} {op i b : Int} (hSelf : H1 a t t1 op i b) : t1 (a + 3) (t a 9).toNat = 1 := hSelf.2.2.2.2.2.2.2.2.2.2.1
theorem H1.e4 {a : Nat} {t t1 : Mem} {op i b : Int} (hSelf : H1 a t t1 op i b) : t1 (a + 4) (t a 9).toNat = i := hSelf.2.2.2.2.2.2.2.2.2.2.2.1
theorem H1.e5 {a : Nat} {t t1 : Mem} {op i b : Int} (hSelf : H1 a t t1 op i b) : t1 (a + 5) (t a 9).toNat = b := hSelf.2.2.2.2.2.2.2.2.2.2.2.2.1
theorem H1.e6 {a : Nat} {t t1 : Mem} {op i b : Int} (hSelf : H1 a t t1 op i b) : t1 (a + 6) (t a 9).toNat = t a 9 := hSelf.2.2.2.2.2.2.2.2.2.2.2.2.2
theorem H1_en (h0 : 0 ≤ t a 9) (ho : 0 ≤ t a 11) : H1 a t (en1 (ou1 t a) a op i b) op i b := by
  have e : ou1 t a a 9 = t a 9 := ou1_o (by omega)
  have e' : ou1 t a a 11 = t a 11 := ou1_o (by omega)
  have e'' : ou1 t a a 13 = t a 13 := ou1_o (by omega)
  refine ⟨?_, ?_, ?_, ?_, ?_, ?_, ?_, ?_, ?_, ?_, ?_, ?_, ?_, ?_⟩
  · intro b k hb
    simp only [en1, en4, rd, e, e', e'']
    rw [if_neg (by omega), if_neg (by omega), if_neg (by omega), if_neg (by omega), if_neg (by omega), if_neg (by omega), if_neg (by omega), if_neg (by omega), if_neg (by omega)]
    exact ou1_o (by omega)
  · intro k k1 k2 k3 k4
    simp only [en1, en4, rd, e, e', e'']
    rw [if_neg (by omega), if_neg (by omega), if_neg (by omega), if_neg (by omega), if_neg (by omega), if_neg (by omega), if_neg (by omega), if_neg (by omega), if_neg (by omega)]
    exact ou1_o (by omega)
  · simp only [en1, en4, rd, e, e', e'']
    rw [if_neg (by omega), if_neg (by omega), if_neg (by omega), if_neg (by omega), if_neg (by omega), if_neg (by omega), if_neg (by omega), if_neg (by omega), if_pos (by simp)]
  · simp only [en1, en4, rd, e, e', e'']
    rw [if_neg (by omega), if_neg (by omega), if_neg (by omega), if_pos (by simp)]
  · simp only [en1, en4, rd, e, e', e'']
    rw [if_neg (by omega), if_neg (by omega), if_neg (by omega), if_neg (by omega), if_neg (by omega), if_neg (by omega), if_neg (by omega), if_neg (by omega), if_neg (by omega)]
    exact ou1_12
  · simp only [en1, en4, rd, e, e', e'']
    rw [if_neg (by omega), if_pos (by simp)]
  · intro k hk
    simp only [en1, en4, rd, e, e', e'']
    rw [if_neg (by omega), if_neg (by omega), if_neg (by omega), if_neg (by omega), if_neg (by omega), if_neg (by omega), if_neg (by omega), if_neg (by omega), if_neg (by omega)]
    exact ou1_o (by omega)
  · simp only [en1, en4, rd, e, e', e'']
    rw [if_neg (by omega), if_neg (by omega), if_pos (by simp)]
  · intro c k c1 c2 hk
    simp only [en1, en4, rd, e, e', e'']
    rw [if_neg (by omega), if_neg (by omega), if_neg (by omega), if_neg (by omega), if_neg (by omega), if_neg (by omega), if_neg (by omega), if_neg (by omega), if_neg (by omega)]
    exact ou1_o (by omega)
  · simp only [en1, en4, rd, e, e', e'']
    rw [if_neg (by omega), if_neg (by omega), if_neg (by omega), if_neg (by omega), if_neg (by omega), if_neg (by omega), if_neg (by omega), if_pos (by simp)]
  · simp only [en1, en4, rd, e, e', e'']
    rw [if_neg (by omega), if_neg (by omega), if_neg (by omega), if_neg (by omega), if_neg (by omega), if_neg (by omega), if_pos (by simp)]
  · simp only [en1, en4, rd, e, e', e'']
    rw [if_neg (by omega), if_neg (by omega), if_neg (by omega), if_neg (by omega), if_neg (by omega), if_pos (by simp)]
  · simp only [en1, en4, rd, e, e', e'']
    rw [if_neg (by omega), if_neg (by omega), if_neg (by omega), if_neg (by omega), if_pos (by simp)]
  · simp only [en1, en4, rd, e, e', e'']
    rw [if_pos (by simp)]
/-- middles and tails -/
abbrev H2 (a : Nat) (t t1 : Mem) (op i b h : Int) (u : Nat) (ro d : Int) : Prop := (∀ b k, b < a ∨ a + 9 < b ∨ b = a + 1 ∨ b = a + 9 → t1 b k = t b k) ∧ (∀ k, ¬ k = 9 → ¬ k = 11 → t1 a k = t a k) ∧ (t1 a 9 = t a 9 + 1) ∧ (t1 a 11 = t a 11 - d) ∧ (∀ c k : Nat, 2 ≤ c → c ≤ 8 → ¬ (k : Int) = t a 9 → ¬ (c = u ∧ k = h.toNat) → t1 (a + c) k = t (a + c) k) ∧ (t1 (a + 2) (t a 9).toNat = op) ∧ (t1 (a + 3) (t a 9).toNat = ro) ∧ (t1 (a + 4) (t a 9).toNat = i) ∧ (t1 (a + 5) (t a 9).toNat = b) ∧ (t1 (a + 6) (t a 9).toNat = h) ∧ (t1 (a + u) h.toNat = t a 9)
theorem H2.fr {a : Nat} {t t1 : Mem} {op i b h : Int} {u : Nat} {ro d : Int} (hSelf : H2 a t t1 op i b h u ro d) : ∀ b k, b < a ∨ a + 9 < b ∨ b = a + 1 ∨ b = a + 9 → t1 b k = t b k := hSelf.1
theorem H2.fa {a : Nat} {t t1 : Mem} {op i b h : Int} {u : Nat} {ro d : Int} (hSelf : H2 a t t1 op i b h u ro d) : ∀ k, ¬ k = 9 → ¬ k = 11 → t1 a k = t a k := hSelf.2.1
theorem H2.f9 {a : Nat} {t t1 : Mem} {op i b h : Int} {u : Nat} {ro d : Int} (hSelf : H2 a t t1 op i b h u ro d) : t1 a 9 = t a 9 + 1 := hSelf.2.2.1
theorem H2.f11 {a : Nat} {t t1 : Mem} {op i b h : Int} {u : Nat} {ro d : Int} (hSelf : H2 a t t1 op i b h u ro d) : t1 a 11 = t a 11 - d := hSelf.2.2.2.1
theorem H2.en {a : Nat} {t t1 : Mem} {op i b h : Int} {u : Nat} {ro d : Int} (hSelf : H2 a t t1 op i b h u ro d) : ∀ c k : Nat, 2 ≤ c → c ≤ 8 → ¬ (k : Int) = t a 9 → ¬ (c = u ∧ k = h.toNat) → t1 (a + c) k = t (a + c) k := hSelf.2.2.2.2.1
theorem H2.e2 {a : Nat} {t t1 : Mem} {op i b h : Int} {u : Nat} {ro d : Int} (hSelf : H2 a t t1 op i b h u ro d) : t1 (a + 2) (t a 9).toNat = op := hSelf.2.2.2.2.2.1
theorem H2.e3 {a : Nat} {t t1 : Mem} {op i b h : Int} {u : Nat} {ro d : Int} (hSelf : H2 a t t1 op i b h u ro d) : t1 (a + 3) (t a 9).toNat = ro := hSelf.2.2.2.2.2.2.1
theorem H2.e4 {a : Nat} {t t1 : Mem} {op i b h : Int} {u : Nat} {ro d : Int} (hSelf : H2 a t t1 op i b h u ro d) : t1 (a + 4) (t a 9).toNat = i := hSelf.2.2.2.2.2.2.2.1
theorem H2.e5 {a : Nat} {t t1 : Mem} {op i b h : Int} {u : Nat} {ro d : Int} (hSelf : H2 a t t1 op i b h u ro d) : t1 (a + 5) (t a 9).toNat = b := hSelf.2.2.2.2.2.2.2.2.1
theorem H2.e6 {a : Nat} {t t1 : Mem} {op i b h : Int} {u : Nat} {ro d : Int} (hSelf : H2 a t t1 op i b h u ro d) : t1 (a + 6) (t a 9).toNat = h := hSelf.2.2.2.2.2.2.2.2.2.1
theorem H2.eu {a : Nat} {t t1 : Mem} {op i b h : Int} {u : Nat} {ro d : Int} (hSelf : H2 a t t1 op i b h u ro d) : t1 (a + u) h.toNat = t a 9 := hSelf.2.2.2.2.2.2.2.2.2.2
theorem H2_2 (h0 : 0 ≤ t a 9) : H2 a t (en2 t a op i b) op i b (topH t a) 7 2 0 := by
  generalize hh : topH t a = h
  refine ⟨?_, ?_, ?_, ?_, ?_, ?_, ?_, ?_, ?_, ?_, ?_⟩
  · intro b k hb
    simp only [en2, en4, rd, hh]
    rw [if_neg (by omega), if_neg (by omega), if_neg (by omega), if_neg (by omega), if_neg (by omega), if_neg (by omega), if_neg (by omega)]
  · intro k k1 k2
    simp only [en2, en4, rd, hh]
    rw [if_neg (by omega), if_neg (by omega), if_neg (by omega), if_neg (by omega), if_neg (by omega), if_neg (by omega), if_neg (by omega)]
  · simp only [en2, en4, rd, hh]
    rw [if_neg (by omega), if_neg (by omega), if_neg (by omega), if_neg (by omega), if_neg (by omega), if_neg (by omega), if_pos (by simp)]
  · simp only [en2, en4, rd, hh]
    rw [if_neg (by omega), if_neg (by omega), if_neg (by omega), if_neg (by omega), if_neg (by omega), if_neg (by omega), if_neg (by omega)]
    omega
  · intro c k c1 c2 hk hu
    simp only [en2, en4, rd, hh]
    rw [if_neg (by omega), if_neg (by omega), if_neg (by omega), if_neg (by omega), if_neg (by omega), if_neg (by omega), if_neg (by omega)]
  · simp only [en2, en4, rd, hh]
    rw [if_neg (by omega), if_neg (by omega), if_neg (by omega), if_neg (by omega), if_neg (by omega), if_pos (by simp)]
  · simp only [en2, en4, rd, hh]
    rw [if_neg (by omega), if_neg (by omega), if_neg (by omega), if_neg (by omega), if_pos (by simp)]
  · simp only [en2, en4, rd, hh]
    rw [if_neg (by omega), if_neg (by omega), if_neg (by omega), if_pos (by simp)]
  · simp only [en2, en4, rd, hh]
    rw [if_neg (by omega), if_neg (by omega), if_pos (by simp)]
  · simp only [en2, en4, rd, hh]
    rw [if_neg (by omega), if_pos (by simp)]
  · simp only [en2, en4, rd, hh]
    rw [if_pos (by simp)]
theorem H2_3 (h0 : 0 ≤ t a 9) : H2 a t (en3 t a op i b) op i b (topH t a) 8 3 1 := by
  generalize hh : topH t a = h
  refine ⟨?_, ?_, ?_, ?_, ?_, ?_, ?_, ?_, ?_, ?_, ?_⟩
  · intro b k hb
    simp only [en3, en4, rd, hh]
    rw [if_neg (by omega), if_neg (by omega), if_neg (by omega), if_neg (by omega), if_neg (by omega), if_neg (by omega), if_neg (by omega), if_neg (by omega)]
  · intro k k1 k2
    simp only [en3, en4, rd, hh]
    rw [if_neg (by omega), if_neg (by omega), if_neg (by omega), if_neg (by omega), if_neg (by omega), if_neg (by omega), if_neg (by omega), if_neg (by omega)]
  · simp only [en3, en4, rd, hh]
    rw [if_neg (by omega), if_neg (by omega), if_neg (by omega), if_neg (by omega), if_neg (by omega), if_neg (by omega), if_neg (by omega), if_pos (by simp)]
  · simp only [en3, en4, rd, hh]
    rw [if_pos (by simp)]
  · intro c k c1 c2 hk hu
    simp only [en3, en4, rd, hh]
    rw [if_neg (by omega), if_neg (by omega), if_neg (by omega), if_neg (by omega), if_neg (by omega), if_neg (by omega), if_neg (by omega), if_neg (by omega)]
  · simp only [en3, en4, rd, hh]
    rw [if_neg (by omega), if_neg (by omega), if_neg (by omega), if_neg (by omega), if_neg (by omega), if_neg (by omega), if_pos (by simp)]
  · simp only [en3, en4, rd, hh]
    rw [if_neg (by omega), if_neg (by omega), if_neg (by omega), if_neg (by omega), if_neg (by omega), if_pos (by simp)]
  · simp only [en3, en4, rd, hh]
    rw [if_neg (by omega), if_neg (by omega), if_neg (by omega), if_neg (by omega), if_pos (by simp)]
  · simp only [en3, en4, rd, hh]
    rw [if_neg (by omega), if_neg (by omega), if_neg (by omega), if_pos (by simp)]
  · simp only [en3, en4, rd, hh]
    rw [if_neg (by omega), if_neg (by omega), if_pos (by simp)]
  · simp only [en3, en4, rd, hh]
    rw [if_neg (by omega), if_pos (by simp)]
/-- a step with two parts -/
theorem SetP_2 {t1 t3 t5 : Mem} {p m q : Int} (h0 : 0 ≤ t a 9) (ho : 0 ≤ t a 11) (hp : p = t a 9) (hm : m = p + na + 1) (hq : q = m + nb + 1) (h1 : H1 a t t1 op i b) (h2 : SetP a t1 t2 na la da sa) (h3 : H2 a t2 t3 op i2 b2 p 7 2 0) (h4 : SetP a t3 t4 nb lb db sb) (h5 : H2 a t4 t5 op i3 b3 p 8 3 1) (hda : 0 ≤ da) (hdb : 0 ≤ db) : SetP a t t5 (na + nb + 3) ((op, 1, i, b, p, m, q) :: (la ++ (op, 2, i2, b2, p, m, q) :: (lb ++ [(op, 3, i3, b3, p, m, q)]))) (mx da db + 1) 1 := by
  have n2 : t2 a 9 = p + 1 + na := by rw [h2.f9, h1.f9, hp]
  have n3 : t3 a 9 = p + na + 2 := by rw [h3.f9, n2]; omega
  have n4 : t4 a 9 = p + na + nb + 2 := by rw [h4.f9, n3]; omega
  have o1 : t1 a 11 = t a 11 + 1 := h1.f11
  have o2 : t2 a 11 = t a 11 + 1 := by rw [h2.fa 11 (by omega) (by omega) (by omega), o1]
  have o3 : t3 a 11 = t a 11 + 1 := by rw [h3.f11, o2]; omega
  have o4 : t4 a 11 = t a 11 + 1 := by rw [h4.fa 11 (by omega) (by omega) (by omega), o3]
  have pN : (p.toNat : Int) = p := by omega
  have mN : (m.toNat : Int) = m := by omega
  have qN : (q.toNat : Int) = q := by omega
  -- t5 against t4, below q
  have v5 : ∀ c k : Nat, 2 ≤ c → c ≤ 8 → (k : Int) < q → ¬ (c = 8 ∧ k = p.toNat) → t5 (a + c) k = t4 (a + c) k := fun c k c1 c2 hk hn => h5.en c k c1 c2 (by omega) hn
  have v3 : ∀ c k : Nat, 2 ≤ c → c ≤ 8 → (k : Int) < m → ¬ (c = 7 ∧ k = p.toNat) → t3 (a + c) k = t2 (a + c) k := fun c k c1 c2 hk hn => h3.en c k c1 c2 (by omega) hn
  have v43 : ∀ c k : Nat, 2 ≤ c → c ≤ 8 → (k : Int) ≤ m → t4 (a + c) k = t3 (a + c) k := fun c k c1 c2 hk => h4.en c k c1 c2 (by omega)
  have v21 : ∀ c k : Nat, 2 ≤ c → c ≤ 8 → (k : Int) ≤ p → t2 (a + c) k = t1 (a + c) k := fun c k c1 c2 hk => h2.en c k c1 c2 (by rw [h1.f9]; omega)
  have x7 : t5 (a + 7) p.toNat = m := by
    rw [v5 7 _ (by omega) (by omega) (by omega) (by omega), v43 7 _ (by omega) (by omega) (by omega), h3.eu, n2]; omega
  have x8 : t5 (a + 8) p.toNat = q := by rw [h5.eu, n4]; omega
  have xh : ∀ c : Nat, 2 ≤ c → c ≤ 6 → t5 (a + c) p.toNat = t1 (a + c) p.toNat := fun c c1 c2 => by
    rw [v5 c _ c1 (by omega) (by omega) (by omega), v43 c _ c1 (by omega) (by omega), v3 c _ c1 (by omega) (by omega) (by omega), v21 c _ c1 (by omega) (by omega)]
  have tN : (t a 9).toNat = p.toNat := by rw [hp]
  have t2N : (t2 a 9).toNat = m.toNat := by rw [n2]; omega
  have t4N : (t4 a 9).toNat = q.toNat := by rw [n4]; omega
  refine ⟨?_, ?_, ?_, ?_, ?_, ?_, ?_, ?_, ?_⟩
  · intro b k hb
    rw [h5.fr b k (by omega), h4.fr b k (by omega), h3.fr b k (by omega), h2.fr b k (by omega), h1.fr b k (by omega)]
  · intro k k1 k2 k3
    by_cases k4 : k = 11
    · subst k4; rw [h5.f11, o4]; omega
    · rw [h5.fa k k1 k4, h4.fa k k1 k2 k3, h3.fa k k1 k4, h2.fa k k1 k2 k3, h1.fa k k1 k4 k2 k3]
  · rw [h5.f9, n4]; omega
  · rw [h5.fa 12 (by omega) (by omega), h4.f12, if_neg (by omega), h3.fa 12 (by omega) (by omega), h2.f12, if_neg (by omega), h1.f12]
  · rw [h5.fa 13 (by omega) (by omega), h4.f13, h3.fa 13 (by omega) (by omega), h2.f13, h1.f13, o3, o1]
    unfold mx; (repeat' split) <;> omega
  · intro k hk
    rw [h5.fr (a + 9) k (by omega), h4.op k (by omega), h3.fr (a + 9) k (by omega), h2.op k (by omega), h1.os k hk]
  · intro c k c1 c2 hk
    rw [v5 c k c1 c2 (by omega) (by omega), v43 c k c1 c2 (by omega), v3 c k c1 c2 (by omega) (by omega), v21 c k c1 c2 (by omega), h1.en c k c1 c2 hk]
  · rw [tN, TOk, TOk_app, TOk, TOk_app, TOk, TOk]
    have lN := h2.len
    have lN' := h4.len
    have eM : p.toNat + 1 + la.length = m.toNat := by omega
    have eQ : m.toNat + 1 + lb.length = q.toNat := by omega
    rw [eM, eQ]
    refine ⟨⟨?_, ?_, ?_, ?_, fun _ => ⟨?_, ?_, ?_, ?_, fun _ => x7, x8⟩⟩, ?_, ⟨?_, ?_, ?_, ?_, fun _ => ⟨?_, ?_, ?_, ?_, fun _ => x7, x8⟩⟩, ?_, ⟨?_, ?_, ?_, ?_, fun _ => ⟨?_, ?_, ?_, ?_, fun _ => x7, x8⟩⟩, trivial⟩
    · rw [xh 2 (by omega) (by omega), ← tN]; exact h1.e2
    · rw [xh 3 (by omega) (by omega), ← tN]; exact h1.e3
    · rw [xh 4 (by omega) (by omega), ← tN]; exact h1.e4
    · rw [xh 5 (by omega) (by omega), ← tN]; exact h1.e5
    · show 0 ≤ p; omega
    · exact Nat.le_refl _
    · exact Nat.le_refl _
    · show t5 (a + 6) p.toNat = p
      rw [xh 6 (by omega) (by omega), ← tN, h1.e6, hp]
    · have e9 : (t1 a 9).toNat = p.toNat + 1 := by rw [h1.f9]; omega
      have := h2.tb
      rw [e9] at this
      refine TOk_lo (lo := p.toNat + 1) (by omega) _ _ (TOk_mono la _ this (Nat.le_refl _) (fun c k c1 c2 k1 k2 => ?_))
      rw [v5 c k c1 c2 (by omega) (by omega), v43 c k c1 c2 (by omega), v3 c k c1 c2 (by omega) (by omega)]
    · show t5 (a + 2) m.toNat = op
      rw [v5 2 _ (by omega) (by omega) (by omega) (by omega), v43 2 _ (by omega) (by omega) (by omega), ← t2N]; exact h3.e2
    · show t5 (a + 3) m.toNat = 2
      rw [v5 3 _ (by omega) (by omega) (by omega) (by omega), v43 3 _ (by omega) (by omega) (by omega), ← t2N]; exact h3.e3
    · show t5 (a + 4) m.toNat = i2
      rw [v5 4 _ (by omega) (by omega) (by omega) (by omega), v43 4 _ (by omega) (by omega) (by omega), ← t2N]; exact h3.e4
    · show t5 (a + 5) m.toNat = b2
      rw [v5 5 _ (by omega) (by omega) (by omega) (by omega), v43 5 _ (by omega) (by omega) (by omega), ← t2N]; exact h3.e5
    · show 0 ≤ p; omega
    · exact Nat.le_refl _
    · show p.toNat ≤ m.toNat; omega
    · show t5 (a + 6) m.toNat = p
      rw [v5 6 _ (by omega) (by omega) (by omega) (by omega), v43 6 _ (by omega) (by omega) (by omega), ← t2N]; exact h3.e6
    · have e9 : (t3 a 9).toNat = m.toNat + 1 := by rw [n3]; omega
      have := h4.tb
      rw [e9] at this
      refine TOk_lo (lo := m.toNat + 1) (by omega) _ _ (TOk_mono lb _ this (Nat.le_refl _) (fun c k c1 c2 k1 k2 => ?_))
      rw [v5 c k c1 c2 (by omega) (by omega)]
    · show t5 (a + 2) q.toNat = op
      rw [← t4N]; exact h5.e2
    · show t5 (a + 3) q.toNat = 3
      rw [← t4N]; exact h5.e3
    · show t5 (a + 4) q.toNat = i3
      rw [← t4N]; exact h5.e4
    · show t5 (a + 5) q.toNat = b3
      rw [← t4N]; exact h5.e5
    · show 0 ≤ p; omega
    · exact Nat.le_refl _
    · show p.toNat ≤ q.toNat; omega
    · show t5 (a + 6) q.toNat = p
      rw [← t4N]; exact h5.e6
  · simp only [List.length_cons, List.length_append, List.length_nil, h2.len, h4.len]; try omega
/-- a while -/
theorem SetP_1 {t1 t5 : Mem} {p q : Int} (h0 : 0 ≤ t a 9) (ho : 0 ≤ t a 11) (hp : p = t a 9) (hq : q = p + na + 1) (h1 : H1 a t t1 215 i b) (h2 : SetP a t1 t2 na la da sa) (h5 : H2 a t2 t5 215 i3 b3 p 8 3 1) (hda : 0 ≤ da) : SetP a t t5 (na + 2) ((215, 1, i, b, p, q, q) :: (la ++ [(215, 3, i3, b3, p, q, q)])) (da + 1) 1 := by
  have n2 : t2 a 9 = p + 1 + na := by rw [h2.f9, h1.f9, hp]
  have o1 : t1 a 11 = t a 11 + 1 := h1.f11
  have o2 : t2 a 11 = t a 11 + 1 := by rw [h2.fa 11 (by omega) (by omega) (by omega), o1]
  have pN : (p.toNat : Int) = p := by omega
  have qN : (q.toNat : Int) = q := by omega
  have v5 : ∀ c k : Nat, 2 ≤ c → c ≤ 8 → (k : Int) < q → ¬ (c = 8 ∧ k = p.toNat) → t5 (a + c) k = t2 (a + c) k := fun c k c1 c2 hk hn => h5.en c k c1 c2 (by omega) hn
  have v21 : ∀ c k : Nat, 2 ≤ c → c ≤ 8 → (k : Int) ≤ p → t2 (a + c) k = t1 (a + c) k := fun c k c1 c2 hk => h2.en c k c1 c2 (by rw [h1.f9]; omega)
  have x8 : t5 (a + 8) p.toNat = q := by rw [h5.eu, n2]; omega
  have xh : ∀ c : Nat, 2 ≤ c → c ≤ 6 → t5 (a + c) p.toNat = t1 (a + c) p.toNat := fun c c1 c2 => by
    rw [v5 c _ c1 (by omega) (by omega) (by omega), v21 c _ c1 (by omega) (by omega)]
  have tN : (t a 9).toNat = p.toNat := by rw [hp]
  have t2N : (t2 a 9).toNat = q.toNat := by rw [n2]; omega
  refine ⟨?_, ?_, ?_, ?_, ?_, ?_, ?_, ?_, ?_⟩
  · intro b k hb
    rw [h5.fr b k (by omega), h2.fr b k (by omega), h1.fr b k (by omega)]
  · intro k k1 k2 k3
    by_cases k4 : k = 11
    · subst k4; rw [h5.f11, o2]; omega
    · rw [h5.fa k k1 k4, h2.fa k k1 k2 k3, h1.fa k k1 k4 k2 k3]
  · rw [h5.f9, n2]; omega
  · rw [h5.fa 12 (by omega) (by omega), h2.f12, if_neg (by omega), h1.f12]
  · rw [h5.fa 13 (by omega) (by omega), h2.f13, h1.f13, o1]
    unfold mx; (repeat' split) <;> omega
  · intro k hk
    rw [h5.fr (a + 9) k (by omega), h2.op k (by omega), h1.os k hk]
  · intro c k c1 c2 hk
    rw [v5 c k c1 c2 (by omega) (by omega), v21 c k c1 c2 (by omega), h1.en c k c1 c2 hk]
  · rw [tN, TOk, TOk_app, TOk, TOk]
    have lN := h2.len
    have eQ : p.toNat + 1 + la.length = q.toNat := by omega
    rw [eQ]
    refine ⟨⟨?_, ?_, ?_, ?_, fun _ => ⟨?_, ?_, ?_, ?_, fun h => absurd rfl h, x8⟩⟩, ?_, ⟨?_, ?_, ?_, ?_, fun _ => ⟨?_, ?_, ?_, ?_, fun h => absurd rfl h, x8⟩⟩, trivial⟩
    · rw [xh 2 (by omega) (by omega), ← tN]; exact h1.e2
    · rw [xh 3 (by omega) (by omega), ← tN]; exact h1.e3
    · rw [xh 4 (by omega) (by omega), ← tN]; exact h1.e4
    · rw [xh 5 (by omega) (by omega), ← tN]; exact h1.e5
    · show 0 ≤ p; omega
    · exact Nat.le_refl _
    · exact Nat.le_refl _
    · show t5 (a + 6) p.toNat = p
      rw [xh 6 (by omega) (by omega), ← tN, h1.e6, hp]
    · have e9 : (t1 a 9).toNat = p.toNat + 1 := by rw [h1.f9]; omega
      have := h2.tb
      rw [e9] at this
      refine TOk_lo (lo := p.toNat + 1) (by omega) _ _ (TOk_mono la _ this (Nat.le_refl _) (fun c k c1 c2 k1 k2 => ?_))
      rw [v5 c k c1 c2 (by omega) (by omega)]
    · show t5 (a + 2) q.toNat = 215
      rw [← t2N]; exact h5.e2
    · show t5 (a + 3) q.toNat = 3
      rw [← t2N]; exact h5.e3
    · show t5 (a + 4) q.toNat = i3
      rw [← t2N]; exact h5.e4
    · show t5 (a + 5) q.toNat = b3
      rw [← t2N]; exact h5.e5
    · show 0 ≤ p; omega
    · exact Nat.le_refl _
    · show p.toNat ≤ q.toNat; omega
    · show t5 (a + 6) q.toNat = p
      rw [← t2N]; exact h5.e6
  · simp only [List.length_cons, List.length_append, List.length_nil, h2.len]; try omega
end
