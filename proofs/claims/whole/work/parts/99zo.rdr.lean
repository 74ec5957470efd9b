/-! What a read text weighs; a text becomes a routine's; read of both -/
theorem numF_m {y : Int → Int} : ∀ (m : Nat) (i acc : Int), 0 ≤ acc → (∀ j, i ≤ j → j < i + m → 48 ≤ y j ∧ y j ≤ 57) → numF y m i acc + 1 ≤ (acc + 1) * 10 ^ m := by
  intro m
  induction m with
  | zero => intro i acc h _; simp [numF]
  | succ m ih =>
    intro i acc h hd
    have h0 := hd i (by omega) (by omega)
    have := ih (i + 1) (acc * 10 + y i - 48) (by omega) (fun j h1 h2 => hd j (by omega) (by omega))
    rw [numF]
    refine Int.le_trans this ?_
    rw [Int.pow_succ, Int.mul_comm (10 ^ m) 10, ← Int.mul_assoc]
    exact Int.mul_le_mul_of_nonneg_right (by omega) (Int.le_of_lt (Int.pow_pos (by decide)))
theorem dgt_le {n : Int} {m : Nat} (h : n + 1 ≤ 10 ^ m) (h1 : 1 ≤ m) (h9 : m ≤ 9) : dgt n ≤ m := by
  have : m = 1 ∨ m = 2 ∨ m = 3 ∨ m = 4 ∨ m = 5 ∨ m = 6 ∨ m = 7 ∨ m = 8 ∨ m = 9 := by omega
  unfold dgt
  rcases this with rfl | rfl | rfl | rfl | rfl | rfl | rfl | rfl | rfl <;> simp only [Int.reducePow] at h <;> (repeat' split) <;> omega
theorem wt_key {t : Int} (h : 200 ≤ t ∧ t ≤ 221) : wtk t ≤ 7 := by
  have : ∀ k : Nat, k < 22 → [6, 6, 5, 5, 4, 4, 7, 7, 3, 5, 3, 5, 5, 6, 4, 6, 5, 4, 5, 6, 5, 5].getD k 7 ≤ 7 := by decide
  unfold wtk
  rw [if_neg (by omega), if_neg (by omega)]
  exact this (t - 200).toNat (by omega)
theorem keyR_c {y : Int → Int} {fr en : Int} : ∀ (m : Nat) (k : Int), 0 ≤ k → keyR y fr en m k = 1 ∨ 200 ≤ keyR y fr en m k := by
  intro m
  induction m with
  | zero => intro k _; exact Or.inl rfl
  | succ m ih =>
    intro k hk
    rw [keyR]
    split
    · have : 0 ≤ k.tdiv 6 := Int.tdiv_nonneg hk (by decide)
      exact Or.inr (by omega)
    · exact ih (k + 6) (by omega)
theorem pr2_c {a b : Int} : pr2 a b = 1 ∨ (128 ≤ pr2 a b ∧ pr2 a b ≤ 133) := by
  unfold pr2; (repeat' split) <;> omega
theorem wt_tv {f : Mem} {n i : Int} (hy : okY f n) (hn : n ≤ 600) (h0 : 0 ≤ i) (h1 : i < n) (hk : okT (tv (yb f n) i)) : (wtk (tv (yb f n) i) : Int) ≤ 4 * (te (yb f n) i - i) := by
  have hb := te_b (f := f) hn h0 h1
  have hyi : yb f n i = f 2 i.toNat := by unfold yb; rw [if_pos (by omega)]
  have h2 := hy i.toNat (by omega)
  unfold tv at hk ⊢
  by_cases hd : kDig (yb f n i) = true
  · rw [if_pos hd] at hk ⊢
    have h1' : te (yb f n) i = spF kDig (yb f n) 8 (i + 1) := by
      unfold te
      rw [if_neg (by unfold kDig at hd; unfold kName; simp at hd ⊢; omega), if_pos hd]
    have hg := spF_ge (p := kDig) (y := yb f n) 8 (i + 1)
    have hdig : ∀ j, i ≤ j → j < i + ((te (yb f n) i - i).toNat : Int) → 48 ≤ yb f n j ∧ yb f n j ≤ 57 := fun j hj1 hj2 => by
      have : kDig (yb f n j) = true := by
        by_cases e : j = i
        · subst e; exact hd
        · exact spF_all (p := kDig) (y := yb f n) 8 (i + 1) j (by omega) (by omega)
      unfold kDig at this; simp at this; omega
    have hm := numF_m (y := yb f n) (te (yb f n) i - i).toNat i 0 (Int.le_refl _) hdig
    rw [Int.zero_add, Int.one_mul] at hm
    have hdg := dgt_le hm (by omega) (by omega)
    have hneg : -1 - numF (yb f n) (te (yb f n) i - i).toNat i 0 < 0 := by
      have := numF_b (y := yb f n) (te (yb f n) i - i).toNat i 0 (by omega) (by omega) (by have := bnd_9 (te (yb f n) i - i).toNat (by omega); omega) hdig
      omega
    unfold wtk
    rw [if_pos hneg, show -1 - (-1 - numF (yb f n) (te (yb f n) i - i).toNat i 0) = numF (yb f n) (te (yb f n) i - i).toNat i 0 by omega]
    omega
  · rw [if_neg hd] at hk ⊢
    by_cases he : te (yb f n) i = i + 1
    · rw [if_pos he] at hk ⊢
      unfold wtk
      rw [if_neg (by omega), if_pos (by omega), if_neg (by omega)]
      omega
    · rw [if_neg he] at hk ⊢
      by_cases hkn : kName (yb f n i) = true
      · rw [if_pos hkn] at hk ⊢
        have hk2 : 200 ≤ keyC (yb f n) i (te (yb f n) i) ∧ keyC (yb f n) i (te (yb f n) i) ≤ 221 := by
          unfold keyC at hk ⊢
          by_cases h6 : 6 < te (yb f n) i - i
          · rw [if_pos h6] at hk; unfold okT at hk; omega
          · rw [if_neg h6] at hk ⊢
            have := keyR_c (y := yb f n) (fr := i) (en := te (yb f n) i) 22 0 (by omega)
            unfold okT at hk; omega
        have := wt_key hk2
        omega
      · rw [if_neg hkn] at hk ⊢
        have := pr2_c (a := yb f n i) (b := yb f n (i + 1))
        have hp : 128 ≤ pr2 (yb f n i) (yb f n (i + 1)) ∧ pr2 (yb f n i) (yb f n (i + 1)) ≤ 133 := by unfold okT at hk; omega
        unfold wtk
        rw [if_neg (by omega), if_pos (by omega), if_pos (by omega)]
        omega
theorem wtL_c {v : Int} {l : List Int} : wtL (v :: l) = wtk v + wtL l := by unfold wtL; simp
theorem wtL_a {l m : List Int} : wtL (l ++ m) = wtL l + wtL m := by unfold wtL; simp
theorem wt_rd {f : Mem} {n : Int} {len : Nat} (hy : okY f n) (hn0 : 0 ≤ n) (hn : n ≤ 600) (hL : Lexd (yb f n) n len) (hok : ∀ k : Int, 0 ≤ k → k < len → okT (Tk (yb f n) len k)) : ∀ (m k : Nat), k + m = len → 0 ≤ eN (yb f n) k ∧ eN (yb f n) k ≤ n ∧ (wtL (tks (Tk (yb f n) len) k m) : Int) ≤ 4 * (n - eN (yb f n) k) := by
  have hE : ∀ k : Nat, k ≤ len → 0 ≤ eN (yb f n) k ∧ eN (yb f n) k ≤ n := by
    intro k
    induction k with
    | zero => intro _; simp only [eN]; omega
    | succ k ih =>
      intro hk
      have h := hL.2.2 k (by omega)
      have hb := te_b (f := f) hn h.1 h.2
      rw [eN]; omega
  intro m
  induction m with
  | zero =>
    intro k hk
    have := hE k (by omega)
    refine ⟨this.1, this.2, ?_⟩
    simp only [tks, wtL, List.map_nil, List.sum_nil]
    omega
  | succ m ih =>
    intro k hk
    have h1 := hE k (by omega)
    have h := hL.2.2 k (by omega)
    obtain ⟨q1, q2, q3⟩ := ih (k + 1) (by omega)
    have hs := sk_le (f := f) hn h1.1 h1.2
    have eT : Tk (yb f n) len (k : Int) = tv (yb f n) (sk (yb f n) (eN (yb f n) k)) := by unfold Tk; rw [if_pos (by omega), Int.toNat_natCast]
    have hw := wt_tv hy hn h.1 h.2 (by rw [← eT]; exact hok k (by omega) (by omega))
    rw [eN] at q1 q2 q3
    refine ⟨h1.1, h1.2, ?_⟩
    rw [tks, wtL_c, eT]
    rw [show ((k + 1 : Nat) : Int) = (k : Int) + 1 from rfl] at q3
    omega
