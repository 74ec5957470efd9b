/-! The state of both: what steps change -/
theorem clr_bit {a k : Nat} (ha : a < 67108864) (hk : k < 26) : o32 (fun x y => x &&& y) (a : Int) (o32 (fun x y => x ^^^ y) (o32 (fun x y => x <<< (y &&& 31)) 1 (k : Int)) (-1)) = ((a &&& (2 ^ k ^^^ 4294967295) : Nat) : Int) := by
  have hx : o32 (fun x y => x ^^^ y) (o32 (fun x y => x <<< (y &&& 31)) 1 (k : Int)) (-1) = ((Int32.ofInt ((2 ^ k : Nat) : Int)) ^^^ (Int32.ofInt (-1))).toInt := by
    rw [o32_shl1 (by omega)]; rfl
  rw [hx]
  unfold o32
  rw [Int32.ofInt_toInt]
  have h1 : (Int32.ofInt (a : Int) &&& (Int32.ofInt ((2 ^ k : Nat) : Int) ^^^ Int32.ofInt (-1))).toBitVec.toNat = a &&& (2 ^ k ^^^ 4294967295) := by
    rw [Int32.toBitVec_and, BitVec.toNat_and, Int32.toBitVec_xor, BitVec.toNat_xor, i32_nat (by omega), i32_nat (p2_31 (by omega)), i32_of]
    rfl
  have h2 : a &&& (2 ^ k ^^^ 4294967295) ≤ a := Nat.and_le_left
  show (Int32.ofInt (a : Int) &&& (Int32.ofInt ((2 ^ k : Nat) : Int) ^^^ Int32.ofInt (-1))).toInt = _
  rw [i32_tn (by rw [h1]; omega), h1]
theorem clr_t {a k j : Nat} (hj : j < 26) : (a &&& (2 ^ k ^^^ 4294967295)).testBit j = (a.testBit j && !decide (k = j)) := by
  have e : (4294967295 : Nat) = 2 ^ 32 - 1 := by decide
  rw [Nat.testBit_and, Nat.testBit_xor, Nat.testBit_two_pow, e, Nat.testBit_two_pow_sub_one]
  have : decide (j < 32) = true := by simp; omega
  rw [this]
  cases a.testBit j <;> cases decide (k = j) <;> rfl
theorem or_t {a k j : Nat} : (a ||| 2 ^ k).testBit j = (a.testBit j || decide (k = j)) := by
  rw [Nat.testBit_or, Nat.testBit_two_pow]
section
variable {f g f' g' : Mem} {TH TH' : Nat}
theorem RSt_n (h : RSt f g TH) (hf : ∀ b j, 23 ≤ b → b ≤ 48 → f' b j = f b j) (hg : ∀ b j, 175 ≤ b → b ≤ 180 → g' b j = g b j) (th : g' 156 35 = (TH' : Int)) (tl : TH' < 67108864) (nm : ∀ k : Nat, k < 26 → (f' 20 k = 0 ∧ TH'.testBit k = false) ∨ (f' 20 k = 1 ∧ TH'.testBit k = true ∧ f' 21 k = g' 174 k)) : RSt f' g' TH' := by
  have hh : ∀ k, hC f' k = hC f k := fun k => by unfold hC; rw [hf 29 _ (by omega) (by omega), hf 30 _ (by omega) (by omega)]
  refine ⟨th, tl, nm, ?_, ?_, ?_, ?_, ?_, ?_⟩
  · intro s hs; rw [hf 27 s (by omega) (by omega), hg 179 s (by omega) (by omega)]; exact h.hg s hs
  · intro s i hs hi
    rw [hf 27 s (by omega) (by omega)] at hi
    rw [hf (23 + s) i (by omega) (by omega), hg 180 _ (by omega) (by omega)]; exact h.pl s i hs hi
  · intro k hk
    have := h.rw k hk
    rw [hh, hg 175 k (by omega) (by omega)]
    rcases this with q | ⟨q1, q2, q3, q4, q5, q6, q7, q8⟩
    · exact Or.inl q
    · refine Or.inr ⟨q1, q2, q3, q4, ?_, ?_, ?_, fun i hi => ?_⟩
      · rw [hf 31 _ (by omega) (by omega), hg 176 _ (by omega) (by omega)]; exact q5
      · rw [hf 32 _ (by omega) (by omega), hg 177 _ (by omega) (by omega)]; exact q6
      · rw [hf 31 _ (by omega) (by omega)]; exact q7
      · rw [hf 32 _ (by omega) (by omega)] at hi
        rw [hf _ i (by omega) (by omega), hg 178 _ (by omega) (by omega)]; exact q8 i hi
  · intro a b ha hb h1 h2
    rw [hh] at h1 h2
    rw [hh, hh, hg 175 a (by omega) (by omega), hg 175 b (by omega) (by omega)]; exact h.inj a b ha hb h1 h2
  · intro n hn; rw [hf 32 n (by omega) (by omega)]; exact h.cC n hn
  · intro n hn; rw [hg 177 n (by omega) (by omega)]; exact h.cM n hn
theorem RSt_s (h : RSt f g TH) (hf : ∀ b j, 29 ≤ b → b ≤ 48 → f' b j = f b j) (hg : ∀ b j, 175 ≤ b → b ≤ 178 → g' b j = g b j) (th : g' 156 35 = (TH : Int)) (nm : ∀ k : Nat, k < 26 → (f' 20 k = 0 ∧ TH.testBit k = false) ∨ (f' 20 k = 1 ∧ TH.testBit k = true ∧ f' 21 k = g' 174 k)) (hg2 : ∀ s : Nat, s < 4 → f' 27 s = g' 179 s ∧ 0 ≤ f' 27 s ∧ f' 27 s ≤ 30) (pl : ∀ s i : Nat, s < 4 → (i : Int) < f' 27 s → f' (23 + s) i = g' 180 (30 * s + i)) : RSt f' g' TH := by
  have hh : ∀ k, hC f' k = hC f k := fun k => by unfold hC; rw [hf 29 _ (by omega) (by omega), hf 30 _ (by omega) (by omega)]
  refine ⟨th, h.tl, nm, hg2, pl, ?_, ?_, ?_, ?_⟩
  · intro k hk
    have := h.rw k hk
    rw [hh, hg 175 k (by omega) (by omega)]
    rcases this with q | ⟨q1, q2, q3, q4, q5, q6, q7, q8⟩
    · exact Or.inl q
    · refine Or.inr ⟨q1, q2, q3, q4, ?_, ?_, ?_, fun i hi => ?_⟩
      · rw [hf 31 _ (by omega) (by omega), hg 176 _ (by omega) (by omega)]; exact q5
      · rw [hf 32 _ (by omega) (by omega), hg 177 _ (by omega) (by omega)]; exact q6
      · rw [hf 31 _ (by omega) (by omega)]; exact q7
      · rw [hf 32 _ (by omega) (by omega)] at hi
        rw [hf _ i (by omega) (by omega), hg 178 _ (by omega) (by omega)]; exact q8 i hi
  · intro a b ha hb h1 h2
    rw [hh] at h1 h2
    rw [hh, hh, hg 175 a (by omega) (by omega), hg 175 b (by omega) (by omega)]; exact h.inj a b ha hb h1 h2
  · intro n hn; rw [hf 32 n (by omega) (by omega)]; exact h.cC n hn
  · intro n hn; rw [hg 177 n (by omega) (by omega)]; exact h.cM n hn
theorem RSt_r (h : RSt f g TH) (hf : ∀ b j, 20 ≤ b → b ≤ 27 → f' b j = f b j) (hg : ∀ b j, b = 174 ∨ b = 179 ∨ b = 180 → g' b j = g b j) (th : g' 156 35 = g 156 35) (rw' : ∀ h : Nat, h < 14 → (hC f' h = -1 ∧ g' 175 h = -1) ∨ (0 ≤ hC f' h ∧ hC f' h < 15 ∧ 0 ≤ g' 175 h ∧ g' 175 h < 15 ∧ f' 31 (hC f' h).toNat = g' 176 (g' 175 h).toNat ∧ f' 32 (hC f' h).toNat = g' 177 (g' 175 h).toNat ∧ (0 ≤ f' 31 (hC f' h).toNat ∧ f' 31 (hC f' h).toNat ≤ 4) ∧ ∀ i : Nat, (i : Int) < f' 32 (hC f' h).toNat → f' (34 + (hC f' h).toNat) i = g' 178 (12 * (g' 175 h).toNat + i))) (inj : ∀ h h' : Nat, h < 14 → h' < 14 → 0 ≤ hC f' h → 0 ≤ hC f' h' → (hC f' h = hC f' h' ↔ g' 175 h = g' 175 h')) (cC : ∀ n : Nat, n < 15 → 0 ≤ f' 32 n ∧ f' 32 n ≤ 12) (cM : ∀ n : Nat, n < 15 → 0 ≤ g' 177 n ∧ g' 177 n ≤ 12) : RSt f' g' TH := by
  refine ⟨by rw [th]; exact h.th, h.tl, ?_, ?_, ?_, rw', inj, cC, cM⟩
  · intro k hk; rw [hf 20 k (by omega) (by omega), hf 21 k (by omega) (by omega), hg 174 k (by omega)]; exact h.nm k hk
  · intro s hs; rw [hf 27 s (by omega) (by omega), hg 179 s (by omega)]; exact h.hg s hs
  · intro s i hs hi
    rw [hf 27 s (by omega) (by omega)] at hi
    rw [hf (23 + s) i (by omega) (by omega), hg 180 _ (by omega)]; exact h.pl s i hs hi
theorem RSt_bring {k : Nat} {v : Int} (h : RSt f g TH) (hk : k < 26) : RSt (bgN f k v) (mset (mset g 156 35 ((TH ||| 2 ^ k : Nat) : Int)) 174 k v) (TH ||| 2 ^ k) := by
  refine RSt_n h ?_ ?_ ?_ (seen_1 h.tl hk) (fun j hj => ?_)
  · intro b j h1 h2; unfold bgN; rw [rd, if_neg (by omega), rd, if_neg (by omega)]
  · intro b j h1 h2; rw [rd, if_neg (by omega), rd, if_neg (by omega)]
  · rw [rd, if_neg (by omega), rd, if_pos (by simp)]
  · rw [or_t]
    by_cases e : j = k
    · subst e
      right
      unfold bgN
      refine ⟨?_, by simp, ?_⟩
      · rw [rd, if_neg (by omega), rd, if_pos (by simp)]
      · rw [rd, if_pos (by simp), rd, if_pos (by simp)]
    · have : decide (k = j) = false := by simp; omega
      rw [this, Bool.or_false]
      unfold bgN
      simp only [rd]
      rw [if_neg (by omega), if_neg (by omega), if_neg (by omega), if_neg (by omega), if_neg (by omega), if_neg (by omega)]
      exact h.nm j hj
/-- a name that is there gets another value -/
theorem RSt_val {k : Nat} {v : Int} (h : RSt f g TH) (hk : k < 26) (h1 : f 20 k = 1) : RSt (bgN f k v) (mset g 174 k v) TH := by
  have hb : TH.testBit k = true := by
    rcases h.nm k hk with q | q
    · omega
    · exact q.2.1
  refine RSt_n h ?_ ?_ ?_ h.tl (fun j hj => ?_)
  · intro b j h1 h2; unfold bgN; rw [rd, if_neg (by omega), rd, if_neg (by omega)]
  · intro b j h1 h2; rw [rd, if_neg (by omega)]
  · rw [rd, if_neg (by omega)]; exact h.th
  · by_cases e : j = k
    · subst e
      right
      unfold bgN
      refine ⟨?_, hb, ?_⟩
      · rw [rd, if_neg (by omega), rd, if_pos (by simp)]
      · rw [rd, if_pos (by simp), rd, if_pos (by simp)]
    · unfold bgN
      simp only [rd]
      rw [if_neg (by omega), if_neg (by omega), if_neg (by omega), if_neg (by omega), if_neg (by omega)]
      exact h.nm j hj
theorem RSt_remove {k : Nat} {v : Int} (h : RSt f g TH) (hk : k < 26) : RSt (mset f 20 k 0) (mset (mset g 156 35 ((TH &&& (2 ^ k ^^^ 4294967295) : Nat) : Int)) 174 k v) (TH &&& (2 ^ k ^^^ 4294967295)) := by
  have hle : TH &&& (2 ^ k ^^^ 4294967295) ≤ TH := Nat.and_le_left
  refine RSt_n h ?_ ?_ ?_ (by have := h.tl; omega) (fun j hj => ?_)
  · intro b j h1 h2; rw [rd, if_neg (by omega)]
  · intro b j h1 h2; rw [rd, if_neg (by omega), rd, if_neg (by omega)]
  · rw [rd, if_neg (by omega), rd, if_pos (by simp)]
  · rw [clr_t hj]
    by_cases e : j = k
    · subst e
      left
      refine ⟨by rw [rd, if_pos (by simp)], by simp⟩
    · have : decide (k = j) = false := by simp; omega
      rw [this, Bool.not_false, Bool.and_true]
      simp only [rd]
      rw [if_neg (by omega), if_neg (by omega), if_neg (by omega), if_neg (by omega)]
      exact h.nm j hj
def puM (g : Mem) (k s : Nat) : Mem := mset (mset (mset g 180 (30 * s + (g 179 s).toNat) (g 174 k)) 179 s (g 179 s + 1)) 174 k 0
def poM (g : Mem) (k s : Nat) : Mem := mset (mset g 179 s (g 179 s - 1)) 174 k (g 180 (30 * s + (g 179 s - 1).toNat))
theorem RSt_push {k s : Nat} (h : RSt f g TH) (hk : k < 26) (hs : s < 4) (h1 : f 20 k = 1) (h30 : ¬ f 27 s = 30) : RSt (puC f k s) (puM g k s) TH := by
  have hh := h.hg s hs
  have e27 : ∀ z, puC f k s 27 z = if z = s then f 27 s + 1 else f 27 z := by
    intro z
    have n1 : ¬ 27 = 23 + s := by omega
    unfold puC bgN
    simp only [rd, Nat.reduceEqDiff, false_and, if_false, n1, true_and]
  have e179 : ∀ z, puM g k s 179 z = if z = s then g 179 s + 1 else g 179 z := by
    intro z
    unfold puM
    simp only [rd, Nat.reduceEqDiff, false_and, if_false, true_and]
  have epl : ∀ z i, z < 4 → puC f k s (23 + z) i = if z = s ∧ i = (f 27 s).toNat then f 21 k else f (23 + z) i := by
    intro z i hz
    have n1 : ¬ 23 + z = 20 := by omega
    have n2 : ¬ 23 + z = 21 := by omega
    have n3 : ¬ 23 + z = 27 := by omega
    unfold puC bgN
    simp only [rd, n1, n2, n3, false_and, if_false, Nat.add_left_cancel_iff]
  have e180 : ∀ q, puM g k s 180 q = if q = 30 * s + (g 179 s).toNat then g 174 k else g 180 q := by
    intro q
    unfold puM
    simp only [rd, Nat.reduceEqDiff, false_and, if_false, true_and]
  have hb : TH.testBit k = true ∧ f 21 k = g 174 k := by
    rcases h.nm k hk with q | q
    · omega
    · exact q.2
  refine RSt_s h ?_ ?_ ?_ ?_ ?_ ?_
  · intro b j q1 q2; unfold puC bgN; simp only [rd]; rw [if_neg (by omega), if_neg (by omega), if_neg (by omega), if_neg (by omega)]
  · intro b j q1 q2; unfold puM; simp only [rd]; rw [if_neg (by omega), if_neg (by omega), if_neg (by omega)]
  · unfold puM; simp only [rd]; rw [if_neg (by omega), if_neg (by omega), if_neg (by omega)]; exact h.th
  · intro j hj
    by_cases e : j = k
    · subst e
      right
      refine ⟨?_, hb.1, ?_⟩
      · unfold puC bgN; rw [rd, if_neg (by omega), rd, if_pos (by simp)]
      · unfold puC bgN puM; rw [rd, if_pos (by simp), rd, if_pos (by simp)]
    · unfold puC bgN puM
      simp only [rd]
      rw [if_neg (by omega), if_neg (by omega), if_neg (by omega), if_neg (by omega), if_neg (by omega), if_neg (by omega), if_neg (by omega), if_neg (by omega), if_neg (by omega), if_neg (by omega), if_neg (by omega)]
      exact h.nm j hj
  · intro z hz
    have hq := h.hg z hz
    rw [e27 z, e179 z]
    split
    · omega
    · exact hq
  · intro z i hz hi
    have hq := h.hg z hz
    rw [e27 z] at hi
    rw [epl z i hz, e180]
    by_cases e : z = s
    · subst e
      rw [if_pos rfl] at hi
      by_cases e2 : i = (f 27 z).toNat
      · rw [if_pos ⟨rfl, e2⟩, if_pos (by omega)]; exact hb.2
      · rw [if_neg (fun hh => e2 hh.2), if_neg (by omega)]
        exact h.pl z i hz (by omega)
    · rw [if_neg e] at hi
      rw [if_neg (fun hh => e hh.1), if_neg (by omega)]
      exact h.pl z i hz hi
theorem RSt_pop {k s : Nat} (h : RSt f g TH) (hk : k < 26) (hs : s < 4) (h1 : f 20 k = 1) (h30 : ¬ f 27 s = 0) : RSt (poC f k s) (poM g k s) TH := by
  have hh := h.hg s hs
  have e27 : ∀ z, poC f k s 27 z = if z = s then f 27 s - 1 else f 27 z := by
    intro z
    unfold poC bgN
    simp only [rd, Nat.reduceEqDiff, false_and, if_false, true_and]
  have e179 : ∀ z, poM g k s 179 z = if z = s then g 179 s - 1 else g 179 z := by
    intro z
    unfold poM
    simp only [rd, Nat.reduceEqDiff, false_and, if_false, true_and]
  have epl : ∀ z i, z < 4 → poC f k s (23 + z) i = f (23 + z) i := by
    intro z i hz
    have n1 : ¬ 23 + z = 20 := by omega
    have n2 : ¬ 23 + z = 21 := by omega
    have n3 : ¬ 23 + z = 27 := by omega
    unfold poC bgN
    simp only [rd, n1, n2, n3, false_and, if_false]
  have e180 : ∀ q, poM g k s 180 q = g 180 q := by
    intro q
    unfold poM
    simp only [rd, Nat.reduceEqDiff, false_and, if_false]
  have hb : TH.testBit k = true ∧ f 21 k = g 174 k := by
    rcases h.nm k hk with q | q
    · omega
    · exact q.2
  have hp := h.pl s (f 27 s - 1).toNat hs (by omega)
  refine RSt_s h ?_ ?_ ?_ ?_ ?_ ?_
  · intro b j q1 q2; unfold poC bgN; simp only [rd]; rw [if_neg (by omega), if_neg (by omega), if_neg (by omega)]
  · intro b j q1 q2; unfold poM; simp only [rd]; rw [if_neg (by omega), if_neg (by omega)]
  · unfold poM; simp only [rd]; rw [if_neg (by omega), if_neg (by omega)]; exact h.th
  · intro j hj
    by_cases e : j = k
    · subst e
      right
      refine ⟨?_, hb.1, ?_⟩
      · unfold poC bgN; rw [rd, if_neg (by omega), rd, if_pos (by simp)]
      · unfold poC bgN poM; rw [rd, if_pos (by simp), rd, if_pos (by simp), hp, hh.1]
    · unfold poC bgN poM
      simp only [rd]
      rw [if_neg (by omega), if_neg (by omega), if_neg (by omega), if_neg (by omega), if_neg (by omega), if_neg (by omega), if_neg (by omega), if_neg (by omega)]
      exact h.nm j hj
  · intro z hz
    have hq := h.hg z hz
    rw [e27 z, e179 z]
    split
    · omega
    · exact hq
  · intro z i hz hi
    have hq := h.hg z hz
    rw [e27 z] at hi
    rw [epl z i hz, e180]
    refine h.pl z i hz ?_
    split at hi
    · rename_i e; subst e; omega
    · exact hi
end
