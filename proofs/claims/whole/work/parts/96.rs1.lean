/-! The state of both: names, stacks, rows -/
def hC (f : Mem) (h : Nat) : Int := if h < 6 then f 29 h else f 30 (h - 6)
theorem hC_r {f : Mem} {r : Nat} (h : r < 6) : hC f r = f 29 r := by unfold hC; rw [if_pos h]
theorem hC_p {f : Mem} {p : Nat} : hC f (6 + p) = f 30 p := by unfold hC; rw [if_neg (by omega), show 6 + p - 6 = p by omega]
abbrev RSt (f g : Mem) (TH : Nat) : Prop := (g 156 35 = (TH : Int)) ∧ (TH < 67108864) ∧ (∀ k : Nat, k < 26 → (f 20 k = 0 ∧ TH.testBit k = false) ∨ (f 20 k = 1 ∧ TH.testBit k = true ∧ f 21 k = g 174 k)) ∧ (∀ s : Nat, s < 4 → f 27 s = g 179 s ∧ 0 ≤ f 27 s ∧ f 27 s ≤ 30) ∧ (∀ s i : Nat, s < 4 → (i : Int) < f 27 s → f (23 + s) i = g 180 (30 * s + i)) ∧ (∀ h : Nat, h < 14 → (hC f h = -1 ∧ g 175 h = -1) ∨ (0 ≤ hC f h ∧ hC f h < 15 ∧ 0 ≤ g 175 h ∧ g 175 h < 15 ∧ f 31 (hC f h).toNat = g 176 (g 175 h).toNat ∧ f 32 (hC f h).toNat = g 177 (g 175 h).toNat ∧ (0 ≤ f 31 (hC f h).toNat ∧ f 31 (hC f h).toNat ≤ 4) ∧ ∀ i : Nat, (i : Int) < f 32 (hC f h).toNat → f (34 + (hC f h).toNat) i = g 178 (12 * (g 175 h).toNat + i))) ∧ (∀ h h' : Nat, h < 14 → h' < 14 → 0 ≤ hC f h → 0 ≤ hC f h' → (hC f h = hC f h' ↔ g 175 h = g 175 h')) ∧ (∀ n : Nat, n < 15 → 0 ≤ f 32 n ∧ f 32 n ≤ 12) ∧ (∀ n : Nat, n < 15 → 0 ≤ g 177 n ∧ g 177 n ≤ 12)
theorem RSt.th {f g : Mem} {TH : Nat} (hSelf : RSt f g TH) : g 156 35 = (TH : Int) := hSelf.1
theorem RSt.tl {f g : Mem} {TH : Nat} (hSelf : RSt f g TH) : TH < 67108864 := hSelf.2.1
theorem RSt.nm {f g : Mem} {TH : Nat} (hSelf : RSt f g TH) : ∀ k : Nat, k < 26 → (f 20 k = 0 ∧ TH.testBit k = false) ∨ (f 20 k = 1 ∧ TH.testBit k = true ∧ f 21 k = g 174 k) := hSelf.2.2.1
theorem RSt.hg {f g : Mem} {TH : Nat} (hSelf : RSt f g TH) : ∀ s : Nat, s < 4 → f 27 s = g 179 s ∧ 0 ≤ f 27 s ∧ f 27 s ≤ 30 := hSelf.2.2.2.1
theorem RSt.pl {f g : Mem} {TH : Nat} (hSelf : RSt f g TH) : ∀ s i : Nat, s < 4 → (i : Int) < f 27 s → f (23 + s) i = g 180 (30 * s + i) := hSelf.2.2.2.2.1
theorem RSt.rw {f g : Mem} {TH : Nat} (hSelf : RSt f g TH) : ∀ h : Nat, h < 14 → (hC f h = -1 ∧ g 175 h = -1) ∨ (0 ≤ hC f h ∧ hC f h < 15 ∧ 0 ≤ g 175 h ∧ g 175 h < 15 ∧ f 31 (hC f h).toNat = g 176 (g 175 h).toNat ∧ f 32 (hC f h).toNat = g 177 (g 175 h).toNat ∧ (0 ≤ f 31 (hC f h).toNat ∧ f 31 (hC f h).toNat ≤ 4) ∧ ∀ i : Nat, (i : Int) < f 32 (hC f h).toNat → f (34 + (hC f h).toNat) i = g 178 (12 * (g 175 h).toNat + i)) := hSelf.2.2.2.2.2.1
theorem RSt.inj {f g : Mem} {TH : Nat} (hSelf : RSt f g TH) : ∀ h h' : Nat, h < 14 → h' < 14 → 0 ≤ hC f h → 0 ≤ hC f h' → (hC f h = hC f h' ↔ g 175 h = g 175 h') := hSelf.2.2.2.2.2.2.1
theorem RSt.cC {f g : Mem} {TH : Nat} (hSelf : RSt f g TH) : ∀ n : Nat, n < 15 → 0 ≤ f 32 n ∧ f 32 n ≤ 12 := hSelf.2.2.2.2.2.2.2.1
theorem RSt.cM {f g : Mem} {TH : Nat} (hSelf : RSt f g TH) : ∀ n : Nat, n < 15 → 0 ≤ g 177 n ∧ g 177 n ≤ 12 := hSelf.2.2.2.2.2.2.2.2
/-- what Worth keeps for itself; what the reference's values keep for themselves -/
def FX (f f' : Mem) : Prop := ∀ b j, ¬ (b = 149 ∨ b = 150) → f' b j = f b j
def FY (g g' : Mem) : Prop := ∀ b j, ¬ (b = 181 ∨ (b = 156 ∧ 44 ≤ j ∧ j ≤ 53)) → g' b j = g b j
theorem FX_refl {f : Mem} : FX f f := fun _ _ _ => rfl
theorem FY_refl {f : Mem} : FY f f := fun _ _ _ => rfl
theorem FX_tr {f f1 f2 : Mem} (h : FX f f1) (h' : FX f1 f2) : FX f f2 := fun b j hh => (h' b j hh).trans (h b j hh)
theorem FY_tr {f f1 f2 : Mem} (h : FY f f1) (h' : FY f1 f2) : FY f f2 := fun b j hh => (h' b j hh).trans (h b j hh)
theorem FX_5 {f f' : Mem} (h : FW5 f f') : FX f f' := fun b j hh => h b j (by omega)
theorem FY_5 {g g' : Mem} (h : FM5 g g') : FY g g' := fun b j hh => h b j (by omega)
theorem FY_P {g g' : Mem} (h : FMP g g') : FY g g' := fun b j hh => h b j (by omega)
theorem FX_0 {f : Mem} : FX f (wo0 f) := fun b j hh => by
  simp only [wo0, rd]; rw [if_neg (by omega), if_neg (by omega), if_neg (by omega), zfl_o (by omega)]
theorem FY_0 {g : Mem} : FY g (sn0 g) := fun b j hh => by
  unfold sn0; rw [zfl_o (by omega), rd, if_neg (by omega), rd, if_neg (by omega)]
theorem hC_FX {f f' : Mem} (h : FX f f') (k : Nat) : hC f' k = hC f k := by
  unfold hC; rw [h 29 _ (by omega), h 30 _ (by omega)]
theorem RSt_fr {f f' g g' : Mem} {TH : Nat} (h : RSt f g TH) (hf : FX f f') (hg : FY g g') : RSt f' g' TH := by
  refine ⟨?_, h.tl, ?_, ?_, ?_, ?_, ?_, ?_, ?_⟩
  · rw [hg 156 35 (by omega)]; exact h.th
  · intro k hk; rw [hf 20 k (by omega), hf 21 k (by omega), hg 174 k (by omega)]; exact h.nm k hk
  · intro s hs; rw [hf 27 s (by omega), hg 179 s (by omega)]; exact h.hg s hs
  · intro s i hs hi
    rw [hf 27 s (by omega)] at hi
    rw [hf (23 + s) i (by omega), hg 180 _ (by omega)]; exact h.pl s i hs hi
  · intro k hk
    have := h.rw k hk
    rw [hC_FX hf, hg 175 k (by omega)]
    rcases this with q | ⟨q1, q2, q3, q4, q5, q6, q7, q8⟩
    · exact Or.inl q
    · refine Or.inr ⟨q1, q2, q3, q4, ?_, ?_, ?_, fun i hi => ?_⟩
      · rw [hf 31 _ (by omega), hg 176 _ (by omega)]; exact q5
      · rw [hf 32 _ (by omega), hg 177 _ (by omega)]; exact q6
      · rw [hf 31 _ (by omega)]; exact q7
      · rw [hf 32 _ (by omega)] at hi
        rw [hf _ i (by omega), hg 178 _ (by omega)]; exact q8 i hi
  · intro a b ha hb h1 h2
    rw [hC_FX hf] at h1 h2
    rw [hC_FX hf, hC_FX hf, hg 175 a (by omega), hg 175 b (by omega)]; exact h.inj a b ha hb h1 h2
  · intro n hn; rw [hf 32 n (by omega)]; exact h.cC n hn
  · intro n hn; rw [hg 177 n (by omega)]; exact h.cM n hn
/-- what an E sees of the class -/
def envC (f : Mem) (br : Int → Int → Bool) : Env := (fun k => if f 20 k.toNat = 1 then some (f 21 k.toNat) else none, fun r => if f 29 r.toNat = -1 then none else some (f 32 (f 29 r.toNat).toNat), fun r i => f (34 + (f 29 r.toNat).toNat) i.toNat, br)
def brN : Int → Int → Bool := fun _ _ => false
def brP (f : Mem) : Pl → Int → Int → Bool
  | .inl _ => brN
  | .inr (r, i) => fun r' i' => decide (f 29 r'.toNat = f 29 r.toNat ∧ i' = i)
theorem envC_FX {f f' : Mem} {br : Int → Int → Bool} (h : FX f f') (hr : ∀ r : Int, f 29 r.toNat < 15) : envC f' br = envC f br := by
  unfold envC
  refine Prod.ext ?_ (Prod.ext ?_ (Prod.ext ?_ rfl))
  · funext k; show (if f' 20 k.toNat = 1 then some (f' 21 k.toNat) else none) = _; rw [h 20 _ (by omega), h 21 _ (by omega)]
  · funext r; show (if f' 29 r.toNat = -1 then none else some (f' 32 (f' 29 r.toNat).toNat)) = _; rw [h 29 _ (by omega), h 32 _ (by omega)]
  · funext r i; show f' (34 + (f' 29 r.toNat).toNat) i.toNat = _
    have := hr r
    rw [h 29 _ (by omega), h _ _ (by omega)]
section
variable {f g : Mem} {TH : Nat}
theorem EnC_env {f1 : Mem} {br : Int → Int → Bool} (h : RSt f g TH) (hf : FX f f1) (hb : ∀ r i : Nat, r < 6 → 0 ≤ f 29 r → (i : Int) < 12 → br r i = decide (f1 149 4 = 26 + f 29 r * 12 + i)) : EnC f1 (envC f br) := by
  refine ⟨fun k hk => ?_, fun r hr => ?_, fun n hn => ?_, fun r i hr h0 hi => ?_, fun r i hr h0 hi => ?_⟩
  · show (f1 20 k = 0 ∧ (if f 20 k = 1 then some (f 21 k) else none) = none) ∨ (f1 20 k = 1 ∧ (if f 20 k = 1 then some (f 21 k) else none) = some (f1 21 k))
    rw [hf 20 k (by omega), hf 21 k (by omega)]
    rcases h.nm k hk with q | q
    · left; rw [q.1]; simp
    · right; rw [q.1]; simp
  · show (f1 29 r = -1 ∧ (if f 29 r = -1 then none else some (f 32 (f 29 r).toNat)) = none) ∨ (0 ≤ f1 29 r ∧ f1 29 r < 15 ∧ (if f 29 r = -1 then none else some (f 32 (f 29 r).toNat)) = some (f1 32 (f1 29 r).toNat))
    rw [hf 29 r (by omega), hf 32 _ (by omega)]
    have := h.rw r (by omega)
    rw [hC_r hr] at this
    rcases this with q | q
    · left; rw [q.1]; simp
    · right; refine ⟨q.1, q.2.1, ?_⟩; rw [if_neg (by omega)]
  · rw [hf 32 n (by omega)]; exact h.cC n hn
  · show f (34 + (f 29 r).toNat) i = f1 (34 + (f1 29 r).toNat) i
    have := h.rw r (by omega)
    rw [hC_r hr] at this
    rw [hf 29 r (by omega), hf _ i (by omega)]
  · show br r i = _
    rw [hf 29 r (by omega)] at h0 ⊢
    exact hb r i hr h0 hi
theorem EnM_env {g1 : Mem} {br : Int → Int → Bool} (h : RSt f g TH) (hg : FY g g1) (hb : ∀ r i : Nat, r < 6 → 0 ≤ f 29 r → (i : Int) < 12 → br r i = decide (g1 156 49 = g 175 r ∧ g1 156 50 = i)) : EnM g1 (envC f br) TH := by
  refine ⟨?_, h.tl, fun k hk => ?_, fun r hr => ?_, fun n hn => ?_, fun r i hr h0 hi => ?_, fun r i hr h0 hi => ?_⟩
  · rw [hg 156 35 (by omega)]; exact h.th
  · show (TH.testBit k = false ∧ (if f 20 k = 1 then some (f 21 k) else none) = none) ∨ (TH.testBit k = true ∧ (if f 20 k = 1 then some (f 21 k) else none) = some (g1 174 k))
    rw [hg 174 k (by omega)]
    rcases h.nm k hk with q | q
    · left; rw [q.1]; exact ⟨q.2, by simp⟩
    · right; rw [q.1, q.2.2]; exact ⟨q.2.1, by simp⟩
  · show (g1 175 r = -1 ∧ (if f 29 r = -1 then none else some (f 32 (f 29 r).toNat)) = none) ∨ (0 ≤ g1 175 r ∧ g1 175 r < 15 ∧ (if f 29 r = -1 then none else some (f 32 (f 29 r).toNat)) = some (g1 177 (g1 175 r).toNat))
    rw [hg 175 r (by omega), hg 177 _ (by omega)]
    have := h.rw r (by omega)
    rw [hC_r hr] at this
    rcases this with q | q
    · left; rw [q.1]; exact ⟨q.2, by simp⟩
    · right; refine ⟨q.2.2.1, q.2.2.2.1, ?_⟩; rw [if_neg (by omega), q.2.2.2.2.2.1]
  · rw [hg 177 n (by omega)]; exact h.cM n hn
  · show f (34 + (f 29 r).toNat) i = g1 178 (12 * (g1 175 r).toNat + i)
    have := h.rw r (by omega)
    rw [hC_r hr] at this
    rw [hg 175 r (by omega)] at h0 hi ⊢
    rw [hg 177 _ (by omega)] at hi
    rw [hg 178 _ (by omega)]
    rcases this with q | q
    · omega
    · exact q.2.2.2.2.2.2.2 i (by rw [q.2.2.2.2.2.1]; exact hi)
  · show br r i = _
    rw [hg 175 r (by omega)] at h0 ⊢
    have := h.rw r (by omega)
    rw [hC_r hr] at this
    exact hb r i hr (by omega) hi
theorem wo0_4 : (wo0 f) 149 4 = -1 := by simp only [wo0, rd]; rw [if_neg (by omega), if_pos (by simp)]
theorem wo0_7 : (wo0 f) 149 7 = 0 := by simp only [wo0, rd]; rw [if_pos (by simp)]
theorem WS_0 : WS (wo0 f) 0 (fun _ => 0) := by
  refine ⟨?_, by omega, fun k hk => ⟨?_, by show (0 : Nat) < 4096; omega⟩⟩
  · simp only [wo0, rd]; rw [if_neg (by omega), if_neg (by omega), if_pos (by simp)]; rfl
  · simp only [wo0, rd]; rw [if_neg (by omega), if_neg (by omega), if_neg (by omega), zfl_v hk]; rfl
theorem WM_0 : WM (sn0 g) 0 (fun _ => 0) := by
  unfold sn0
  refine ⟨?_, by omega, fun k hk => ⟨?_, by show (0 : Nat) < 4096; omega⟩⟩
  · rw [zfl_o (by omega), rd, if_neg (by omega), rd, if_pos (by simp)]; rfl
  · rw [zfl_v (by omega)]; rfl
theorem EnC_0 (h : RSt f g TH) : EnC (wo0 f) (envC f brN) := EnC_env h FX_0 (fun r i hr h0 hi => by
  rw [wo0_4]; show false = _; rw [eq_comm, decide_eq_false_iff_not]; omega)
theorem EnM_0 (h : RSt f g TH) : EnM (sn0 g) (envC f brN) TH := EnM_env h FY_0 (fun r i hr h0 hi => by
  have := h.rw r (by omega)
  rw [hC_r hr] at this
  have e : sn0 g 156 49 = -1 := by unfold sn0; rw [zfl_o (by omega), rd, if_pos (by simp)]
  rw [e]; show false = _; rw [eq_comm, decide_eq_false_iff_not]; omega)
end
