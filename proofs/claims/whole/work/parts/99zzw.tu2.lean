/-! TURNED trees: what they keep -/
theorem kF_name : ∀ (b : Nat) (x : FF b), wF b x → ∀ (a : Int) (l m : List Int), kF b x ++ m = a :: l → kName a = true → kF b x = [a] ∧ m = l := by
  have hL : ∀ (x : Int ⊕ Int), wL x → ∀ (a : Int) (l m : List Int), kL x ++ m = a :: l → kName a = true → kL x = [a] ∧ m = l := by
    intro x hx a l m h ha
    match x, hx, h with
    | .inl v, hx, h =>
      have h' : v :: m = a :: l := h
      obtain ⟨h1, h2⟩ := List.cons.inj h'
      subst h1
      exact ⟨rfl, h2⟩
    | .inr r, hx, h =>
      have h' : 35 :: (r :: m) = a :: l := h
      obtain ⟨h1, h2⟩ := List.cons.inj h'
      subst h1
      exact absurd ha (by decide)
  intro b x hx a l m h ha
  have na : ∀ v : Int, v = a → ¬ kName v = true → False := fun v e hv => hv (by rw [e]; exact ha)
  match b, x, hx, h with
  | 0, x, hx, h => exact hL x hx a l m h ha
  | b + 1, .inl x, hx, h => exact hL x hx a l m h ha
  | b + 1, .inr (.inl x), hx, h =>
    have h' : 45 :: (kF b x ++ m) = a :: l := h
    exact (na 45 (List.cons.inj h').1 (by decide)).elim
  | b + 1, .inr (.inr (.inl (r, e))), hx, h =>
    have h' : r :: (91 :: (kE (kF b) e ++ [93]) ++ m) = a :: l := h
    exact (na r (List.cons.inj h').1 (fun hv => by have h2 : kRow r = true := hx.1; unfold kName at hv; unfold kRow at h2; simp at hv h2; omega)).elim
  | b + 1, .inr (.inr (.inr (.inl e))), hx, h =>
    have h' : 40 :: ((kE (kF b) e ++ [41]) ++ m) = a :: l := h
    exact (na 40 (List.cons.inj h').1 (by decide)).elim
  | b + 1, .inr (.inr (.inr (.inr (q, e1, e2)))), hx, h =>
    have h' : 40 :: ((kE (kF b) e1 ++ q :: (kE (kF b) e2 ++ [41])) ++ m) = a :: l := h
    exact (na 40 (List.cons.inj h').1 (by decide)).elim
section
variable {c : Nat}
theorem pl_e {n : Int} (e : EE c) (hw : wX e) (hn : kName n = true) (h : plQ n (kX e) = true) : ∃ (s : Int) (y : Ter (FF c)) (rs : List (Int × Ter (FF c))), e.2 = (s, y) :: rs ∧ kX e = n :: s :: kX ((y, rs) : EE c) ∧ kSum s = true ∧ ¬ s = 124 ∧ wX ((y, rs) : EE c) := by
  obtain ⟨⟨F0, l0⟩, rest⟩ := e
  have hk : kX (((F0, l0), rest) : EE c) = kF c F0 ++ (l0.flatMap (fun p => p.1 :: kF c p.2) ++ rest.flatMap (fun p => p.1 :: kT (kF c) p.2)) := by
    show (kF c F0 ++ l0.flatMap (fun p => p.1 :: kF c p.2)) ++ rest.flatMap (fun p => p.1 :: kT (kF c) p.2) = _
    rw [List.append_assoc]
  cases hkx : kX (((F0, l0), rest) : EE c) with
  | nil => rw [hkx] at h; exact absurd (show false = true from h) (by decide)
  | cons a l1 =>
    cases l1 with
    | nil => rw [hkx] at h; exact absurd (show false = true from h) (by decide)
    | cons s l =>
      rw [hkx] at h
      have h' : (decide (a = n ∧ kSum s = true ∧ ¬ s = 124 ∧ ¬ n ∈ l) && one1 s 0 l) = true := h
      rw [Bool.and_eq_true, decide_eq_true_eq] at h'
      obtain ⟨⟨h1, h2, h3, _⟩, _⟩ := h'
      subst h1
      rw [hk] at hkx
      obtain ⟨k1, k2⟩ := kF_name c F0 hw.1.1 a (s :: l) _ hkx hn
      match l0, hw, k2 with
      | (p, q) :: l0, hw, k2 =>
        have h4 : p :: _ = s :: l := k2
        have h5 := (List.cons.inj h4).1
        have h6 : kPro p = true := (hw.1.2 (p, q) (List.mem_cons_self ..)).1
        exfalso
        rw [h5] at h6
        unfold kSum at h2; unfold kPro at h6; simp at h2 h6; omega
      | [], hw, k2 =>
        match rest, hw, k2 with
        | [], hw, k2 => exact absurd k2 (by simp)
        | (p, y) :: rs, hw, k2 =>
          have h4 : p :: (kT (kF c) y ++ rs.flatMap (fun p => p.1 :: kT (kF c) p.2)) = s :: l := k2
          obtain ⟨h5, h6⟩ := List.cons.inj h4
          subst h5
          refine ⟨p, y, rs, rfl, ?_, h2, h3, (hw.2 (p, y) (List.mem_cons_self ..)).2, fun q hq => hw.2 q (List.mem_cons_of_mem _ hq)⟩
          show a :: p :: l = a :: p :: (kT (kF c) y ++ rs.flatMap (fun p => p.1 :: kT (kF c) p.2))
          rw [h6]
theorem tTr_k (n : Int) : (tTr (c := c) n).flatMap kS = [202, n, 86, 59, 201, n, 61, -1, 59] := by
  show [202, n, 86, 59] ++ ((201 :: n :: 61 :: (kX (lfE c (-1)) ++ [59])) ++ []) = _
  rw [lfE_k]; rfl
theorem tTr_w {n : Int} (hn : kName n = true) : ∀ s ∈ tTr (c := c) n, wS false s := by
  intro s hs
  rcases List.mem_cons.mp hs with rfl | hs
  · exact ⟨rfl, Or.inl rfl, hn, by decide⟩
  · rw [List.mem_singleton.mp hs]
    exact ⟨by rw [if_neg (by decide)]; exact Or.inr rfl, hn, lfE_w (Or.inl (by omega))⟩
/-- the tokens of a set, TURNED -/
def kTu (n : Int) (k : List Int) : List Int := if plQ n k = true then n :: chB (k.getD 1 0) :: (k.drop 2 ++ [59]) else if n ∈ k then [200, 122, 61] ++ (k ++ [59, n, 133, 122, 59, 202, 122, 86, 59, 201, 122, 61, -1, 59]) else [202, n, 86, 59, n, 128] ++ (k ++ [59])
theorem tuS_k {n : Int} (e : EE c) (hw : wX e) (hn : kName n = true) : (tuS n e).flatMap kS = kTu n (kX e) ∧ (∀ s ∈ tuS n e, wS false s) ∧ (kTu n (kX e)).length ≤ (kX e).length + 4 + 5 * (tuS n e).length ∧ wtL (kTu n (kX e)) ≤ wtL (kX e) + 10 + 15 * (tuS n e).length := by
  have w0 : wtL [] = 0 := rfl
  have hwn : wtk n = 2 := by unfold kName at hn; simp at hn; unfold wtk; rw [if_neg (by omega), if_pos (by omega), if_neg (by omega)]
  have c1 : ∀ v : Int, v = 59 ∨ v = 61 ∨ v = 122 ∨ v = 86 ∨ v = -1 → wtk v = 2 := by rintro v (rfl | rfl | rfl | rfl | rfl) <;> decide
  have c2 : wtk 200 = 6 ∧ wtk 201 = 6 ∧ wtk 202 = 5 ∧ wtk 133 = 3 ∧ wtk 128 = 3 := by decide
  by_cases h : plQ n (kX e) = true
  · obtain ⟨s, y, rs, e1, e2, e3, e4, e5⟩ := pl_e e hw hn h
    have hch : wtk (chB s) = 3 := by
      unfold kSum at e3; simp at e3
      have : s = 43 ∨ s = 45 ∨ s = 94 := by omega
      rcases this with rfl | rfl | rfl <;> decide
    have hcr : 128 ≤ chB s ∧ chB s ≤ 132 := by unfold chB; (repeat' split) <;> omega
    have et : tuS n e = [tCh n (chB s) (upX (y, rs))] := by unfold tuS; rw [if_pos h, e1]
    have ek : kTu n (kX e) = n :: chB s :: (kX ((y, rs) : EE c) ++ [59]) := by unfold kTu; rw [if_pos h, e2]; rfl
    rw [ek, et]
    refine ⟨?_, ?_, ?_, ?_⟩
    · show ([n] ++ chB s :: (kX (upX (y, rs)) ++ [59])) ++ [] = _
      rw [upX_k]; simp
    · intro u hu
      rw [List.mem_singleton.mp hu]
      exact ⟨rfl, hn, hcr, upX_w _ e5⟩
    · rw [e2]; simp only [List.length_cons, List.length_append, List.length_nil]; omega
    · rw [e2]; simp only [wtL_c, wtL_a, w0, hwn, hch, c1 59 (by simp), List.length_cons, List.length_nil]; omega
  · by_cases h2 : n ∈ kX e
    · have et : tuS n e = tLe 200 122 (upX e) :: tSw n 122 :: tTr 122 := by unfold tuS; rw [if_neg h, if_pos h2]
      have ek : kTu n (kX e) = [200, 122, 61] ++ (kX e ++ [59, n, 133, 122, 59, 202, 122, 86, 59, 201, 122, 61, -1, 59]) := by unfold kTu; rw [if_neg h, if_pos h2]
      rw [ek, et]
      refine ⟨?_, ?_, ?_, ?_⟩
      · rw [List.flatMap_cons, List.flatMap_cons, tTr_k]
        show (200 :: 122 :: 61 :: (kX (upX e) ++ [59])) ++ (([n] ++ 133 :: ([122] ++ [59])) ++ _) = _
        rw [upX_k]; simp
      · intro u hu
        rcases List.mem_cons.mp hu with rfl | hu
        · exact ⟨by rw [if_neg (by decide)]; exact Or.inl rfl, by decide, upX_w e hw⟩
        · rcases List.mem_cons.mp hu with rfl | hu
          · exact ⟨rfl, hn, (by decide : kName 122 = true)⟩
          · exact tTr_w (by decide) u hu
      · simp only [List.length_cons, List.length_append, List.length_nil, tTr]; omega
      · simp only [wtL_c, wtL_a, w0, hwn, c1 59 (by simp), c1 61 (by simp), c1 122 (by simp), c1 86 (by simp), c1 (-1) (by simp), c2.1, c2.2.1, c2.2.2.1, c2.2.2.2.1, List.length_cons, List.length_nil, tTr]; omega
    · have et : tuS n e = [tPu n, tCh n 128 (upX e)] := by unfold tuS; rw [if_neg h, if_neg h2]
      have ek : kTu n (kX e) = [202, n, 86, 59, n, 128] ++ (kX e ++ [59]) := by unfold kTu; rw [if_neg h, if_neg h2]
      rw [ek, et]
      refine ⟨?_, ?_, ?_, ?_⟩
      · show [202, n, 86, 59] ++ (([n] ++ 128 :: (kX (upX e) ++ [59])) ++ []) = _
        rw [upX_k]; simp
      · intro u hu
        rcases List.mem_cons.mp hu with rfl | hu
        · exact ⟨rfl, Or.inl rfl, hn, (by decide : kStk 86 = true)⟩
        · rw [List.mem_singleton.mp hu]
          exact ⟨rfl, hn, by omega, upX_w e hw⟩
      · simp only [List.length_cons, List.length_append, List.length_nil]; omega
      · simp only [wtL_c, wtL_a, w0, hwn, c1 59 (by simp), c1 86 (by simp), c2.2.2.1, c2.2.2.2.2, List.length_cons, List.length_nil]; omega
end
