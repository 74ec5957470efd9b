/-! TURNED blocks: what they keep -/
def kWhn (cn : Int) (E A B : List Int) : List Int := [200, cn, 61, 40] ++ (E ++ ([61, -1, 41, 59, 208, 40, cn, 61, -1, 41, 123] ++ (A ++ ([125, 209, 123] ++ (B ++ [125, 210, 40, cn, 61, -1, 41, 59, 202, cn, 86, 59, 201, cn, 61, -1, 59])))))
def kWhl (cn : Int) (E A : List Int) : List Int := [200, cn, 61, -1, 59, 211, 40, cn, 61, -1, 41, 123, 125, 212, 123] ++ (A ++ ([cn, 128, -2, 59, 125, 213, 40] ++ (E ++ [61, -1, 41, 59, 202, cn, 86, 59, 201, cn, 61, -1, 59])))
def kt1 {c : Nat} {T : Type} (ku : T → List Int) (cn : Int) : SS c ⊕ CC c T → List Int
  | .inl (.inl (_, n, e)) => kTu n (kX e)
  | .inr (.inr (.inl (e, a, b))) => kWhn cn (kX e) (ku a) (ku b)
  | .inr (.inr (.inr (e, a))) => kWhl cn (kX e) (ku a)
  | _ => []
def nt1 {c : Nat} {T : Type} (nu : T → Nat) : SS c ⊕ CC c T → Nat
  | .inl (.inl (_, n, e)) => (tuS n e).length
  | .inr (.inr (.inl (_, a, b))) => nu a + nu b + 6
  | .inr (.inr (.inr (_, a))) => nu a + 7
  | _ => 0
def TuP {T U : Type} (kb : T → List Int) (wb : U → Prop) (kb' : U → List Int) (nb' : U → Nat) (x : T) (y : U) : Prop := wb y ∧ (kb' y).length ≤ (kb x).length + 5 * nb' y ∧ wtL (kb' y) ≤ wtL (kb x) + 15 * nb' y
section
variable {c : Nat} {T U : Type} {kb : T → List Int} {wb : T → Prop} {kb' : U → List Int} {nb' : U → Nat} {wb' : U → Prop} {tb : T → U} {ap : U → SS (c + 1) → U} {em : T → U} {cn : Int}
theorem mp_k (l : List (SS (c + 1))) : (l.map (Sum.inl (β := CC (c + 1) U))).flatMap (k1 kb') = l.flatMap kS := by
  rw [List.flatMap_map]; rfl
theorem mp_n (l : List (SS (c + 1))) : ((l.map (Sum.inl (β := CC (c + 1) U))).map (n1 nb')).sum = l.length := by
  induction l with
  | nil => rfl
  | cons s l ih => rw [List.map_cons, List.map_cons, List.sum_cons, ih, List.length_cons]; show 1 + l.length = _; omega
theorem tu1_p (hb : ∀ x, wb x → TuP kb wb' kb' nb' x (tb x)) (hak : ∀ y s, kb' (ap y s) = kb' y ++ kS s) (han : ∀ y s, nb' (ap y s) = nb' y + 1) (haw : ∀ y s, wb' y → wS false s → wb' (ap y s)) (hek : ∀ x, kb' (em x) = []) (hen : ∀ x, nb' (em x) = 0) (hew : ∀ x, wb' (em x)) (hcn : kName cn = true) (s : SS c ⊕ CC c T) (hw : w1 true wb s) : (∀ u ∈ tu1 tb ap em cn s, w1 false wb' u) ∧ (tu1 tb ap em cn s).flatMap (k1 kb') = kt1 (fun x => kb' (tb x)) cn s ∧ ((tu1 tb ap em cn s).map (n1 nb')).sum = nt1 (fun x => nb' (tb x)) s ∧ (kt1 (fun x => kb' (tb x)) cn s).length ≤ (k1 kb s).length + 5 * nt1 (fun x => nb' (tb x)) s ∧ wtL (kt1 (fun x => kb' (tb x)) cn s) ≤ wtL (k1 kb s) + 15 * nt1 (fun x => nb' (tb x)) s := by
  have w0 : wtL [] = 0 := rfl
  have hwn : wtk cn = 2 := by unfold kName at hcn; simp at hcn; unfold wtk; rw [if_neg (by omega), if_pos (by omega), if_neg (by omega)]
  have c1 : ∀ v : Int, v = 59 ∨ v = 61 ∨ v = 40 ∨ v = 86 ∨ v = -1 ∨ v = -2 ∨ v = 41 ∨ v = 123 ∨ v = 125 → wtk v = 2 := by rintro v (rfl | rfl | rfl | rfl | rfl | rfl | rfl | rfl | rfl) <;> decide
  have c2 : wtk 200 = 6 ∧ wtk 201 = 6 ∧ wtk 202 = 5 ∧ wtk 208 = 3 ∧ wtk 209 = 5 ∧ wtk 210 = 3 ∧ wtk 211 = 5 ∧ wtk 212 = 5 ∧ wtk 213 = 6 ∧ wtk 214 = 4 ∧ wtk 215 = 6 ∧ wtk 216 = 5 ∧ wtk 128 = 3 := by decide
  obtain ⟨q0, q1, q2, q3, q4, q5, q6, q7, q8, q9, q10, q11, q12⟩ := c2
  have eN : ∀ e : EE c, kX (eqN e) = 40 :: (kX e ++ [61, -1, 41]) := eqN_k
  have hle : wS false (tLe 200 cn (lfE (c + 1) (-1))) := ⟨by rw [if_neg (by decide)]; exact Or.inl rfl, hcn, lfE_w (Or.inl (by omega))⟩
  have hci : wX (eqN (lfE c cn)) := eqN_w _ (lfE_w (Or.inr hcn))
  match s, hw with
  | .inl (.inl (k, n, e)), hw =>
    have hk : k = 214 := by have := hw.1; simpa using this
    obtain ⟨a1, a2, a3, a4⟩ := tuS_k e hw.2.2 hw.2.1
    have hwn' : wtk n = 2 := by have hn := hw.2.1; unfold kName at hn; simp at hn; unfold wtk; rw [if_neg (by omega), if_pos (by omega), if_neg (by omega)]
    refine ⟨fun u hu => ?_, ?_, mp_n _, ?_, ?_⟩
    · obtain ⟨v, hv, rfl⟩ := List.mem_map.mp hu
      exact a2 v hv
    · show ((tuS n e).map Sum.inl).flatMap (k1 kb') = kTu n (kX e)
      rw [mp_k, a1]
    · show (kTu n (kX e)).length ≤ (k :: n :: 61 :: (kX e ++ [59])).length + 5 * (tuS n e).length
      simp only [List.length_cons, List.length_append, List.length_nil]; omega
    · show wtL (kTu n (kX e)) ≤ wtL (k :: n :: 61 :: (kX e ++ [59])) + 15 * (tuS n e).length
      subst hk
      simp only [wtL_c, wtL_a, w0, hwn', q9, c1 61 (by simp), c1 59 (by simp)]; omega
  | .inl (.inr s), hw =>
    exfalso
    match s, hw with
    | .inl (p, o, e), hw => exact absurd hw.1 (by decide)
    | .inr (.inl (p, q)), hw => exact absurd hw.1 (by decide)
    | .inr (.inr (.inl (k, n, s))), hw => exact absurd hw.1 (by decide)
    | .inr (.inr (.inr (.inl (k, r, d, e)))), hw => exact absurd hw.1 (by decide)
    | .inr (.inr (.inr (.inr (k, n)))), hw => exact absurd hw.1 (by decide)
  | .inr (.inl (k, e, x, y, e2)), hw => exact absurd hw.1 (by decide)
  | .inr (.inr (.inl (e, x, y))), hw =>
    obtain ⟨_, he, hx, hy⟩ := hw
    obtain ⟨x1, x2, x3⟩ := hb x hx
    obtain ⟨y1, y2, y3⟩ := hb y hy
    refine ⟨fun u hu => ?_, ?_, ?_, ?_, ?_⟩
    · rcases List.mem_cons.mp hu with rfl | hu
      · exact ⟨by rw [if_neg (by decide)]; exact Or.inl rfl, hcn, eqN_w e he⟩
      · rcases List.mem_cons.mp hu with rfl | hu
        · exact ⟨rfl, Or.inl rfl, hci, x1, y1, hci⟩
        · obtain ⟨v, hv, rfl⟩ := List.mem_map.mp hu
          exact tTr_w hcn v hv
    · show (200 :: cn :: 61 :: (kX (eqN e) ++ [59])) ++ ((208 :: (kX (eqN (lfE c cn)) ++ 123 :: (kb' (tb x) ++ 125 :: (if (208 : Int) = 208 then 209 else 212) :: 123 :: (kb' (tb y) ++ 125 :: (if (208 : Int) = 208 then 210 else 213) :: (kX (eqN (lfE c cn)) ++ [59]))))) ++ ((tTr cn).map Sum.inl).flatMap (k1 kb')) = kWhn cn (kX e) (kb' (tb x)) (kb' (tb y))
      rw [mp_k, tTr_k, eN, eN, lfE_k, if_pos rfl, if_pos rfl]
      simp [kWhn]
    · show 1 + ((nb' (tb x) + nb' (tb y) + 3) + (((tTr cn).map Sum.inl).map (n1 nb')).sum) = nb' (tb x) + nb' (tb y) + 6
      rw [mp_n]; show 1 + ((nb' (tb x) + nb' (tb y) + 3) + 2) = _; omega
    · show (kWhn cn (kX e) (kb' (tb x)) (kb' (tb y))).length ≤ (216 :: (kX e ++ 123 :: (kb x ++ 125 :: 209 :: 123 :: (kb y ++ [125, 59])))).length + 5 * (nb' (tb x) + nb' (tb y) + 6)
      simp only [kWhn, List.length_cons, List.length_append, List.length_nil]; omega
    · show wtL (kWhn cn (kX e) (kb' (tb x)) (kb' (tb y))) ≤ wtL (216 :: (kX e ++ 123 :: (kb x ++ 125 :: 209 :: 123 :: (kb y ++ [125, 59])))) + 15 * (nb' (tb x) + nb' (tb y) + 6)
      simp only [kWhn, wtL_c, wtL_a, w0, hwn, q0, q1, q2, q3, q4, q5, q11, c1 61 (by simp), c1 40 (by simp), c1 41 (by simp), c1 59 (by simp), c1 86 (by simp), c1 (-1) (by simp), c1 123 (by simp), c1 125 (by simp)]; omega
  | .inr (.inr (.inr (e, x))), hw =>
    obtain ⟨_, he, hx⟩ := hw
    obtain ⟨x1, x2, x3⟩ := hb x hx
    have hch : wS false (tCh cn 128 (lfE (c + 1) (-2))) := ⟨rfl, hcn, by omega, lfE_w (Or.inl (by omega))⟩
    have kch : kS (tCh cn 128 (lfE (c + 1) (-2))) = [cn, 128, -2, 59] := by
      show [cn] ++ 128 :: (kX (lfE (c + 1) (-2)) ++ [59]) = _
      rw [lfE_k]; rfl
    refine ⟨fun u hu => ?_, ?_, ?_, ?_, ?_⟩
    · rcases List.mem_cons.mp hu with rfl | hu
      · exact hle
      · rcases List.mem_cons.mp hu with rfl | hu
        · exact ⟨rfl, Or.inr rfl, hci, hew x, haw _ _ x1 hch, eqN_w e he⟩
        · obtain ⟨v, hv, rfl⟩ := List.mem_map.mp hu
          exact tTr_w hcn v hv
    · show (200 :: cn :: 61 :: (kX (lfE (c + 1) (-1)) ++ [59])) ++ ((211 :: (kX (eqN (lfE c cn)) ++ 123 :: (kb' (em x) ++ 125 :: (if (211 : Int) = 208 then 209 else 212) :: 123 :: (kb' (ap (tb x) (tCh cn 128 (lfE (c + 1) (-2)))) ++ 125 :: (if (211 : Int) = 208 then 210 else 213) :: (kX (eqN e) ++ [59]))))) ++ ((tTr cn).map Sum.inl).flatMap (k1 kb')) = kWhl cn (kX e) (kb' (tb x))
      rw [mp_k, tTr_k, eN, eN, lfE_k, lfE_k, hek, hak, kch, if_neg (by decide), if_neg (by decide)]
      simp [kWhl]
    · show 1 + ((nb' (em x) + nb' (ap (tb x) (tCh cn 128 (lfE (c + 1) (-2)))) + 3) + (((tTr cn).map Sum.inl).map (n1 nb')).sum) = nb' (tb x) + 7
      rw [mp_n, hen, han]; show 1 + ((0 + (nb' (tb x) + 1) + 3) + 2) = _; omega
    · show (kWhl cn (kX e) (kb' (tb x))).length ≤ (215 :: (kX e ++ 123 :: (kb x ++ [125, 59]))).length + 5 * (nb' (tb x) + 7)
      simp only [kWhl, List.length_cons, List.length_append, List.length_nil]; omega
    · show wtL (kWhl cn (kX e) (kb' (tb x))) ≤ wtL (215 :: (kX e ++ 123 :: (kb x ++ [125, 59]))) + 15 * (nb' (tb x) + 7)
      simp only [kWhl, wtL_c, wtL_a, w0, hwn, q0, q1, q2, q6, q7, q8, q10, q12, c1 61 (by simp), c1 40 (by simp), c1 41 (by simp), c1 59 (by simp), c1 86 (by simp), c1 (-1) (by simp), c1 (-2) (by simp), c1 123 (by simp), c1 125 (by simp)]; omega
end
section
variable {c : Nat}
theorem kN_b {cn : Int} {b : Nat} (h : cn = 115 + b) (hb : b ≤ 6) (h1 : 1 ≤ b) : kName cn = true := by unfold kName; simp; omega
theorem tuB_p : ∀ (b : Nat) (cn : Int), cn = 115 + b → b ≤ 6 → ∀ (x : TB c b), wB true b x → TuP (kB b) (wB false b) (kB b) (nB b) x (tuB b cn x) := by
  intro b
  induction b with
  | zero => intro cn _ _ x; exact nomatch x
  | succ b ih =>
    intro cn hcn hb x hx
    have ihb := ih (cn - 1) (by omega) (by omega)
    have P := fun s hs => tu1_p (c := c) (T := TB c b) (U := TB (c + 1) b) (kb := kB b) (wb := wB true b) (kb' := kB b) (nb' := nB b) (wb' := wB false b) (tb := tuB b (cn - 1)) (ap := apB b) (em := emB b) ihb (apB_k b) (apB_n b) (fun y s h1 h2 => apB_w b y s h1 h2) (fun x => (emB_k b x).1) (fun x => (emB_k b x).2.1) (fun x => (emB_k b x).2.2 false) (kN_b hcn hb (by omega)) s hs
    have key : ∀ (l : List (SS c ⊕ CC c (TB c b))), allL (w1 true (wB true b)) l → (allL (w1 false (wB false b)) (l.flatMap (tu1 (tuB b (cn - 1)) (apB b) (emB b) cn))) ∧ ((l.flatMap (tu1 (tuB b (cn - 1)) (apB b) (emB b) cn)).flatMap (k1 (kB b))).length ≤ (l.flatMap (k1 (kB b))).length + 5 * ((l.flatMap (tu1 (tuB b (cn - 1)) (apB b) (emB b) cn)).map (n1 (nB b))).sum ∧ wtL ((l.flatMap (tu1 (tuB b (cn - 1)) (apB b) (emB b) cn)).flatMap (k1 (kB b))) ≤ wtL (l.flatMap (k1 (kB b))) + 15 * ((l.flatMap (tu1 (tuB b (cn - 1)) (apB b) (emB b) cn)).map (n1 (nB b))).sum := by
      intro l
      induction l with
      | nil => intro _; exact ⟨fun s hs => absurd hs (by simp), Nat.le_refl _, Nat.le_refl _⟩
      | cons s l ihl =>
        intro hl
        obtain ⟨q1, q2, q3⟩ := ihl (fun u hu => hl u (List.mem_cons_of_mem _ hu))
        obtain ⟨p1, p2, p3, p4, p5⟩ := P s (hl s (List.mem_cons_self ..))
        rw [List.flatMap_cons]
        refine ⟨fun u hu => ?_, ?_, ?_⟩
        · rcases List.mem_append.mp hu with hu | hu
          · exact p1 u hu
          · exact q1 u hu
        · rw [List.flatMap_append, List.length_append, List.map_append, List.sum_append, List.flatMap_cons, List.length_append, p2, p3]; omega
        · rw [List.flatMap_append, wtL_a, List.map_append, List.sum_append, List.flatMap_cons, wtL_a, p2, p3]; omega
    exact key x hx
theorem tuB_k (b : Nat) (cn : Int) (hcn : cn = 115 + ((b + 1 : Nat) : Int)) (hb : b + 1 ≤ 6) : ∀ (x : List (SS c ⊕ CC c (TB c b))), allL (w1 true (wB true b)) x → kB (b + 1) (tuB (c := c) (b + 1) cn x) = x.flatMap (kt1 (fun y => kB b (tuB b (cn - 1) y)) cn) ∧ nB (b + 1) (tuB (c := c) (b + 1) cn x) = (x.map (nt1 (fun y => nB b (tuB b (cn - 1) y)))).sum := by
  have ihb := tuB_p (c := c) b (cn - 1) (by omega) (by omega)
  have P := fun s hs => tu1_p (c := c) (T := TB c b) (U := TB (c + 1) b) (kb := kB b) (wb := wB true b) (kb' := kB b) (nb' := nB b) (wb' := wB false b) (tb := tuB b (cn - 1)) (ap := apB b) (em := emB b) ihb (apB_k b) (apB_n b) (fun y s h1 h2 => apB_w b y s h1 h2) (fun x => (emB_k b x).1) (fun x => (emB_k b x).2.1) (fun x => (emB_k b x).2.2 false) (kN_b (b := b + 1) hcn hb (by omega)) s hs
  intro x
  induction x with
  | nil => intro _; exact ⟨rfl, rfl⟩
  | cons s l ihl =>
    intro hl
    obtain ⟨q1, q2⟩ := ihl (fun u hu => hl u (List.mem_cons_of_mem _ hu))
    obtain ⟨p1, p2, p3, p4, p5⟩ := P s (hl s (List.mem_cons_self ..))
    have q1' : ((l.flatMap (tu1 (tuB b (cn - 1)) (apB b) (emB b) cn)).flatMap (k1 (kB b))) = l.flatMap (kt1 (fun y => kB b (tuB b (cn - 1) y)) cn) := q1
    have q2' : ((l.flatMap (tu1 (tuB b (cn - 1)) (apB b) (emB b) cn)).map (n1 (nB b))).sum = (l.map (nt1 (fun y => nB b (tuB b (cn - 1) y)))).sum := q2
    refine ⟨?_, ?_⟩
    · show (((s :: l).flatMap (tu1 (tuB b (cn - 1)) (apB b) (emB b) cn)).flatMap (k1 (kB b))) = _
      rw [List.flatMap_cons, List.flatMap_append, p2, q1', List.flatMap_cons]
    · show (((s :: l).flatMap (tu1 (tuB b (cn - 1)) (apB b) (emB b) cn)).map (n1 (nB b))).sum = _
      rw [List.flatMap_cons, List.map_append, List.sum_append, p3, q2', List.map_cons, List.sum_cons]
end
