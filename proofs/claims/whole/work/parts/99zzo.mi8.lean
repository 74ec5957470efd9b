/-! Mirrors, the class: blocks -/
theorem mrev {α β : Type} (u : α → β) (k : β → List Int) (x : List α) : (x.reverse).flatMap (fun s => k (u s)) = ((x.map u).reverse).flatMap k := by
  rw [← List.map_reverse, List.flatMap_map]
theorem sSum_rev {α : Type} (sz : α → Nat) : ∀ (r : List α), (List.map sz r.reverse).sum = sSum sz r := by
  intro r
  induction r with
  | nil => rfl
  | cons s r ih =>
    rw [List.reverse_cons, List.map_append, List.sum_append, ih, List.map_cons, List.map_nil, List.sum_cons, List.sum_nil]
    show sSum sz r + (sz s + 0) = sz s + sSum sz r
    omega
theorem sSum_len {α : Type} {sz : α → Nat} (h : ∀ s, 1 ≤ sz s) : ∀ (r : List α), r.length ≤ sSum sz r := by
  intro r
  induction r with
  | nil => exact Nat.le_refl _
  | cons s r ih =>
    have := h s
    show r.length + 1 ≤ sz s + sSum sz r
    omega
theorem n1_pos {c : Nat} {T : Type} {nb : T → Nat} (s : SS c ⊕ CC c T) : 1 ≤ n1 nb s := by
  match s with
  | .inl s => exact Nat.le_refl _
  | .inr (.inl (k, e, x, y, e2)) => show 1 ≤ nb x + nb y + 3; omega
  | .inr (.inr (.inl (e, x, y))) => show 1 ≤ nb x + nb y + 3; omega
  | .inr (.inr (.inr (e, x))) => show 1 ≤ nb x + 2; omega
theorem ar_mp {p n9 : Int} {x y : Nat} (hp : 0 ≤ p) (h : p + ((x + y + 3 : Nat) : Int) ≤ n9) (h40 : n9 ≤ 40) : p + ((x + y + 3 : Nat) : Int) - 1 = p + 1 + x + 1 + y ∧ 0 ≤ p + 1 + (x : Int) + 1 + y ∧ p + 1 + (x : Int) + 1 + y < n9 ∧ (p + 1 + (x : Int) + 1 + y).toNat = p.toNat + 1 + x + 1 + y ∧ p < n9 ∧ p < 40 ∧ 0 ≤ p + 1 + (x : Int) ∧ p + 1 + (x : Int) < 40 ∧ p + 1 + (x : Int) ≤ n9 ∧ (p + 1).toNat = p.toNat + 1 ∧ (p + 1 + (x : Int) + 1).toNat = p.toNat + 1 + x + 1 ∧ 0 ≤ p + 1 + (x : Int) + 1 ∧ p + 1 + (x : Int) + 1 + y ≤ n9 := by
  refine ⟨?_, ?_, ?_, ?_, ?_, ?_, ?_, ?_, ?_, ?_, ?_, ?_, ?_⟩ <;> omega
section
variable {L D a b c : Nat} {f t g : Mem} {T : Type} {kb : T → List Int} {nb : T → Nat} {tb : T → Int → Int → List En9} {wb : T → Prop} {mb : T → T} {dep : Nat}
/-- what mirrorSteps does with a block -/
def MSok (L D a b : Nat) (f t g : Mem) {T : Type} (kb : T → List Int) (nb : T → Nat) (tb : T → Int → Int → List En9) (wb : T → Prop) (mb : T → T) (dep : Nat) : Prop := ∀ (x : T), wb x → ∀ (i j p : Int), 0 ≤ i → 0 ≤ p → p + nb x ≤ t b 9 → seg (tok t b) i j (kb x) → TO9 t b p.toNat (tb x i p) → ∀ (l : List Int) (Q : Option TV → Wd → Prop), l.length + (kb (mb x)).length ≤ 1000 → VV L D m_Sh_mirrorSteps 0 [some (tA 18), some (tI p), some (tI (p + nb x)), some (tI (dep : Int)), none, none] [] (WW f (PSt (a + 1) a 1 t l) g) Q = Q none (WW f (PSt (a + 1) a 1 t (l ++ kb (mb x))) g)
theorem mP_C (hTa : isT a) (hTb : isT b) (hne : ¬ b = a) (hf : (f 18 0).toNat = b) (hin : (f 18 1).toNat = a) (hl : t b 1 ≤ 1000) (h9 : t b 9 ≤ 40) (hl9 : ∀ x i p, (tb x i p).length = nb x) (hR : MSok L (D + 2) a b f t g kb nb tb wb mb (dep + 1)) (hdep : T → dep < 5) (s : CC c T) (hw : wC false wb s) (i j p : Int) (hi : 0 ≤ i) (hp : 0 ≤ p) (hp9 : p + nC nb s ≤ t b 9) (hs : seg (tok t b) i j (kC kb s)) (hto : TO9 t b p.toNat (t9C kb nb tb i p s)) : insA t b 3 0 (p + nC nb s - 1) = 3 ∧ insA t b 6 0 (p + nC nb s - 1) = p ∧ ∀ (l : List Int) (Q : Option TV → Wd → Prop), l.length + (kC kb (mC mb s)).length ≤ 1000 → VV L (D + 3) m_Sh_mirrorParts 0 [some (tA 18), some (tI (p + nC nb s - 1)), some (tI (dep : Int)), none, none, none] [] (WW f (PSt (a + 1) a 1 t l) g) Q = Q none (WW f (PSt (a + 1) a 1 t (l ++ kC kb (mC mb s))) g) := by
  match s, hw, hp9, hs, hto with
  | .inl (k, e, x, y, e2), hw, hp9, hs, hto =>
    obtain ⟨_, hk, he, hx, hy, he2⟩ := hw
    obtain ⟨r1, hs⟩ := seg_hd hs
    obtain ⟨r2, hs⟩ := seg_split hs
    obtain ⟨r3, hs⟩ := seg_hd hs
    obtain ⟨r4, hs⟩ := seg_split hs
    obtain ⟨r5, hs⟩ := seg_hd hs
    obtain ⟨r6, hs⟩ := seg_hd hs
    obtain ⟨r7, hs⟩ := seg_hd hs
    obtain ⟨r8, hs⟩ := seg_split hs
    obtain ⟨r9, hs⟩ := seg_hd hs
    obtain ⟨r10, hs⟩ := seg_hd hs
    obtain ⟨r11, hs⟩ := seg_split hs
    obtain ⟨r12, hs⟩ := seg_hd hs
    have hto' : TO9 t b p.toNat (_ :: (_ ++ _ :: (_ ++ [_]))) := hto
    rw [TO9, TO9_app, TO9, TO9_app, TO9, TO9, hl9, hl9] at hto'
    obtain ⟨E1, A1, E2, B1, E3, _⟩ := hto'
    have hnC : nC nb (.inl (k, e, x, y, e2) : CC c T) = nb x + nb y + 3 := rfl
    rw [hnC] at hp9 ⊢
    obtain ⟨z1, z2, z3, z4, z5, z6, z7, z8, z9, z10, z11, z12, z13⟩ := ar_mp hp hp9 h9
    rw [z1]
    rw [← z4] at E3
    obtain ⟨⟨o1, o2, o3, o4, o5⟩, o6⟩ := E3
    obtain ⟨_, _, _, o7, o8, _⟩ := o5 (show ¬ (3 : Int) = 0 by decide)
    obtain ⟨o9, _⟩ := o6 (show ¬ (3 : Int) = 0 by decide)
    have k215 : ¬ k = 215 := by rcases hk with rfl | rfl <;> decide
    have o8' : t (b + 7) p.toNat = p + nb x + 1 := o8 k215
    refine ⟨by rw [insA_in z2 z3]; exact o2, by rw [insA_in z2 z3]; exact o7, fun l Q hlen => ?_⟩
    have hlen' : l.length + (kX e).length + (kX e2).length + (kb (mb x)).length + (kb (mb y)).length + 8 ≤ 1000 := by
      have : (kC kb (mC mb (.inl (k, e, x, y, e2) : CC c T))).length = (kX e).length + (kX e2).length + (kb (mb x)).length + (kb (mb y)).length + 8 := by
        simp only [mC, kC, List.length_cons, List.length_append, List.length_nil]; omega
      omega
    rw [← z10] at A1
    rw [← z11] at B1
    exact s_Sh_mirrorParts (dep := dep) (h := p) (mm := p + 1 + (nb x : Int)) (op := k) (bh := i + 1) (bq := i + (kX e).length + 2 + (kb x).length + 3 + (kb y).length + 1 + 1) (jh := _) (jq := _) hTa hTb hne hf hin hl h9 hk (by rw [insA_in z2 z3]; exact o7) (by rw [insA_in hp z5, o8']; omega) (by rw [insA_in z2 z3]; exact o1) (by rw [insA_in z2 z3]; exact o4) (by rw [insA_in hp z5]; exact o9) ⟨hp, z6⟩ ⟨z7, z8⟩ (hdep x) e e2 he he2 (by omega) (by omega) r2 r3 (by rw [show i + ((kX e).length : Int) + 2 + (kb x).length + 3 + (kb y).length + 1 + 1 = i + 1 + (kX e).length + 1 + (kb x).length + 1 + 1 + 1 + (kb y).length + 1 + 1 by omega]; exact r11) r12 hlen'
      (fun l Q hh => hR x hx (i + (kX e).length + 2) _ (p + 1) (by omega) (by omega) z9 (by rw [show i + ((kX e).length : Int) + 2 = i + 1 + (kX e).length + 1 by omega]; exact r4) A1 l Q hh)
      (fun l Q hh => hR y hy (i + (kX e).length + 2 + (kb x).length + 3) _ (p + 1 + (nb x : Int) + 1) (by omega) z12 z13 (by rw [show i + ((kX e).length : Int) + 2 + (kb x).length + 3 = i + 1 + (kX e).length + 1 + (kb x).length + 1 + 1 + 1 by omega]; exact r8) (by rw [show p + 1 + (nb x : Int) + 1 = p + nb x + 1 + 1 by omega] at B1 ⊢; exact B1) l Q hh)
  | .inr (.inl (e, x, y)), hw, _, _, _ => exact absurd hw.1 (by decide)
  | .inr (.inr (e, x)), hw, _, _, _ => exact absurd hw.1 (by decide)
theorem ar_ml {low n9 : Int} {s r : Nat} (hl : 0 ≤ low) (h1 : 1 ≤ s) (h : low + ((s + r : Nat) : Int) ≤ n9) : low + (r : Int) ≤ n9 ∧ 0 ≤ low + (r : Int) ∧ (low + (r : Int)).toNat = low.toNat + r ∧ low + ((s + r : Nat) : Int) - 1 = low + (r : Int) + s - 1 ∧ low + (r : Int) + s ≤ n9 := by
  refine ⟨?_, ?_, ?_, ?_, ?_⟩ <;> omega
theorem ar_m1 {p n9 : Int} (hp : 0 ≤ p) (h : p + ((1 : Nat) : Int) ≤ n9) : p + ((1 : Nat) : Int) - 1 = p ∧ p < n9 := by omega
theorem mP_L (hTa : isT a) (hTb : isT b) (hne : ¬ b = a) (hf : (f 18 0).toNat = b) (hin : (f 18 1).toNat = a) (hl : t b 1 ≤ 1000) (h9 : t b 9 ≤ 40) (hl9 : ∀ x i p, (tb x i p).length = nb x) (hR : MSok L (D + 2) a b f t g kb nb tb wb mb (dep + 1)) (hdep : T → dep < 5) : ∀ (r : List (SS c ⊕ CC c T)), allL (w1 false wb) r → ∀ (i j low : Int), 0 ≤ i → 0 ≤ low → low + (sSum (n1 nb) r : Nat) ≤ t b 9 → seg (tok t b) i j (r.reverse.flatMap (k1 kb)) → TO9 t b low.toNat (t9L kb nb tb r.reverse i low) → SOk L D a b f t g (dep : Int) (n1 nb) (fun s => k1 kb (m1 mb s)) low r := by
  intro r
  induction r with
  | nil => intro _ i j low _ _ _ _ _; trivial
  | cons s r ih =>
    intro hw i j low hi hlow h9r hs hto
    have hws := hw s (List.mem_cons_self ..)
    have hwr : allL (w1 false wb) r := fun u hu => hw u (List.mem_cons_of_mem _ hu)
    have hsum : sSum (n1 nb) (s :: r) = n1 nb s + sSum (n1 nb) r := rfl
    rw [hsum] at h9r
    obtain ⟨y1, y2, y3, y4, y5⟩ := ar_ml hlow (n1_pos s) h9r
    rw [List.reverse_cons, List.flatMap_append] at hs
    obtain ⟨s1, s2⟩ := seg_split hs
    rw [List.flatMap_cons, List.flatMap_nil, List.append_nil] at s2
    rw [List.reverse_cons, t9L_app, TO9_app, t9L_len hl9, sSum_rev, t9L, t9L, List.append_nil, ← y3] at hto
    obtain ⟨t1, t2⟩ := hto
    refine ⟨n1_pos s, ih hwr i _ low hi hlow y1 s1 t1, ?_⟩
    rw [hsum, y4]
    have hi' : 0 ≤ i + ((r.reverse.flatMap (k1 kb)).length : Int) := by omega
    generalize i + ((r.reverse.flatMap (k1 kb)).length : Int) = i' at s2 t2 hi'
    generalize low + (sSum (n1 nb) r : Int) = p at t2 y2 y5 ⊢
    match s, hws, s2, t2, y5 with
    | .inl s, hws, s2, t2, y5 =>
      left
      obtain ⟨e1, e2⟩ := ar_m1 y2 y5
      rw [show n1 nb (.inl s : SS c ⊕ CC c T) = 1 from rfl, e1]
      obtain ⟨⟨⟨o1, o2, o3, o4, o5⟩, o6⟩, _⟩ := t2
      have s3 : seg (tok t b) i' j (kS s) := s2
      have s4 := s3
      rw [kS_0] at s4
      obtain ⟨_, s5⟩ := seg_split s4
      have s6 := (seg_hd s5).1
      have s7 := seg_len s5
      have jl : i' + ((kS0 s).length : Int) < t b 1 := (tok_ne (by rw [s6]; decide)).2
      have hsl : (kS (mS s)).length = (kS s).length := (mS_w s hws).2.1
      refine ⟨?_, rfl, fun l Q hlen => ?_⟩
      · rw [insA_in y2 e2, o2]; show ¬ (0 : Int) = 3; decide
      · have hlen' : l.length + (kS (mS s)).length ≤ 1000 := hlen
        refine s_Sh_mirrorStep (d := D + 1) (i := i') (j := j) hTa hTb hne hf hin hl h9 s hws (by rw [insA_in y2 e2]; exact o3) hi' s3 ?_ (by omega)
        simp only [List.length_singleton] at s7
        omega
    | .inr s, hws, s2, t2, y5 =>
      right
      obtain ⟨q1, q2, q3⟩ := mP_C hTa hTb hne hf hin hl h9 hl9 hR hdep s hws i' j p hi' y2 y5 s2 t2
      exact ⟨q1, q2, q3⟩
end
section
variable {L d a b c : Nat} {f t g : Mem}
theorem s_Sh_mB (hTa : isT a) (hTb : isT b) (hne : ¬ b = a) (hf : (f 18 0).toNat = b) (hin : (f 18 1).toNat = a) (hl : t b 1 ≤ 1000) (h9 : t b 9 ≤ 40) : ∀ (bb dep : Nat), bb + dep = 6 → MSok L (d + 2 * bb + 2) a b f t g (kB (c := c) bb) (nB bb) (t9B bb) (wB false bb) (mB bb) dep := by
  intro bb
  induction bb with
  | zero => intro dep _ x; exact nomatch x
  | succ bb ih =>
    intro dep hd x hx i j p hi hp hp9 hs hto l Q hlen
    have hR := ih (dep + 1) (by omega)
    have hdep : TB c bb → dep < 5 := by
      intro y
      match bb, y with
      | 0, y => exact nomatch y
      | n + 1, _ => omega
    have hx' : allL (w1 false (wB false bb)) (List.reverse x) := fun u hu => hx u (List.mem_reverse.mp hu)
    have hrr : List.reverse (List.reverse x) = x := List.reverse_reverse x
    have hsm : sSum (n1 (nB bb)) (List.reverse x) = nB (bb + 1) x := by rw [← sSum_rev, hrr]; rfl
    have hSO := mP_L (D := d + 2 * bb) hTa hTb hne hf hin hl h9 (t9B_len bb) hR hdep (List.reverse x) hx' i j p hi hp (by rw [hsm]; exact hp9) (by rw [hrr]; exact hs) (by rw [hrr]; exact hto)
    have hfm : (List.reverse x).flatMap (fun s => k1 (kB bb) (m1 (mB bb) s)) = kB (bb + 1) (mB (bb + 1) x) := by
      exact mrev (m1 (mB bb)) (k1 (kB bb)) x
    have hn := sSum_len (sz := n1 (nB (c := c) bb)) n1_pos (List.reverse x)
    rw [hsm] at hn
    have key := l_mSteps (L := L) (d := d + 2 * bb) (g := g) (Q := Q) (high := p + (nB (bb + 1) x : Int)) (dep := (dep : Int)) hTa hTb hne hf h9 hp (List.reverse x) l 0 hSO (by omega) (by rw [hsm]; omega) (by rw [hfm]; exact hlen)
    have z0 : ((0 : Nat) : Int) = 0 := rfl
    rw [hsm, hfm, z0] at key
    rw [show d + 2 * (bb + 1) + 2 = d + 2 * bb + 4 by omega, ← key]
    simp only [u_Sh_mirrorSteps_0, u_Sh_mirrorSteps_1, u_Sh_mirrorSteps_3, u_Sh_mirrorSteps_4, ne_eq, not_false_eq_true, not_true_eq_false, true_and, and_true, true_or, or_true, eq_self, Option.toList_some, Option.toList_none, List.cons_append, List.nil_append, tc_0, tc_I, tc_L, tc_A, Nat.reduceAdd, Nat.reduceLeDiff, Nat.reduceEqDiff, Int.reduceEq, Int.reduceLT, Int.reduceLE, Int.reduceNeg, Int.reduceToNat, Int.cast_ofNat_Int, if_true, if_false, and_self, or_self, ite_self, bI_0, bI_1, bI_01, Bool.false_eq_true, reduceCtorEq]
end
