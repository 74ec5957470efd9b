/-! turn, the class: blocks -/
section
variable {L d a b c : Nat} {f t g : Mem} {y1 : Option TV} {aa : Nat} {T : Type} {kb : T → List Int} {nb : T → Nat} {tb : T → Int → Int → List En9} {wb : T → Prop} {ku : T → List Int} {nu : T → Nat} {dp : Int}
/-- what the loop of writeTurned does with a block -/
def TWok (L D a b : Nat) (f t g : Mem) (y1 : Option TV) (aa : Nat) {T : Type} (kb : T → List Int) (nb : T → Nat) (tb : T → Int → Int → List En9) (wb : T → Prop) (ku : T → List Int) (dp : Int) : Prop := ∀ (x : T), wb x → ∀ (i j p : Int) (l : List Int) (u : Option TV), 0 ≤ i → 0 ≤ p → p + nb x ≤ t b 9 → seg (tok t b) i j (kb x) → TO9 t b p.toNat (tb x i p) → l.length + (ku x).length ≤ 1000 → ∃ u', ∀ (Q : Option TV → Wd → Prop), VV L D m_Sh_writeTurned 22 [some (tA 18), y1, some (tA aa), some (tI dp), some (tI p), u] [] (WW f (PSt (a + 1) a 1 t l) g) Q = VV L D m_Sh_writeTurned 22 [some (tA 18), y1, some (tA aa), some (tI dp), some (tI (p + nb x)), u'] [] (WW f (PSt (a + 1) a 1 t (l ++ ku x)) g) Q
theorem ar_t2 {p n9 : Int} {x y : Nat} (hp : 0 ≤ p) (h : p + ((x + y + 3 : Nat) : Int) ≤ n9) : (0 ≤ p ∧ p < n9) ∧ p + 1 + (x : Int) ≤ n9 ∧ (0 ≤ p + 1 + (x : Int) ∧ p + 1 + (x : Int) < n9) ∧ p + 1 + (x : Int) + 1 + y ≤ n9 ∧ (0 ≤ p + 1 + (x : Int) + 1 + y ∧ p + 1 + (x : Int) + 1 + y < n9) ∧ p + 1 + (x : Int) + 1 + y + 1 = p + ((x + y + 3 : Nat) : Int) ∧ (p + 1).toNat = p.toNat + 1 ∧ (p + 1 + (x : Int)).toNat = p.toNat + 1 + x ∧ (p + 1 + (x : Int) + 1).toNat = p.toNat + 1 + x + 1 ∧ (p + 1 + (x : Int) + 1 + y).toNat = p.toNat + 1 + x + 1 + y := by
  refine ⟨⟨?_, ?_⟩, ?_, ⟨?_, ?_⟩, ?_, ⟨?_, ?_⟩, ?_, ?_, ?_, ?_, ?_⟩ <;> omega
theorem ar_t1 {p n9 : Int} {x : Nat} (hp : 0 ≤ p) (h : p + ((x + 2 : Nat) : Int) ≤ n9) : (0 ≤ p ∧ p < n9) ∧ p + 1 + (x : Int) ≤ n9 ∧ (0 ≤ p + 1 + (x : Int) ∧ p + 1 + (x : Int) < n9) ∧ p + 1 + (x : Int) + 1 = p + ((x + 2 : Nat) : Int) ∧ (p + 1).toNat = p.toNat + 1 ∧ (p + 1 + (x : Int)).toNat = p.toNat + 1 + x := by
  refine ⟨⟨?_, ?_⟩, ?_, ⟨?_, ?_⟩, ?_, ?_, ?_⟩ <;> omega
theorem wt_C (w : SW a b f t) (hl9 : ∀ x i p, (tb x i p).length = nb x) (hR : TWok L (d + 6) a b f t g y1 aa kb nb tb wb ku (dp + 1)) (hd : 0 ≤ dp) (hdp : T → dp ≤ 5) (s : CC c T) (hw : wC true wb s) (i j p : Int) (l : List Int) (u : Option TV) (hi : 0 ≤ i) (hp : 0 ≤ p) (hp9 : p + nC nb s ≤ t b 9) (hs : seg (tok t b) i j (kC kb s)) (hto : TO9 t b p.toNat (t9C kb nb tb i p s)) (hlen : l.length + (kt1 ku (121 - dp) (.inr s : SS c ⊕ CC c T)).length ≤ 1000) : ∃ u', ∀ (Q : Option TV → Wd → Prop), VV L (d + 6) m_Sh_writeTurned 22 [some (tA 18), y1, some (tA aa), some (tI dp), some (tI p), u] [] (WW f (PSt (a + 1) a 1 t l) g) Q = VV L (d + 6) m_Sh_writeTurned 22 [some (tA 18), y1, some (tA aa), some (tI dp), some (tI (p + nC nb s)), u'] [] (WW f (PSt (a + 1) a 1 t (l ++ kt1 ku (121 - dp) (.inr s : SS c ⊕ CC c T))) g) Q := by
  match s, hw, hp9, hs, hto, hlen with
  | .inl (k, e, x, y, e2), hw, _, _, _, _ => exact absurd hw.1 (by decide)
  | .inr (.inl (e, x, y)), hw, hp9, hs, hto, hlen =>
    obtain ⟨_, he, hx, hy⟩ := hw
    have hd5 := hdp x
    obtain ⟨r1, hs⟩ := seg_hd hs
    obtain ⟨r2, hs⟩ := seg_split hs
    obtain ⟨r3, hs⟩ := seg_hd hs
    obtain ⟨r4, hs⟩ := seg_split hs
    obtain ⟨r5, hs⟩ := seg_hd hs
    obtain ⟨r6, hs⟩ := seg_hd hs
    obtain ⟨r7, hs⟩ := seg_hd hs
    obtain ⟨r8, hs⟩ := seg_split hs
    have hto' : TO9 t b p.toNat (_ :: (_ ++ _ :: (_ ++ [_]))) := hto
    rw [TO9, TO9_app, TO9, TO9_app, TO9, TO9, hl9, hl9] at hto'
    obtain ⟨E1, A1, E2, B1, E3, _⟩ := hto'
    have hnC : nC nb (.inr (.inl (e, x, y)) : CC c T) = nb x + nb y + 3 := rfl
    rw [hnC] at hp9 ⊢
    obtain ⟨z1, z2, z3, z4, z5, z6, z7, z8, z9, z10⟩ := ar_t2 hp hp9
    obtain ⟨⟨o1, o2, o3, o4, _⟩, _⟩ := E1
    obtain ⟨⟨m1, m2, _, _, _⟩, _⟩ := E2
    obtain ⟨⟨t1, t2, _, _, _⟩, _⟩ := E3
    rw [← z8] at m1 m2
    rw [← z10] at t1 t2
    rw [← z7] at A1
    rw [← z9] at B1
    have hkt : kt1 ku (121 - dp) (.inr (.inr (.inl (e, x, y))) : SS c ⊕ CC c T) = kWhn (121 - dp) (kX e) (ku x) (ku y) := rfl
    rw [hkt] at hlen ⊢
    simp only [kWhn, List.length_append, List.length_cons, List.length_nil] at hlen
    obtain ⟨l1, e1⟩ : ∃ l1, l1 = l ++ ([200, 121 - dp, 61, 40] ++ (kX e ++ [61, -1, 41, 59, 208, 40, 121 - dp, 61, -1, 41, 123])) := ⟨_, rfl⟩
    obtain ⟨l2, e2⟩ : ∃ l2, l2 = l1 ++ ku x := ⟨_, rfl⟩
    obtain ⟨l3, e3⟩ : ∃ l3, l3 = l2 ++ [125, 209, 123] := ⟨_, rfl⟩
    obtain ⟨l4, e4⟩ : ∃ l4, l4 = l3 ++ ku y := ⟨_, rfl⟩
    have n1' : l1.length = l.length + (kX e).length + 15 := by rw [e1]; simp; omega
    have n2' : l2.length = l1.length + (ku x).length := by rw [e2]; simp
    have n3' : l3.length = l2.length + 3 := by rw [e3]; simp
    have n4' : l4.length = l3.length + (ku y).length := by rw [e4]; simp
    obtain ⟨u2, R2⟩ := hR x hx (i + (kX e).length + 2) _ (p + 1) l1 (some (tI (121 - dp))) (by omega) (by omega) z2 (by rw [show i + ((kX e).length : Int) + 2 = i + 1 + (kX e).length + 1 by omega]; exact r4) A1 (by omega)
    obtain ⟨u4, R4⟩ := hR y hy (i + (kX e).length + 2 + (kb x).length + 3) _ (p + 1 + (nb x : Int) + 1) l3 (some (tI (121 - (dp + 1)))) (by omega) (by omega) z4 (by rw [show i + ((kX e).length : Int) + 2 + (kb x).length + 3 = i + 1 + (kX e).length + 1 + (kb x).length + 1 + 1 + 1 by omega]; exact r8) (by rw [show p + 1 + (nb x : Int) + 1 = p + nb x + 1 + 1 by omega] at B1 ⊢; exact B1) (by omega)
    rw [← e2] at R2
    rw [← e4] at R4
    refine ⟨some (tI (121 - (dp + 1 - 1))), fun Q => ?_⟩
    have H1 := wt_hwhen (L := L) (d := d) (g := g) (Q := Q) (u := u) (y1 := y1) (aa := aa) (l := l) (dp := dp) (i := i + 1) w (by rw [insA_in z1.1 z1.2]; exact o2) (by rw [insA_in z1.1 z1.2]; exact o1) (by rw [insA_in z1.1 z1.2]; exact o4) (by omega) r2 (kX_e e he) r3 z1 (by omega) (by omega)
    have H3 := wt_mwhen (L := L) (d := d) (g := g) (Q := Q) (u := u2) (y1 := y1) (aa := aa) (l := l2) (dp := dp + 1) (p := p + 1 + (nb x : Int)) w (by rw [insA_in z3.1 z3.2]; exact m2) (by rw [insA_in z3.1 z3.2]; exact m1) z3 (by omega) (by omega)
    have H5 := wt_twhen (L := L) (d := d) (g := g) (Q := Q) (u := u4) (y1 := y1) (aa := aa) (l := l4) (dp := dp + 1) (p := p + 1 + (nb x : Int) + 1 + nb y) w (by rw [insA_in z5.1 z5.2]; exact t2) (by rw [insA_in z5.1 z5.2]; exact t1) z5 (by omega) (by omega)
    rw [← e1] at H1
    rw [← e3] at H3
    rw [H1, R2, H3, R4, H5, z6, show dp + 1 - 1 = dp by omega]
    rw [show l4 ++ [125, 210, 40, 121 - dp, 61, -1, 41, 59, 202, 121 - dp, 86, 59, 201, 121 - dp, 61, -1, 59] = l ++ kWhn (121 - dp) (kX e) (ku x) (ku y) by rw [e4, e3, e2, e1]; simp [kWhn]]
  | .inr (.inr (e, x)), hw, hp9, hs, hto, hlen =>
    obtain ⟨_, he, hx⟩ := hw
    have hd5 := hdp x
    obtain ⟨r1, hs⟩ := seg_hd hs
    obtain ⟨r2, hs⟩ := seg_split hs
    obtain ⟨r3, hs⟩ := seg_hd hs
    obtain ⟨r4, hs⟩ := seg_split hs
    have hto' : TO9 t b p.toNat (_ :: (_ ++ [_])) := hto
    rw [TO9, TO9_app, TO9, TO9, hl9] at hto'
    obtain ⟨E1, A1, E3, _⟩ := hto'
    have hnC : nC nb (.inr (.inr (e, x)) : CC c T) = nb x + 2 := rfl
    rw [hnC] at hp9 ⊢
    obtain ⟨z1, z2, z3, z4, z5, z6⟩ := ar_t1 hp hp9
    obtain ⟨⟨o1, o2, o3, o4, _⟩, _⟩ := E1
    obtain ⟨⟨t1, t2, _, _, t5⟩, _⟩ := E3
    obtain ⟨_, _, _, t6, _, _⟩ := t5 (show ¬ (3 : Int) = 0 by decide)
    rw [← z6] at t1 t2 t6
    rw [← z5] at A1
    have hkt : kt1 ku (121 - dp) (.inr (.inr (.inr (e, x))) : SS c ⊕ CC c T) = kWhl (121 - dp) (kX e) (ku x) := rfl
    rw [hkt] at hlen ⊢
    simp only [kWhl, List.length_append, List.length_cons, List.length_nil] at hlen
    obtain ⟨l1, e1⟩ : ∃ l1, l1 = l ++ [200, 121 - dp, 61, -1, 59, 211, 40, 121 - dp, 61, -1, 41, 123, 125, 212, 123] := ⟨_, rfl⟩
    obtain ⟨l2, e2⟩ : ∃ l2, l2 = l1 ++ ku x := ⟨_, rfl⟩
    have n1' : l1.length = l.length + 15 := by rw [e1]; simp
    have n2' : l2.length = l1.length + (ku x).length := by rw [e2]; simp
    obtain ⟨u2, R2⟩ := hR x hx (i + (kX e).length + 2) _ (p + 1) l1 (some (tI (121 - dp))) (by omega) (by omega) z2 (by rw [show i + ((kX e).length : Int) + 2 = i + 1 + (kX e).length + 1 by omega]; exact r4) A1 (by omega)
    rw [← e2] at R2
    refine ⟨some (tI (121 - (dp + 1 - 1))), fun Q => ?_⟩
    have H1 := wt_hwhile (L := L) (d := d) (g := g) (Q := Q) (u := u) (y1 := y1) (aa := aa) (l := l) (dp := dp) (p := p) w (by rw [insA_in z1.1 z1.2]; exact o2) (by rw [insA_in z1.1 z1.2]; exact o1) z1 (by omega) (by omega)
    have H3 := wt_twhile (L := L) (d := d) (g := g) (Q := Q) (u := u2) (y1 := y1) (aa := aa) (l := l2) (dp := dp + 1) (p := p + 1 + (nb x : Int)) (h := p) (i := i + 1) w (by rw [insA_in z3.1 z3.2]; exact t2) (by rw [insA_in z3.1 z3.2]; exact t1) (by rw [insA_in z3.1 z3.2]; exact t6) (by rw [insA_in z1.1 z1.2]; exact o4) (by omega) r2 (kX_e e he) r3 z3 (by omega) (by omega)
    rw [← e1] at H1
    rw [H1, R2, H3, z4, show dp + 1 - 1 = dp by omega]
    rw [show l2 ++ ([121 - dp, 128, -2, 59, 125, 213, 40] ++ (kX e ++ [61, -1, 41, 59, 202, 121 - dp, 86, 59, 201, 121 - dp, 61, -1, 59])) = l ++ kWhl (121 - dp) (kX e) (ku x) by rw [e2, e1]; simp [kWhl]]
theorem SA_of {k n i j p : Int} {e : EE c} (hTb : isT b) (hf : (f 18 0).toNat = b) (hl : t b 1 ≤ 1000) (h9 : t b 9 ≤ 40) (hn : kName n = true) (he : wX e) (hi : 0 ≤ i) (hp : 0 ≤ p) (hp9 : p < t b 9) (hs : seg (tok t b) i j (k :: n :: 61 :: (kX e ++ [59]))) (h4 : t (b + 4) p.toNat = i) (h5 : t (b + 5) p.toNat = i + 3) : SA b f t p i n (j - 1) (kX e) := by
  have ej := seg_len hs
  simp only [List.length_cons, List.length_append, List.length_nil] at ej
  obtain ⟨r1, hs⟩ := seg_hd hs
  obtain ⟨r2, hs⟩ := seg_hd hs
  obtain ⟨r3, hs⟩ := seg_hd hs
  obtain ⟨r4, hs⟩ := seg_split hs
  obtain ⟨r5, hs⟩ := seg_hd hs
  have e1 : i + 1 + 1 + 1 + ((kX e).length : Int) = j - 1 := by omega
  rw [e1] at r4 r5
  rw [show i + 1 + 1 + 1 = i + 3 by omega] at r4
  have kl : 1 ≤ (kX e).length := by
    have := kE_z (kF_z c) e he (i + 3) (j - 1) r4
    have := seg_len r4
    omega
  exact ⟨hTb, hf, hl, h9, by rw [insA_in hp hp9]; exact h4, by rw [insA_in hp hp9]; exact h5, hi, r2, r4, r5, kX_e e he, hn, kl⟩
theorem ar_tl {p n9 : Int} {s r : Nat} (hp : 0 ≤ p) (h : p + ((s + r : Nat) : Int) ≤ n9) : p + (s : Int) ≤ n9 ∧ 0 ≤ p + (s : Int) ∧ (p + (s : Int)).toNat = p.toNat + s ∧ p + (s : Int) + r ≤ n9 ∧ p + (s : Int) + r = p + ((s + r : Nat) : Int) := by
  refine ⟨?_, ?_, ?_, ?_, ?_⟩ <;> omega
theorem wt_L (w : SW a b f t) (hl9 : ∀ x i p, (tb x i p).length = nb x) (hR : TWok L (d + 6) a b f t g y1 aa kb nb tb wb ku (dp + 1)) (hd : 0 ≤ dp) (hd6 : dp ≤ 6) (hdp : T → dp ≤ 5) : TWok L (d + 6) a b f t g y1 aa (fun x : List (SS c ⊕ CC c T) => x.flatMap (k1 kb)) (fun x => (x.map (n1 nb)).sum) (fun x i p => t9L kb nb tb x i p) (fun x => allL (w1 true wb) x) (fun x => x.flatMap (kt1 ku (121 - dp))) dp := by
  intro x
  induction x with
  | nil =>
    intro _ i j p l u _ _ _ _ _ _
    refine ⟨u, fun Q => ?_⟩
    simp only [List.map_nil, List.sum_nil, List.flatMap_nil, List.append_nil]
    rw [show p + ((0 : Nat) : Int) = p by omega]
  | cons s x ih =>
    intro hw i j p l u hi hp hp9 hs hto hlen
    have hws := hw s (List.mem_cons_self ..)
    have hwr : allL (w1 true wb) x := fun v hv => hw v (List.mem_cons_of_mem _ hv)
    simp only [List.map_cons, List.sum_cons, List.flatMap_cons, List.length_append] at hp9 hs hlen ⊢
    have hto2 : TO9 t b p.toNat (t91 kb nb tb i p s ++ t9L kb nb tb x (i + (k1 kb s).length) (p + n1 nb s)) := hto
    rw [TO9_app, t91_len hl9] at hto2
    obtain ⟨s1, s2⟩ := seg_split hs
    obtain ⟨v1, v2, v3, v4, v5⟩ := ar_tl hp hp9
    rw [← v3] at hto2
    obtain ⟨t1, t2⟩ := hto2
    have hstep : ∃ u', ∀ (Q : Option TV → Wd → Prop), VV L (d + 6) m_Sh_writeTurned 22 [some (tA 18), y1, some (tA aa), some (tI dp), some (tI p), u] [] (WW f (PSt (a + 1) a 1 t l) g) Q = VV L (d + 6) m_Sh_writeTurned 22 [some (tA 18), y1, some (tA aa), some (tI dp), some (tI (p + n1 nb s)), u'] [] (WW f (PSt (a + 1) a 1 t (l ++ kt1 ku (121 - dp) s)) g) Q := by
      match s, hws, s1, t1, v1, hlen with
      | .inl (.inl (k, n, e)), hws, s1, t1, v1, hlen =>
        obtain ⟨⟨⟨o1, o2, o3, o4, _⟩, _⟩, _⟩ := t1
        have v1' : p + ((1 : Nat) : Int) ≤ t b 9 := v1
        have hA := SA_of (f := f) (p := p) w.hTb w.hf w.hl w.h9 hws.2.1 hws.2.2 hi hp (by omega) s1 o3 o4
        refine ⟨some (tI (121 - dp)), fun Q => ?_⟩
        exact wt_set (L := L) (d := d) (g := g) (Q := Q) (u := u) (y1 := y1) (aa := aa) (l := l) (dp := dp) w hA (by rw [insA_in hp (by omega)]; exact o2) ⟨hp, by omega⟩ ⟨hd, by omega⟩ (by have hl2 : l.length + ((kTu n (kX e)).length + (x.flatMap (kt1 ku (121 - dp))).length) ≤ 1000 := hlen; omega)
      | .inl (.inr s), hws, _, _, _, _ =>
        exfalso
        match s, hws with
        | .inl (q, o, e), hws => exact absurd hws.1 (by decide)
        | .inr (.inl (q, q2)), hws => exact absurd hws.1 (by decide)
        | .inr (.inr (.inl (k, n, s))), hws => exact absurd hws.1 (by decide)
        | .inr (.inr (.inr (.inl (k, r, dd, e)))), hws => exact absurd hws.1 (by decide)
        | .inr (.inr (.inr (.inr (k, n)))), hws => exact absurd hws.1 (by decide)
      | .inr s, hws, s1, t1, v1, hlen => exact wt_C w hl9 hR hd hdp s hws i _ p l u hi hp v1 s1 t1 (by omega)
    obtain ⟨u1, S1⟩ := hstep
    obtain ⟨u2, S2⟩ := ih hwr (i + ((k1 kb s).length : Int)) j (p + (n1 nb s : Int)) (l ++ kt1 ku (121 - dp) s) u1 (Int.add_nonneg hi (Int.natCast_nonneg _)) v2 v4 s2 t2 (by simp only [List.length_append]; omega)
    refine ⟨u2, fun Q => ?_⟩
    rw [S1 Q, S2 Q, v5, List.append_assoc]
end
section
variable {L d a b c : Nat} {f t g : Mem} {y1 : Option TV} {aa : Nat}
theorem s_Sh_tB (w : SW a b f t) : ∀ (bb : Nat) (dp : Int), dp = 6 - bb → bb ≤ 6 → TWok L (d + 6) a b f t g y1 aa (kB (c := c) bb) (nB bb) (t9B bb) (wB true bb) (fun x => kB bb (tuB bb (115 + bb) x)) dp := by
  intro bb
  induction bb with
  | zero => intro dp _ _ x; exact nomatch x
  | succ bb ih =>
    intro dp hd hb
    have hR := ih (dp + 1) (by omega) (by omega)
    have hdp : TB c bb → dp ≤ 5 := by
      intro y
      match bb, y with
      | 0, y => exact nomatch y
      | n + 1, _ => omega
    have hL := wt_L (c := c) (T := TB c bb) w (t9B_len bb) hR (by omega) (by omega) hdp
    intro x hx i j p l u h1 h2 h3 h4 h5 h6
    have ek := (tuB_k (c := c) bb (115 + ((bb + 1 : Nat) : Int)) rfl hb x hx).1
    rw [show (115 : Int) + ((bb + 1 : Nat) : Int) - 1 = 115 + bb by omega, show (115 : Int) + ((bb + 1 : Nat) : Int) = 121 - dp by omega] at ek
    have h6' : l.length + (List.flatMap (kt1 (fun y => kB bb (tuB bb (115 + bb) y)) (121 - dp)) x).length ≤ 1000 := by
      rw [← ek, show (121 : Int) - dp = 115 + ((bb + 1 : Nat) : Int) by omega]; exact h6
    obtain ⟨u', hu⟩ := hL x hx i j p l u h1 h2 h3 h4 h5 h6'
    refine ⟨u', fun Q => ?_⟩
    have e2 : l ++ List.flatMap (kt1 (fun y => kB bb (tuB bb (115 + bb) y)) (121 - dp)) x = l ++ kB (bb + 1) (tuB (bb + 1) (115 + ((bb + 1 : Nat) : Int)) x) := by
      rw [← ek, show (121 : Int) - dp = 115 + ((bb + 1 : Nat) : Int) by omega]
    exact (hu Q).trans (congrArg (fun m => VV L (d + 6) m_Sh_writeTurned 22 [some (tA 18), y1, some (tA aa), some (tI dp), some (tI (p + (nB (bb + 1) x : Int))), u'] [] (WW f (PSt (a + 1) a 1 t m) g) Q) e2)
end
