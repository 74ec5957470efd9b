/-! Text: settle walks over a tree -/
section
variable {L d a c : Nat} {f g : Mem} {Q : Option TV → Wd → Prop}
def WkP (L d a : Nat) (f g : Mem) (Q : Option TV → Wd → Prop) (k : List Int) (m : Nat) (tb : Int → Int → List Ent) (dp st : Nat) (lv : Nat) : Prop :=
  ∀ (t : Mem) (i j n : Int), t a 1 ≤ 1000 → 0 ≤ t a 9 → t a 9 + m ≤ 40 → 0 ≤ t a 11 → t a 11 + lv ≤ 6 → t a 11 ≤ t a 13 → 0 ≤ t a 12 → t a 12 ≤ i → 0 ≤ n → n ≤ i → seg (tok t a) i j k → j ≤ t a 1 →
    (∀ (t' : Mem) (n' : Int), SetP a t t' m (tb i (t a 9)) dp st → 0 ≤ n' → n' ≤ j → VV L (d + 4) m_Tx_settle 75 [some (tA a), some (tI j), some (tI n')] [] (WW f t' g) Q) →
    VV L (d + 4) m_Tx_settle 75 [some (tA a), some (tI i), some (tI n)] [] (WW f t g) Q
theorem WkP_nil {lv : Nat} : WkP L d a f g Q [] 0 (fun _ _ => []) 0 0 lv := by
  intro t i j n h1 h2 h3 h4 h5 h6 h7 h8 h9 h10 hs hj hQ
  have e := seg_len hs
  simp at e
  subst e
  exact hQ t n (SetP_nil h6) h9 h10
theorem SetP_tok {t t' : Mem} {n : Nat} {l : List Ent} {dp st : Int} (h : SetP a t t' n l dp st) : tok t' a = tok t a := tok_of (h.fa 1 (by omega) (by omega) (by omega)) (fun j => h.fr (a + 1) j (by omega))
theorem WkP_app {k1 k2 : List Int} {m1 m2 : Nat} {tb1 tb2 : Int → Int → List Ent} {d1 d2 s1 s2 lv : Nat} (hk : s1 ≤ k1.length) (w1 : WkP L d a f g Q k1 m1 tb1 d1 s1 lv) (w2 : WkP L d a f g Q k2 m2 tb2 d2 s2 lv) : WkP L d a f g Q (k1 ++ k2) (m1 + m2) (fun i p => tb1 i p ++ tb2 (i + k1.length) (p + m1)) (max d1 d2) (s1 + s2) lv := by
  intro t i j n h1 h2 h3 h4 h5 h6 h7 h8 h9 h10 hs hj hQ
  obtain ⟨q1, q2⟩ := seg_split hs
  have := q2.1
  refine w1 t i (i + k1.length) n h1 h2 (by omega) h4 h5 h6 h7 h8 h9 h10 q1 (by omega) (fun t1 n1 p1 n2 n3 => ?_)
  have e1 := p1.fa 1 (by omega) (by omega) (by omega)
  have e11 := p1.fa 11 (by omega) (by omega) (by omega)
  have e9 := p1.f9
  have e12 := p1.f12
  have e13 := p1.f13
  refine w2 t1 _ j n1 (by omega) (by omega) (by omega) (by omega) (by omega) ?_ ?_ ?_ n2 n3 (by rw [SetP_tok p1]; exact q2) (by omega) (fun t2 n4 p2 n5 n6 => ?_)
  · rw [e11, e13]; unfold mx; split <;> omega
  · rw [e12]; split <;> omega
  · rw [e12]; split <;> omega
  · refine hQ t2 n4 ?_ n5 n6
    have := SetP_app h2 p1 p2
    rw [e9] at this
    have em : mx (d1 : Int) (d2 : Int) = ((max d1 d2 : Nat) : Int) := by unfold mx; split <;> omega
    rw [em] at this
    exact this
theorem WkP_S {o : Bool} {lv : Nat} (hT : isT a) (hv : 1 ≤ lv) (s : SS c) (hw : wS o s) : WkP L d a f g Q (kS s) 1 (fun i p => [(opS1 s, 0, i, i + boS1 s, p, 0, 0)]) 0 1 lv := by
  intro t i j n h1 h2 h3 h4 h5 h6 h7 h8 h9 h10 hs hj hQ
  obtain ⟨_, hij, _⟩ := kS_nxt s hw hs hj
  rw [l_hop0 hT h1 h2 (by omega) h4 (by omega) ⟨h7, by omega⟩ s hw (by omega) hs hj h9 h10]
  exact hQ _ (n + 1) (SetP_0 h6 h2) (by omega) (by omega)
theorem WkP_C2 {ka kb z0 : List Int} {na nb : Nat} {ta tb : Int → Int → List Ent} {da db sa sb lv : Nat} {op y : Int} (hT : isT a) (e : EE c) (he : wX e) (hop : op = 208 ∨ op = 211 ∨ op = 216) (hy : y = 209 ∨ y = 212) (hz : ∀ v ∈ z0, nSep v) (hz2 : ¬ z0.head? = some 209 ∧ ¬ z0.head? = some 212) (hv : 1 ≤ lv) (wa : WkP L d a f g Q ka na ta da sa lv) (wb : WkP L d a f g Q kb nb tb db sb lv) : WkP L d a f g Q (op :: (kX e ++ 123 :: (ka ++ 125 :: y :: 123 :: (kb ++ 125 :: (z0 ++ [59]))))) (na + nb + 3) (fun i p =>
    let i1 := i + (kX e).length + 2
    let m := p + na + 1
    let i2 := i1 + ka.length + 3
    let q := m + nb + 1
    let i3 := i2 + kb.length + 1
    (op, 1, i, i + 1, p, m, q) :: (ta i1 (p + 1) ++ (op, 2, i2 - 2, i2 - 1, p, m, q) :: (tb i2 (m + 1) ++ [(op, 3, i3, i3 + 1, p, m, q)]))) (max da db + 1) 1 (lv + 1) := by
  intro t i j n h1 h2 h3 h4 h5 h6 h7 h8 h9 h10 hs hj hQ
  obtain ⟨r1, hs⟩ := seg_hd hs
  obtain ⟨r2, hs⟩ := seg_split hs
  obtain ⟨r3, hs⟩ := seg_hd hs
  obtain ⟨r4, hs⟩ := seg_split hs
  obtain ⟨r5, hs⟩ := seg_hd hs
  obtain ⟨r6, hs⟩ := seg_hd hs
  obtain ⟨r7, hs⟩ := seg_hd hs
  obtain ⟨r8, hs⟩ := seg_split hs
  obtain ⟨r9, hs⟩ := seg_hd hs
  obtain ⟨r10, hs⟩ := seg_split hs
  obtain ⟨r11, hs⟩ := seg_hd hs
  have hjl := seg_len hs
  simp at hjl
  have hp : kPart (tok t a i) = true := by rw [r1]; unfold kPart; simp; omega
  rw [l_hop1 hT h1 h2 (by omega) h4 (by omega) ⟨h7, by omega⟩ e he hp (by omega) r2 r3 h9 h10]
  have H := H1_en (op := tok t a i) (i := i) (b := i + 1) h2 h4
  generalize hg1 : en1 (ou1 t a) a (tok t a i) i (i + 1) = t1 at H ⊢
  rw [r1] at H
  have k1 : tok t1 a = tok t a := tok_of (H.fa 1 (by omega) (by omega) (by omega) (by omega)) (fun j => H.fr (a + 1) j (by omega))
  have a1 := H.fa 1 (by omega) (by omega) (by omega) (by omega)
  have a9 := H.f9
  have a11 := H.f11
  have a12 := H.f12
  have a13 := H.f13
  refine wa t1 _ (i + 1 + (kX e).length + 1 + ka.length) (n + 1) (by omega) (by omega) (by omega) (by omega) (by omega) ?_ ?_ ?_ (by omega) (by omega) (by rw [k1]; exact r4) (by omega) (fun t2 n2 p2 c1 c2 => ?_)
  · rw [a11, a13]; unfold mx; split <;> omega
  · rw [a12]; split <;> omega
  · rw [a12]; split <;> omega
  have b1 := p2.fa 1 (by omega) (by omega) (by omega)
  have b9 := p2.f9
  have b11 := p2.fa 11 (by omega) (by omega) (by omega)
  have b12 := p2.f12
  have b13 := p2.f13
  rw [if_neg (by omega)] at b12
  have k2 : tok t2 a = tok t a := by rw [SetP_tok p2, k1]
  have tp2 : topH t2 a = t a 9 := by
    unfold topH
    rw [if_pos (by omega), b11, a11, show (t a 11 + 1 - 1).toNat = (t a 11).toNat by omega, p2.op _ (by omega)]
    exact H.os1
  have oe2 : t2 (a + 2) (t a 9).toNat = op := by rw [p2.en 2 _ (by omega) (by omega) (by omega)]; exact H.e2
  rw [l_hop2 hT (by omega) (by omega) (by omega) (by omega) (by rw [tp2]; omega) (by omega) (by rw [k2]; exact r5) (by rw [k2, r6]; exact hy) c1 c2]
  rw [tp2, oe2]
  have H' := H2_2 (a := a) (t := t2) (op := op) (i := i + 1 + (kX e).length + 1 + ka.length + 1) (b := i + 1 + (kX e).length + 1 + ka.length + 2) (by omega)
  rw [tp2] at H'
  generalize hg2 : en2 t2 a op (i + 1 + (kX e).length + 1 + ka.length + 1) (i + 1 + (kX e).length + 1 + ka.length + 2) = t3 at H' ⊢
  have k3 : tok t3 a = tok t a := by rw [tok_of (H'.fa 1 (by omega) (by omega)) (fun j => H'.fr (a + 1) j (by omega)), k2]
  have d1 := H'.fa 1 (by omega) (by omega)
  have d9 := H'.f9
  have d11 := H'.f11
  have d12 := H'.fa 12 (by omega) (by omega)
  have d13 := H'.fa 13 (by omega) (by omega)
  refine wb t3 _ (i + 1 + (kX e).length + 1 + ka.length + 3 + kb.length) (n2 + 1) (by omega) (by omega) (by omega) (by omega) (by omega) ?_ ?_ ?_ (by omega) (by omega) (by rw [k3]; rw [show i + 1 + ((kX e).length : Int) + 1 + ka.length + 3 = i + 1 + (kX e).length + 1 + ka.length + 1 + 1 + 1 by omega]; exact r8) (by omega) (fun t4 n4 p4 c3 c4 => ?_)
  · rw [d11, d13, b11, a11, b13, a13]; unfold mx; split <;> split <;> omega
  · rw [d12, b12, a12]; split <;> omega
  · rw [d12, b12, a12]; split <;> omega
  have e1 := p4.fa 1 (by omega) (by omega) (by omega)
  have e9 := p4.f9
  have e11 := p4.fa 11 (by omega) (by omega) (by omega)
  have k4 : tok t4 a = tok t a := by rw [SetP_tok p4, k3]
  have tp4 : topH t4 a = t a 9 := by
    unfold topH
    rw [if_pos (by omega), e11, d11, b11, a11, show (t a 11 + 1 - 0 - 1).toNat = (t a 11).toNat by omega, p4.op _ (by omega), H'.fr _ _ (by omega), p2.op _ (by omega)]
    exact H.os1
  have oe4 : t4 (a + 2) (t a 9).toNat = op := by rw [p4.en 2 _ (by omega) (by omega) (by omega), H'.en 2 _ (by omega) (by omega) (by omega) (by omega)]; exact oe2
  have r9' : tok t a (i + 1 + (kX e).length + 1 + ka.length + 3 + kb.length) = 125 := by
    rw [show i + 1 + ((kX e).length : Int) + 1 + ka.length + 3 + kb.length = i + 1 + (kX e).length + 1 + ka.length + 1 + 1 + 1 + kb.length by omega]; exact r9
  have r10' : seg (tok t a) (i + 1 + (kX e).length + 1 + ka.length + 3 + kb.length + 1) (j - 1) z0 := by
    rw [show i + 1 + ((kX e).length : Int) + 1 + ka.length + 3 + kb.length + 1 = i + 1 + (kX e).length + 1 + ka.length + 1 + 1 + 1 + kb.length + 1 by omega]
    rw [show j - 1 = i + 1 + ((kX e).length : Int) + 1 + ka.length + 1 + 1 + 1 + kb.length + 1 + z0.length by omega]
    exact r10
  have r11' : tok t a (j - 1) = 59 := by
    rw [show j - 1 = i + 1 + ((kX e).length : Int) + 1 + ka.length + 1 + 1 + 1 + kb.length + 1 + z0.length by omega]; exact r11
  have hnx : nxt (tok t4 a) (t4 a 1) 59 (i + 1 + (kX e).length + 1 + ka.length + 3 + kb.length) = j - 1 := by
    rw [k4]
    refine nxt_seg (l := 125 :: z0) (seg_cons r9' r10') (fun v hv => ?_) r11' (by omega)
    rcases List.mem_cons.mp hv with rfl | hv
    · omega
    · exact (hz v hv).1
  have hz9 : ¬ tok t a (i + 1 + (kX e).length + 1 + ka.length + 3 + kb.length + 1) = 209 ∧ ¬ tok t a (i + 1 + (kX e).length + 1 + ka.length + 3 + kb.length + 1) = 212 := by
    match z0, hz2, r10', r11' with
    | [], _, r10', r11' =>
      have := seg_len r10'
      simp at this
      rw [← this, r11']; omega
    | v :: z, hz2, r10', _ =>
      rw [(seg_hd r10').1]
      simp at hz2
      exact hz2
  rw [l_hop3 hT (by omega) (by omega) (by omega) (by omega) (by rw [tp4]; omega) (by omega) (by rw [k4]; exact r9') (by rw [k4]; exact hz9.1) (by rw [k4]; exact hz9.2) hnx (by omega) (by omega) c3 c4]
  rw [tp4, oe4]
  have H'' := H2_3 (a := a) (t := t4) (op := op) (i := i + 1 + (kX e).length + 1 + ka.length + 3 + kb.length + 1) (b := i + 1 + (kX e).length + 1 + ka.length + 3 + kb.length + 2) (by omega)
  rw [tp4] at H''
  generalize hg3 : en3 t4 a op (i + 1 + (kX e).length + 1 + ka.length + 3 + kb.length + 1) (i + 1 + (kX e).length + 1 + ka.length + 3 + kb.length + 2) = t5 at H'' ⊢
  refine hQ t5 (n4 + 1) ?_ (by omega) (by omega)
  have fin := SetP_2 (p := t a 9) h2 h4 rfl rfl rfl H p2 H' p4 H'' (by omega) (by omega)
  have em : mx (da : Int) (db : Int) + 1 = ((max da db + 1 : Nat) : Int) := by unfold mx; split <;> omega
  rw [em] at fin
  have g1 : i + 1 + ((kX e).length : Int) + 1 = i + (kX e).length + 2 := by omega
  have g2 : t1 a 9 = t a 9 + 1 := a9
  have g3 : t3 a 9 = t a 9 + na + 1 + 1 := by omega
  rw [g1, g2, g3] at fin
  have g4 : i + ((kX e).length : Int) + 2 + ka.length + 1 = i + (kX e).length + 2 + ka.length + 3 - 2 := by omega
  have g5 : i + ((kX e).length : Int) + 2 + ka.length + 2 = i + (kX e).length + 2 + ka.length + 3 - 1 := by omega
  have g6 : i + ((kX e).length : Int) + 2 + ka.length + 3 + kb.length + 2 = i + (kX e).length + 2 + ka.length + 3 + kb.length + 1 + 1 := by omega
  rw [g4, g5, g6] at fin
  exact fin
theorem WkP_C1 {ka : List Int} {na : Nat} {ta : Int → Int → List Ent} {da sa lv : Nat} (hT : isT a) (e : EE c) (he : wX e) (hv : 1 ≤ lv) (wa : WkP L d a f g Q ka na ta da sa lv) : WkP L d a f g Q (215 :: (kX e ++ 123 :: (ka ++ [125, 59]))) (na + 2) (fun i p =>
    let i1 := i + (kX e).length + 2
    let q := p + na + 1
    let i3 := i1 + ka.length + 1
    (215, 1, i, i + 1, p, q, q) :: (ta i1 (p + 1) ++ [(215, 3, i3, i3 + 1, p, q, q)])) (da + 1) 1 (lv + 1) := by
  intro t i j n h1 h2 h3 h4 h5 h6 h7 h8 h9 h10 hs hj hQ
  obtain ⟨r1, hs⟩ := seg_hd hs
  obtain ⟨r2, hs⟩ := seg_split hs
  obtain ⟨r3, hs⟩ := seg_hd hs
  obtain ⟨r4, hs⟩ := seg_split hs
  obtain ⟨r5, hs⟩ := seg_hd hs
  obtain ⟨r6, hs⟩ := seg_hd hs
  have hjl := seg_len hs
  simp at hjl
  have hp : kPart (tok t a i) = true := by rw [r1]; unfold kPart; simp
  rw [l_hop1 hT h1 h2 (by omega) h4 (by omega) ⟨h7, by omega⟩ e he hp (by omega) r2 r3 h9 h10]
  have H := H1_en (op := tok t a i) (i := i) (b := i + 1) h2 h4
  generalize hg1 : en1 (ou1 t a) a (tok t a i) i (i + 1) = t1 at H ⊢
  rw [r1] at H
  have k1 : tok t1 a = tok t a := tok_of (H.fa 1 (by omega) (by omega) (by omega) (by omega)) (fun j => H.fr (a + 1) j (by omega))
  have a1 := H.fa 1 (by omega) (by omega) (by omega) (by omega)
  have a9 := H.f9
  have a11 := H.f11
  have a12 := H.f12
  have a13 := H.f13
  refine wa t1 _ (i + 1 + (kX e).length + 1 + ka.length) (n + 1) (by omega) (by omega) (by omega) (by omega) (by omega) ?_ ?_ ?_ (by omega) (by omega) (by rw [k1]; exact r4) (by omega) (fun t2 n2 p2 c1 c2 => ?_)
  · rw [a11, a13]; unfold mx; split <;> omega
  · rw [a12]; split <;> omega
  · rw [a12]; split <;> omega
  have b1 := p2.fa 1 (by omega) (by omega) (by omega)
  have b9 := p2.f9
  have b11 := p2.fa 11 (by omega) (by omega) (by omega)
  have k2 : tok t2 a = tok t a := by rw [SetP_tok p2, k1]
  have tp2 : topH t2 a = t a 9 := by
    unfold topH
    rw [if_pos (by omega), b11, a11, show (t a 11 + 1 - 1).toNat = (t a 11).toNat by omega, p2.op _ (by omega)]
    exact H.os1
  have oe2 : t2 (a + 2) (t a 9).toNat = 215 := by rw [p2.en 2 _ (by omega) (by omega) (by omega)]; exact H.e2
  have hnx : nxt (tok t2 a) (t2 a 1) 59 (i + 1 + (kX e).length + 1 + ka.length) = j - 1 := by
    rw [k2]
    refine nxt_seg (l := [125]) ?_ (fun v hv => ?_) ?_ (by omega)
    · rw [show j - 1 = i + 1 + ((kX e).length : Int) + 1 + ka.length + 1 by omega]; exact seg_one r5
    · rw [List.mem_singleton.mp hv]; omega
    · rw [show j - 1 = i + 1 + ((kX e).length : Int) + 1 + ka.length + 1 by omega]; exact r6
  rw [l_hop3 hT (by omega) (by omega) (by omega) (by omega) (by rw [tp2]; omega) (by omega) (by rw [k2]; exact r5) (by rw [k2, r6]; omega) (by rw [k2, r6]; omega) hnx (by omega) (by omega) c1 c2]
  rw [tp2, oe2]
  have H'' := H2_3 (a := a) (t := t2) (op := 215) (i := i + 1 + (kX e).length + 1 + ka.length + 1) (b := i + 1 + (kX e).length + 1 + ka.length + 2) (by omega)
  rw [tp2] at H''
  generalize hg3 : en3 t2 a 215 (i + 1 + (kX e).length + 1 + ka.length + 1) (i + 1 + (kX e).length + 1 + ka.length + 2) = t5 at H'' ⊢
  refine hQ t5 (n2 + 1) ?_ (by omega) (by omega)
  have fin := SetP_1 (p := t a 9) h2 h4 rfl rfl H p2 H'' (by omega)
  have g1 : i + 1 + ((kX e).length : Int) + 1 = i + (kX e).length + 2 := by omega
  rw [g1, a9] at fin
  have g6 : i + ((kX e).length : Int) + 2 + ka.length + 2 = i + (kX e).length + 2 + ka.length + 1 + 1 := by omega
  rw [g6] at fin
  exact fin
def stB {c : Nat} : (b : Nat) → TB c b → Nat
  | 0, x => nomatch x
  | _ + 1, l => List.length l
theorem kS_pos {c : Nat} (s : SS c) : 1 ≤ (kS s).length := by rw [kS_0]; simp
theorem kC_pos {c : Nat} {T : Type} (kb : T → List Int) (s : CC c T) : 1 ≤ (kC kb s).length := by
  match s with
  | .inl (k, e, a, b, e2) => simp [kC]
  | .inr (.inl (e, a, b)) => simp [kC]
  | .inr (.inr (e, a)) => simp [kC]
theorem k1_pos {c : Nat} {T : Type} (kb : T → List Int) (s : SS c ⊕ CC c T) : 1 ≤ (k1 kb s).length := by
  match s with
  | .inl s => exact kS_pos s
  | .inr s => exact kC_pos kb s
def dp1 {c : Nat} {T : Type} (db : T → Nat) : SS c ⊕ CC c T → Nat
  | .inl _ => 0
  | .inr s => dpC db s
def dpL {c : Nat} {T : Type} (db : T → Nat) : List (SS c ⊕ CC c T) → Nat
  | [] => 0
  | s :: l => max (dp1 db s) (dpL db l)
theorem dpB_L {c : Nat} (b : Nat) (l : TB c (b + 1)) : dpB (b + 1) l = dpL (dpB b) l := by
  have : ∀ (l : List (SS c ⊕ CC c (TB c b))) (m : Nat), List.foldl (fun m (s : SS c ⊕ CC c (TB c b)) => match s with
    | .inl _ => m
    | .inr s => max m (dpC (dpB b) s)) m l = max m (dpL (dpB b) l) := by
    intro l
    induction l with
    | nil => intro m; simp [dpL]
    | cons s l ih =>
      intro m
      rw [List.foldl_cons, ih]
      match s with
      | .inl s => simp [dpL, dp1]
      | .inr s => simp only [dpL, dp1]; omega
  exact (this l 0).trans (by omega)
theorem WkP_L {o : Bool} {T : Type} {kb : T → List Int} {nb : T → Nat} {tb : T → Int → Int → List Ent} {db sb : T → Nat} {wb : T → Prop} {lv : Nat} (hT : isT a) (hb : ∀ x, wb x → 1 ≤ lv ∧ WkP L d a f g Q (kb x) (nb x) (tb x) (db x) (sb x) lv) : ∀ (l : List (SS c ⊕ CC c T)), allL (w1 o wb) l → WkP L d a f g Q (List.flatMap (k1 kb) l) (List.map (n1 nb) l).sum (tbL kb nb tb l) (dpL db l) l.length (lv + 1) := by
  intro l
  induction l with
  | nil => intro _; exact WkP_nil
  | cons s l ih =>
    intro hw
    have hs := hw s List.mem_cons_self
    have hl := ih (fun x hx => hw x (List.mem_cons_of_mem _ hx))
    have h1 : WkP L d a f g Q (k1 kb s) (n1 nb s) (fun i p => tb1 kb nb tb i p s) (dp1 db s) 1 (lv + 1) := by
      match s, hs with
      | .inl s, hs => exact WkP_S hT (by omega) s hs
      | .inr (.inl (k, e, x, y, e2)), hs =>
        obtain ⟨_, hk, he, hx, hy, he2⟩ := hs
        have q1 := hb x hx
        have q2 := hb y hy
        have := WkP_C2 (op := k) (y := if k = 208 then 209 else 212) (z0 := (if k = 208 then 210 else 213) :: kX e2) hT e he (by omega) (by split <;> omega) (by
          intro v hv
          rcases List.mem_cons.mp hv with rfl | hv
          · unfold nSep; split <;> omega
          · exact eTk_s (kX_e e2 he2 v hv)) (by simp only [List.head?_cons, Option.some.injEq]; split <;> omega) q1.1 q1.2 q2.2
        simp only [List.cons_append] at this
        exact this
      | .inr (.inr (.inl (e, x, y))), hs =>
        obtain ⟨_, he, hx, hy⟩ := hs
        have q1 := hb x hx
        have q2 := hb y hy
        exact WkP_C2 (op := 216) (y := 209) (z0 := []) hT e he (by omega) (by omega) (by intro v hv; exact absurd hv List.not_mem_nil) (by simp) q1.1 q1.2 q2.2
      | .inr (.inr (.inr (e, x))), hs =>
        obtain ⟨_, he, hx⟩ := hs
        have q1 := hb x hx
        exact WkP_C1 hT e he q1.1 q1.2
    have := WkP_app (k1_pos kb s) h1 hl
    rw [List.flatMap_cons, List.map_cons, List.sum_cons, List.length_cons, Nat.add_comm l.length 1]
    exact this
theorem WkP_B {o : Bool} (hT : isT a) : ∀ (b : Nat) (x : TB c b), wB o b x → 1 ≤ b ∧ WkP L d a f g Q (kB b x) (nB b x) (tbB b x) (dpB b x) (stB b x) b := by
  intro b
  induction b with
  | zero => intro x; exact nomatch x
  | succ b ih =>
    intro x hx
    refine ⟨by omega, ?_⟩
    rw [dpB_L]
    exact WkP_L hT ih x hx
end
