/-! A text that was shaped becomes a routine's, of both -/
theorem kOrd_lo {v : Int} (h : v < 214) : kOrd v = false := by unfold kOrd; simp; omega
section
variable {c : Nat}
theorem kS_ord (s : SS c) (h : wS false s) (m : List Int) : kOrd ((kS s ++ m).headD 0) = false := by
  match s, h with
  | .inl (k, n, e), h =>
    have hk : k = 200 ∨ k = 201 := by have := h.1; simpa using this
    exact kOrd_lo (show k < 214 by omega)
  | .inr (.inl (p, o, e)), h =>
    match p, h with
    | .inl n, h => exact kOrd_lo (show n < 214 by have : kName n = true := h.2.1; unfold kName at this; simp at this; omega)
    | .inr (rr, e'), h => exact kOrd_lo (show rr < 214 by have : kRow rr = true := h.2.1.1; unfold kRow at this; simp at this; omega)
  | .inr (.inr (.inl (p, q))), h =>
    match p, h with
    | .inl n, h => exact kOrd_lo (show n < 214 by have : kName n = true := h.2.1; unfold kName at this; simp at this; omega)
    | .inr (rr, e'), h => exact kOrd_lo (show rr < 214 by have : kRow rr = true := h.2.1.1; unfold kRow at this; simp at this; omega)
  | .inr (.inr (.inr (.inl (k, n, s)))), h => exact kOrd_lo (show k < 214 by have := h.2.1; omega)
  | .inr (.inr (.inr (.inr (.inl (k, rr, dd, e))))), h => exact kOrd_lo (show k < 214 by have := h.2.1; omega)
  | .inr (.inr (.inr (.inr (.inr (k, n))))), h => exact kOrd_lo (show k < 214 by have := h.2.1; omega)
theorem kC_ord {Y : Type} {kb : Y → List Int} {wb : Y → Prop} (s : CC c Y) (h : wC false wb s) (m : List Int) : kOrd ((kC kb s ++ m).headD 0) = false := by
  match s, h with
  | .inl (k, e, x, y, e2), h => exact kOrd_lo (show k < 214 by have := h.2.1; omega)
  | .inr (.inl (e, x, y)), h => exact absurd h.1 (by decide)
  | .inr (.inr (e, x)), h => exact absurd h.1 (by decide)
theorem kB_ord (b : Nat) (x : TB c b) (h : wB false b x) : kOrd ((kB b x).headD 0) = false := by
  match b, x, h with
  | b + 1, [], h => exact (show kOrd 0 = false by decide)
  | b + 1, (.inl s) :: l, h => exact kS_ord s (h _ (List.mem_cons_self ..)) _
  | b + 1, (.inr s) :: l, h => exact kC_ord s (h _ (List.mem_cons_self ..)) _
end
section
variable {T : Int → Int}
theorem pq_get : ∀ (l : List Int) (i j : Int) (q : Nat), seg T i j l → q < l.length → ((pqL (T (i - 1)) l).map Prod.fst).getD q 0 = eS T (i + q) ∧ ((pqL (T (i - 1)) l).map Prod.snd).getD q 0 = whc (T (i + q)) := by
  intro l
  induction l with
  | nil => intro i j q _ h; simp at h
  | cons v l ih =>
    intro i j q hs hq
    obtain ⟨hv, hs'⟩ := seg_hd hs
    match q, hq with
    | 0, _ =>
      rw [show i + ((0 : Nat) : Int) = i by omega]
      refine ⟨?_, ?_⟩
      · show eSl (T (i - 1)) v = eS T i
        unfold eS eSl; rw [hv]
      · show whc v = whc (T i)
        rw [hv]
    | q + 1, hq =>
      have := ih (i + 1) j q hs' (by rw [List.length_cons] at hq; omega)
      rw [show i + 1 - 1 = i by omega, hv] at this
      rw [show i + ((q + 1 : Nat) : Int) = i + 1 + q by omega]
      exact this
end
section
variable {a : Nat} {t : Mem} {l : List Int}
theorem PT_tks : ∀ (n k : Nat), k + n = l.length → tks (fun i => l.getD i.toNat 0) (k : Int) n = l.drop k := by
  intro n
  induction n with
  | zero => intro k hk; rw [List.drop_eq_nil_of_le (by omega)]; rfl
  | succ n ih =>
    intro k hk
    have := ih (k + 1) (by omega)
    rw [List.drop_eq_getElem_cons (show k < l.length by omega)]
    show (l.getD (k : Int).toNat 0) :: tks _ ((k : Int) + 1) n = _
    rw [show ((k : Int) + 1) = ((k + 1 : Nat) : Int) from rfl, this, Int.toNat_natCast]
    rw [List.getD_eq_getElem?_getD, List.getElem?_eq_getElem (show k < l.length by omega)]
    rfl
theorem PT_tk (i : Int) : tok (PSt (a + 1) a 1 t l) a i = if 0 ≤ i ∧ i < l.length then l.getD i.toNat 0 else 0 := by
  unfold tok
  rw [PT_1]
  by_cases h : 0 ≤ i ∧ i < l.length
  · rw [if_pos h, if_pos h, PS_v (by omega)]
  · rw [if_neg h, if_neg h]
theorem PT_seg : seg (tok (PSt (a + 1) a 1 t l) a) 0 (PSt (a + 1) a 1 t l a 1) l := by
  rw [PT_1]
  refine ⟨by omega, ?_⟩
  have h := PT_tks (l := l) l.length 0 (by omega)
  rw [List.drop_zero] at h
  rw [show ((l.length : Int) - 0).toNat = l.length by omega]
  have key : ∀ (n k : Nat), k + n ≤ l.length → tks (tok (PSt (a + 1) a 1 t l) a) (k : Int) n = tks (fun i => l.getD i.toNat 0) (k : Int) n := by
    intro n
    induction n with
    | zero => intro k _; rfl
    | succ n ih =>
      intro k hk
      show tok (PSt (a + 1) a 1 t l) a (k : Int) :: tks _ ((k : Int) + 1) n = l.getD (k : Int).toNat 0 :: tks _ ((k : Int) + 1) n
      rw [PT_tk, if_pos (by omega), show ((k : Int) + 1) = ((k + 1 : Nat) : Int) from rfl, ih (k + 1) (by omega)]
  have k0 := key l.length 0 (by omega)
  have z0 : ((0 : Nat) : Int) = 0 := rfl
  rw [z0] at k0 h
  rw [k0, h]
end
section
variable {L d r c : Nat} {X : Nat → Tre} {TH : Nat} {f F t g : Mem} {Q : Option TV → Wd → Prop}
theorem bec_both (y : TB c 6) (hc : c ≤ 11) (hw : wB false 6 y) (hn : nB 6 y ≤ 40) (hlen : (kB 6 y).length ≤ 1000) (hwt : wtL (kB 6 y) ≤ 4000) (hR : RelX X TH f t g) (hr : r < 10) (hF : ∀ b j, ¬ b = 18 → F b j = f b j) (hQ : ∀ v f' t', (∀ (L d : Nat) (Q : Option TV → Wd → Prop), (∀ g', Rel f' t' g' → (∀ j, g' 900 j = g 900 j) → Q (some (tI v)) (WW f' t' g')) → VV L (d + 14) m_M_becomes 0 [some (tA 156), some (tI r), some (tI 0), none] [] (WW f' t' (emM g (pqL 0 (kB 6 y)))) Q) → Q (some (tI v)) (WW f' t' g)) : VV L (d + 5) m_T_becomes 0 [some (tA 1), some (tI r), none] [] (WW F (PSt ((f 1 3).toNat + 1) (f 1 3).toNat 1 t (kB 6 y)) g) Q := by
  have e13 : F 1 3 = f 1 3 := hF 1 3 (by omega)
  have e3 : ∀ q, F 3 q = f 3 q := fun q => hF 3 q (by omega)
  have ha : ∀ q, aT F q = aT f q := fun q => by unfold aT; rw [e3]
  obtain ⟨a, ea⟩ : ∃ a, a = (f 1 3).toNat := ⟨_, rfl⟩
  have hTa : isT a := by rw [ea]; exact hR.tx.sp
  have hTb : isT (f 3 r).toNat := hR.tx.tc.tt r hr
  have hsg := PT_seg (a := a) (t := t) (l := kB 6 y)
  have hL1 := PT_1 (a := a) (t := t) (l := kB 6 y)
  refine p_T_becomes (o := false) hr (by rw [e13]; exact hR.tx.sp) (by rw [e3]; exact hTb) (by rw [e13, ← ea, hL1]; omega) (by rw [e13, ← ea, hL1]; omega) y hw (by rw [e13, ← ea]; exact hsg) hn (fun t' hLd => ?_)
  rw [e13, ← ea] at hLd
  have tok' : tok t' a = tok (PSt (a + 1) a 1 t (kB 6 y)) a := tok_of hLd.f1 (fun j => hLd.fr _ _ (by omega))
  have e1 : t' a 1 = ((kB 6 y).length : Int) := by rw [hLd.f1]; exact hL1
  have h0t : kOrd (tok t' a 0) = false := by
    rw [tok', PT_tk]
    have h9 := kB_ord 6 y hw
    by_cases h : (0 : Int) ≤ 0 ∧ (0 : Int) < (kB 6 y).length
    · rw [if_pos h]
      cases hk : kB 6 y with
      | nil => decide
      | cons v l => rw [hk] at h9; exact h9
    · rw [if_neg h]; decide
  have hTC : TCo t' a false y := by
    refine ⟨hc, hw, e1, ?_, ?_, hn, hLd.f9, TO9_B (lo := 0) 6 y 0 0 (Int.le_refl _) hLd.tb, h0t⟩
    · rw [tok', e1, ← hL1]; exact hsg
    · rw [e1]; omega
  have hTK : TK t' a false y := by
    refine ⟨hLd.f12, hLd.f13, ?_, hwt, fun hh => absurd hh (by decide)⟩
    rw [tok', e1, ← hL1]; exact hLd.f14
  have ht : ∀ b j, ¬ (a ≤ b ∧ b ≤ a + 9) → t' b j = t b j := fun b j hh => by
    rw [hLd.fr b j (by omega)]; exact PS_o (by omega) (by omega)
  refine hQ _ _ _ (fun L d Q hq => ?_)
  have hT9 : ∀ q : Nat, q < (kB 6 y).length → emM g (pqL 0 (kB 6 y)) 159 q = eS (tok t' a) q ∧ emM g (pqL 0 (kB 6 y)) 160 q = whc (tok t' a q) := fun q hq => by
    have h1 := emM_v (g := g) (P := pqL 0 (kB 6 y)) (j := q) (by rw [pqL_len]; exact hq)
    have h2 := pq_get (T := tok t' a) (kB 6 y) 0 _ q hTC.sg hq
    have h3 : tok t' a (0 - 1) = 0 := by rw [tok', PT_tk, if_neg (by omega)]
    rw [h3, Int.zero_add] at h2
    rw [h1.1, h1.2]; exact h2
  refine p_M_becomes (d := d) (len := (kB 6 y).length) (T := tok t' a) (od := false) hr hlen (by rw [emM_n, pqL_len]) hT9 (fun q hq => by rw [tok', PT_tk, if_neg (by omega)]) (Or.inl rfl) y hw (by rw [← e1]; exact hTC.sg) hn (fun g' hBec => ?_)
  have gO : ∀ b j, (b < 156 ∨ (156 < b ∧ b < 159) ∨ 173 < b) → g' b j = g b j := fun b j hh => by rw [hBec.fr b j (by omega), emM_o (by omega)]
  have g6 : ∀ j, ¬ j = 54 → ¬ j = 11 → g' 156 j = g 156 j := fun j hh h11 => by rw [hBec.fa j hh, emM_o (by omega)]
  have hta : ∀ q, aT (bcT F r) q = if q = r then (f 1 3).toNat else aT f q := fun q => by rw [bcT_a, e13, ha]
  have fO : ∀ b j, ¬ (b = 18 ∨ b = 3 ∨ (b = 1 ∧ j = 3) ∨ (b = 151 ∧ j = 11)) → bcT F r b j = f b j := fun b j hh => by rw [bcT_o (by omega), hF b j (by omega)]
  have hTM : TMo g' r (tok t' a) false y := ⟨hBec.rt, hBec.tb, hBec.nn, hBec.od⟩
  have tx' := Rtext_bec (f' := bcT F r) (g' := g') (t' := t') (r := r) y hR.tx hr hta (by rw [bcT_s, ha]) (by rw [← ea]; exact ht) (by rw [← ea]; exact hTC) (by rw [← ea]; exact hTK) (by rw [← ea]; exact hLd.f15) (by rw [← ea]; exact hTM) hBec.th (fun c k q1 q2 => by rw [hBec.f1 c k q1 q2, emM_o (by omega)]) (fun c k q1 q2 => by rw [hBec.f2 c k q1 q2, emM_o (by omega)]) (fun c k q1 q2 q3 => by rw [hBec.f3 c k q1 q2 q3, emM_o (by omega)])
  refine hq g' ⟨_, TH, RelX_mk ⟨Rtape_fr hR.tp (fun b j hh => fO b j (by omega)) (fun b j hh => ?_), tx', Rout_fr hR.ou (fun b j hh => fO b j (by omega)) (fun b j hh => ?_), RSt_fr2 hR.st (fun b j _ _ => fO b j (by omega)) (fun b j hh => ?_), RC_fr hR.rc (hC_15 hR.st) (fun b j _ _ => fO b j (by omega)), Rrun_stop hR.rn ?_ hBec.run ?_ ?_, Rflt_fr hR.fl (fun b j hh => fO b j (by omega)) (fun b j hh => ?_)⟩⟩ (fun j => gO 900 j (by omega))
  · rcases hh with ⟨rfl, rfl⟩ | rfl
    · exact g6 1 (by omega) (by omega)
    · exact gO 157 j (by omega)
  · rcases hh with ⟨rfl, rfl⟩ | rfl
    · exact g6 3 (by omega) (by omega)
    · exact gO 158 j (by omega)
  · rcases hh with hh | ⟨rfl, rfl⟩
    · exact gO b j (by omega)
    · exact g6 35 (by omega) (by omega)
  · unfold bcT; rw [rd, if_pos (by simp)]
  · exact fO 151 10 (by omega)
  · exact g6 62 (by omega) (by omega)
  · obtain ⟨rfl, hj⟩ := hh
    exact g6 j (by omega) (by omega)
end
