/-! A text becomes a routine's; read of both -/
section
variable {L d r c : Nat} {X : Nat → Tre} {TH : Nat} {f f' t t' g g' : Mem} {Q : Option TV → Wd → Prop}
theorem TMo_o {q : Nat} {T : Int → Int} {o : Bool} {x : TB c 6} (h : TMo g q T o x) (hn : nB 6 x ≤ 40) (hne : ¬ q = r) (f1 : ∀ c k, (c = 161 ∨ c = 162 ∨ c = 163 ∨ c = 166) → ¬ k = r → g' c k = g c k) (f2 : ∀ c k, (c = 164 ∨ c = 165) → (k < 1600 * r ∨ 1600 * r + 1600 ≤ k) → g' c k = g c k) (f3 : ∀ c k, 167 ≤ c → c ≤ 173 → (k < 40 * r ∨ 40 * r + 40 ≤ k) → g' c k = g c k) : TMo g' q T o x := by
  have l1 := h.rt.l1
  refine ⟨⟨?_, fun i hi => ?_, fun i hi => ?_, h.rt.z, h.rt.r10, l1⟩, RLt_mono _ _ h.ro (fun c k h1 h2 _ h4 => ?_), ?_, ?_⟩
  · rw [f1 163 q (by omega) hne]; exact h.rt.l
  · rw [f2 164 _ (by omega) (by omega)]; exact h.rt.s i hi
  · rw [f2 165 _ (by omega) (by omega)]; exact h.rt.w i hi
  · rw [t9B_len] at h4
    exact f3 c _ h1 h2 (by omega)
  · rw [f1 166 q (by omega) hne]; exact h.nn
  · rw [f1 162 q (by omega) hne]; exact h.od
theorem Rtext_bec {o : Bool} (x : TB c 6) (h : Rtext X f t g) (hr : r < 10) (hta : ∀ q, aT f' q = if q = r then (f 1 3).toNat else aT f q) (hsp : (f' 1 3).toNat = aT f r) (ht : ∀ b j, ¬ ((f 1 3).toNat ≤ b ∧ b ≤ (f 1 3).toNat + 9) → t' b j = t b j) (hx : TCo t' (f 1 3).toNat o x) (hk : TK t' (f 1 3).toNat o x) (h15 : t' (f 1 3).toNat 15 = 1) (hy : TMo g' r (tok t' (f 1 3).toNat) o x) (h161 : g' 161 r = 1) (f1 : ∀ c k, (c = 161 ∨ c = 162 ∨ c = 163 ∨ c = 166) → ¬ k = r → g' c k = g c k) (f2 : ∀ c k, (c = 164 ∨ c = 165) → (k < 1600 * r ∨ 1600 * r + 1600 ≤ k) → g' c k = g c k) (f3 : ∀ c k, 167 ≤ c → c ≤ 173 → (k < 40 * r ∨ 40 * r + 40 ≤ k) → g' c k = g c k) : Rtext (fun q => if q = r then ⟨c, o, x⟩ else X q) f' t' g' := by
  have er : (fun q => if q = r then (⟨c, o, x⟩ : Tre) else X q) r = ⟨c, o, x⟩ := if_pos rfl
  have eo : ∀ q, ¬ q = r → (fun q => if q = r then (⟨c, o, x⟩ : Tre) else X q) q = X q := fun q hq => if_neg hq
  have ar : aT f' r = (f 1 3).toNat := by rw [hta, if_pos rfl]
  have ao : ∀ q, ¬ q = r → aT f' q = aT f q := fun q hq => by rw [hta, if_neg hq]
  have far : ∀ q, q < 10 → ∀ b j, aT f q ≤ b → b ≤ aT f q + 9 → t' b j = t b j := by
    intro q hq b j h1 h2
    have := isT_far (h.tc.tt q hq) h.sp (h.sd q hq)
    exact ht b j (by omega)
  have tkq : ∀ q, q < 10 → tok t' (aT f q) = tok t (aT f q) := fun q hq => tok_of (far q hq _ _ (by omega) (by omega)) (fun j => far q hq _ _ (by omega) (by omega))
  refine ⟨⟨fun q hq => ?_, fun q hq => ?_, fun q hq h1 => ?_⟩, ⟨fun q hq => ?_, fun q hq h1 => ?_⟩, fun q1 q2 h1 h2 h3 => ?_, ?_, fun q hq => ?_, fun q hq h1 => ?_⟩
  · by_cases e : q = r
    · subst e; rw [ar]; exact h.sp
    · rw [ao q e]; exact h.tc.tt q hq
  · by_cases e : q = r
    · subst e; rw [ar]; exact Or.inr h15
    · rw [ao q e, far q hq _ _ (by omega) (by omega)]; exact h.tc.th q hq
  · by_cases e : q = r
    · subst e; rw [ar, er]; exact hx
    · rw [ao q e] at h1 ⊢
      rw [far q hq _ _ (by omega) (by omega)] at h1
      rw [eo q e]; exact TCo_fr (h.tc.ok q hq h1) (far q hq)
  · by_cases e : q = r
    · subst e; rw [ar, h15, h161]
    · rw [ao q e, far q hq _ _ (by omega) (by omega), f1 161 q (by omega) e]; exact h.tm.th q hq
  · by_cases e : q = r
    · subst e; rw [ar, er]; exact hy
    · rw [ao q e] at h1 ⊢
      rw [far q hq _ _ (by omega) (by omega)] at h1
      rw [eo q e, tkq q hq]; exact TMo_o (h.tm.ok q hq h1) (h.tc.ok q hq h1).n40 e f1 f2 f3
  · by_cases e1 : q1 = r
    · by_cases e2 : q2 = r
      · rw [e1, e2]
      · rw [e1, ar, ao q2 e2] at h3; exact absurd h3.symm (h.sd q2 h2)
    · by_cases e2 : q2 = r
      · rw [e2, ar, ao q1 e1] at h3; exact absurd h3 (h.sd q1 h1)
      · rw [ao q1 e1, ao q2 e2] at h3; exact h.ds q1 q2 h1 h2 h3
  · rw [hsp]; exact h.tc.tt r hr
  · by_cases e : q = r
    · subst e; rw [ar, hsp]; exact fun hh => h.sd q hq hh.symm
    · rw [ao q e, hsp]; exact fun hh => e (h.ds q r hq hr hh)
  · by_cases e : q = r
    · subst e; rw [ar, er]; exact hk
    · rw [ao q e] at h1 ⊢
      rw [far q hq _ _ (by omega) (by omega)] at h1
      rw [eo q e]; exact TK_fr (h.tk q hq h1) (far q hq)
theorem bcT_o {b j : Nat} (h : ¬ (b = 3 ∧ j = r) ∧ ¬ (b = 1 ∧ j = 3) ∧ ¬ (b = 151 ∧ j = 11)) : bcT f r b j = f b j := by
  unfold bcT; rw [rd, if_neg h.2.2, rd, if_neg h.2.1, rd, if_neg h.1]
theorem bcT_a (q : Nat) : aT (bcT f r) q = if q = r then (f 1 3).toNat else aT f q := by
  unfold aT bcT
  rw [rd, if_neg (by omega), rd, if_neg (by omega), rd]
  by_cases e : q = r
  · rw [if_pos ⟨rfl, e⟩, if_pos e, Int.toNat_natCast]
  · rw [if_neg (fun h => e h.2), if_neg e]
theorem bcT_s : (bcT f r 1 3).toNat = aT f r := by
  unfold bcT aT; rw [rd, if_neg (by omega), rd, if_pos (by simp), Int.toNat_natCast]
theorem yb_ym (hT : Rtape f g) : yb f (f 1 1) = ym g := by
  funext i
  unfold yb ym
  rw [hT.n]
  by_cases h : 0 ≤ i ∧ i < g 156 1
  · rw [if_pos h, if_pos h]; exact (hT.y i.toNat (by rw [hT.n]; omega)).1
  · rw [if_neg h, if_neg h]
theorem B_read {k : Int} : Both tI m_T_read [some (tA 1), some (tI k), none] m_M_read [some (tA 156), some (tI k), none, none] := by
  refine Both_of (fun L d X TH f t g Q hR hQ => ?_)
  by_cases hk : 0 ≤ k ∧ k ≤ 9
  · obtain ⟨r, rfl⟩ : ∃ n : Nat, k = (n : Int) := ⟨k.toNat, by omega⟩
    have hr : r < 10 := by omega
    have hY : okY f (f 1 1) := fun i hi => (hR.tp.y i hi).2
    have hG : okG g := ⟨by rw [← hR.tp.n]; exact hR.tp.l.1, by rw [← hR.tp.n]; exact hR.tp.l.2, fun i hi => by
      have := hR.tp.y i (by rw [hR.tp.n]; exact hi)
      rw [← this.1]; exact this.2⟩
    have hyy := yb_ym hR.tp
    have hl := hR.tp.l
    refine p_T_read (d := d + 80) hr (c := 8) rfl hR.tx.sp (hR.tx.tc.tt r hr) rfl hl.1 hl.2 hY (fun len hL => ?_)
    have hM := fun (L d : Nat) (F t : Mem) (Q : Option TV → Wd → Prop) (hq : RMr 8 (yb f (f 1 1)) len r g F t Q (pTop 8 (Tk (yb f (f 1 1)) len))) => p_M_read (L := L) (d := d + 80) hr (c := 8) rfl hG hyy.symm hR.tp.n.symm hL hq
    have hlow : ∀ k, -1000000000 ≤ Tk (yb f (f 1 1)) len k := fun k => by
      unfold Tk
      split
      · have h := hL.2.2 k.toNat (by omega)
        exact (tv_low hY hl.2 h.1 h.2).1
      · omega
    unfold RMr at hM
    unfold RTr
    cases hp : pTop 8 (Tk (yb f (f 1 1)) len) with
    | error e =>
      obtain ⟨⟨w, i, q⟩, σ⟩ := e
      rw [hp] at hM
      dsimp only at hM ⊢
      intro f1 h1 h2 h3 h4
      refine hQ _ _ _ (fun L d Q hq => hM L d _ _ Q (fun g' k1 k2 k3 => ?_))
      obtain ⟨k1, k4⟩ := k1
      have tO : ∀ b j, ¬ ((f 1 3).toNat ≤ b ∧ b ≤ (f 1 3).toNat + 9) → lxT (yb f (f 1 1)) t (f 1 3).toNat len b j = t b j := fun b j hh => by
        unfold lxT; rw [if_neg (by omega), if_neg (by omega)]
      have far : ∀ q, q < 10 → ∀ b j, aT f q ≤ b → b ≤ aT f q + 9 → lxT (yb f (f 1 1)) t (f 1 3).toNat len b j = t b j := by
        intro q hq b j h1 h2
        have := isT_far (hR.tx.tc.tt q hq) hR.tx.sp (hR.tx.sd q hq)
        exact tO b j (by omega)
      have tx1 : Rtext X f1 t g' := Rtext_fr hR.tx (fun b j hh => h1 b j (by omega)) (fun b j hh => k1 b j (by omega))
      have ha : ∀ q, aT f1 q = aT f q := fun q => by unfold aT; rw [h1 3 q (by omega)]
      have tkq : ∀ q, q < 10 → tok (lxT (yb f (f 1 1)) t (f 1 3).toNat len) (aT f q) = tok t (aT f q) := fun q hq => tok_of (far q hq _ _ (by omega) (by omega)) (fun j => far q hq _ _ (by omega) (by omega))
      have tx2 : Rtext X f1 (lxT (yb f (f 1 1)) t (f 1 3).toNat len) g' := by
        refine ⟨⟨tx1.tc.tt, fun q hq => ?_, fun q hq h => ?_⟩, ⟨fun q hq => ?_, fun q hq h => ?_⟩, tx1.ds, tx1.sp, tx1.sd, fun q hq h => ?_⟩
        · rw [ha, far q hq _ _ (by omega) (by omega)]; exact hR.tx.tc.th q hq
        · rw [ha] at h ⊢
          rw [far q hq _ _ (by omega) (by omega)] at h
          exact TCo_fr (hR.tx.tc.ok q hq h) (far q hq)
        · have := tx1.tm.th q hq
          rw [ha] at this ⊢
          rw [far q hq _ _ (by omega) (by omega)]; exact this
        · rw [ha] at h ⊢
          rw [far q hq _ _ (by omega) (by omega)] at h
          have := tx1.tm.ok q hq (by rw [ha]; exact h)
          rw [ha] at this
          rw [tkq q hq]; exact this
        · rw [ha] at h ⊢
          rw [far q hq _ _ (by omega) (by omega)] at h
          exact TK_fr (hR.tx.tk q hq h) (far q hq)
      have hrn : Rrun f1 (lxT (yb f (f 1 1)) t (f 1 3).toNat len) g' := by
        have h0 := Rrun_fr hR.rn (f' := f1) (g' := g') (fun b j hh => h1 b j (by omega)) (fun b j hh => k1 b j (by omega))
        refine ⟨h0.th, h0.tb, fun hh => ?_, h0.wh⟩
        obtain ⟨q1, q2, q3⟩ := h0.go hh
        refine ⟨?_, q2, q3⟩
        have hv : ∀ q, RvC f1 t q → RvC f1 (lxT (yb f (f 1 1)) t (f 1 3).toNat len) q := fun q hv => by
          obtain ⟨v1, v2, v3⟩ := hv
          rw [ha] at v2 v3
          refine ⟨v1, ?_, ?_⟩
          · rw [ha, far q v1 _ _ (by omega) (by omega)]; exact v2
          · rw [ha, tkq q v1]; exact v3
        obtain ⟨⟨c1, c2, c3, c4, c5⟩, p1, p2, p3⟩ := q1
        refine ⟨⟨c1, c2, hv c1 c3, c4, ?_⟩, p1, p2, fun k hk => ?_⟩
        · rw [ha] at c5 ⊢; rw [far c1 c3.1 _ _ (by omega) (by omega)]; exact c5
        · obtain ⟨b1, b2, b3, b4, b5, b6⟩ := p3 k hk
          rw [ha] at b5 b6
          refine ⟨b1, b2, hv b1 b3, b4, ?_, ?_⟩
          · rw [ha, far b1 b3.1 _ _ (by omega) (by omega)]; exact b5
          · rw [ha, far b1 b3.1 _ _ (by omega) (by omega)]; exact b6
      refine hq g' ⟨X, TH, RelX_mk ⟨⟨?_, ?_, fun i hi => ?_⟩, tx2, Rout_fr hR.ou (fun b j hh => h1 b j (by omega)) (fun b j hh => k1 b j (by omega)), RSt_fr2 hR.st (fun b j _ _ => h1 b j (by omega)) (fun b j hh => k1 b j (by omega)), RC_fr hR.rc (hC_15 hR.st) (fun b j _ _ => h1 b j (by omega)), hrn, ⟨?_, ?_, ?_⟩⟩⟩ (fun j => k1 900 j (by omega))
      · rw [h4, k4]
      · rw [h4]; decide
      · rw [h4] at hi; omega
      · rw [h2, k2]
      · rw [h3, k3]
      · rw [h1 1 11 (by omega), k1 156 64 (by omega)]; exact hR.fl.fb
    | ok z =>
      obtain ⟨x, j, σ⟩ := z
      rw [hp] at hM
      dsimp only at hM ⊢
      intro f1 t' h1 h2 h3 h4 hLd
      obtain ⟨t0, t1, t2, t3, t4, t5⟩ := pTop_t hlow x j σ hp
      have hb := pTop_b (c := 8) (T := Tk (yb f (f 1 1)) len) (len := len) (fun i hi => Tk_rg hi) (by omega)
      rw [hp] at hb
      have hb1 : 0 ≤ j ∧ j ≤ (len : Int) := hb
      have hjl : j = len := by
        by_cases hlt : j < len
        · exact absurd t0 (Tk_nz hY hl.2 hL hb1.1 hlt)
        · omega
      subst hjl
      have e13 : f1 1 3 = f 1 3 := h1 1 3 (by omega)
      have len6 := hL.1
      have ha : ∀ q, aT f1 q = aT f q := fun q => by unfold aT; rw [h1 3 q (by omega)]
      have tok' : tok t' (f 1 3).toNat = Tk (yb f (f 1 1)) len := by
        rw [← tok_Tk (t := t) (a := (f 1 3).toNat)]
        exact tok_of hLd.f1 (fun j => hLd.fr _ _ (by omega))
      have e1 : t' (f 1 3).toNat 1 = len := by rw [hLd.f1]; exact lxT_a1
      have hlenk := seg_len t1
      have hlk : (kB 6 x).length = len := by omega
      have hTC : TCo t' (f 1 3).toNat (kOrd (Tk (yb f (f 1 1)) len 0)) x := by
        refine ⟨by decide, t2, ?_, ?_, ?_, by omega, hLd.f9, TO9_B (lo := 0) 6 x 0 0 (Int.le_refl _) hLd.tb, by rw [tok']⟩
        · rw [e1, hlk]
        · rw [tok', e1]; exact t1
        · rw [e1]; omega
      have hokk : ∀ k : Int, 0 ≤ k → k < len → okT (Tk (yb f (f 1 1)) len k) := fun k q0 q1 => by
        have := TCo_ok hTC q0 (by rw [e1]; exact q1)
        rw [tok'] at this; exact this
      have hwt := (wt_rd hY hl.1 hl.2 hL hokk len 0 (by omega)).2.2
      have hkt : kB 6 x = tks (Tk (yb f (f 1 1)) len) ((0 : Nat) : Int) len := by
        have := t1.2
        rw [show ((len : Int) - 0).toNat = len by omega] at this
        exact this
      rw [← hkt] at hwt
      have hw24 : wtL (kB 6 x) ≤ 2400 := by simp only [eN] at hwt; omega
      have hTK : TK t' (f 1 3).toNat (kOrd (Tk (yb f (f 1 1)) len 0)) x := by
        refine ⟨hLd.f12, hLd.f13, ?_, by omega, fun _ => ⟨by omega, hw24, by decide⟩⟩
        have := hLd.f14
        rw [tok_Tk, lxT_a1] at this
        rw [tok', e1]; exact this
      have ht : ∀ b j, ¬ ((f 1 3).toNat ≤ b ∧ b ≤ (f 1 3).toNat + 9) → t' b j = t b j := fun b j hh => by
        rw [hLd.fr b j (by omega)]; unfold lxT; rw [if_neg (by omega), if_neg (by omega)]
      refine hQ _ _ _ (fun L d Q hq => hM L d _ _ Q (fun g1 g' k1 k2 k3 hBec => ?_))
      obtain ⟨k1, k4⟩ := k1
      have gO : ∀ b j, (b < 156 ∨ (156 < b ∧ b < 159) ∨ 173 < b) → g' b j = g b j := fun b j hh => by rw [hBec.fr b j (by omega), k1 b j (by omega)]
      have g6 : ∀ j, ¬ j = 54 → g' 156 j = g1 156 j := fun j hh => hBec.fa j hh
      have hta : ∀ q, aT (bcT f1 r) q = if q = r then (f 1 3).toNat else aT f q := fun q => by rw [bcT_a, e13, ha]
      have fO : ∀ b j, ¬ (b = 14 ∨ b = 15 ∨ b = 3 ∨ (b = 1 ∧ (j = 1 ∨ j = 3)) ∨ (b = 151 ∧ j = 11)) → bcT f1 r b j = f b j := fun b j hh => by rw [bcT_o (by omega), h1 b j (by omega)]
      have hTM : TMo g' r (tok t' (f 1 3).toNat) (kOrd (Tk (yb f (f 1 1)) len 0)) x := by
        rw [tok']
        refine ⟨by rw [hlk]; exact hBec.rt, hBec.tb, hBec.nn, hBec.od⟩
      have tx' := Rtext_bec (f' := bcT f1 r) (g' := g') (r := r) x hR.tx hr hta (by rw [bcT_s, ha]) ht hTC hTK hLd.f15 hTM hBec.th (fun c k q1 q2 => by rw [hBec.f1 c k q1 q2, k1 c k (by omega)]) (fun c k q1 q2 => by rw [hBec.f2 c k q1 q2, k1 c k (by omega)]) (fun c k q1 q2 q3 => by rw [hBec.f3 c k q1 q2 q3, k1 c k (by omega)])
      refine hq g' ⟨_, TH, RelX_mk ⟨⟨?_, ?_, fun i hi => ?_⟩, tx', Rout_fr hR.ou (fun b j hh => fO b j (by omega)) (fun b j hh => ?_), RSt_fr2 hR.st (fun b j _ _ => fO b j (by omega)) (fun b j hh => ?_), RC_fr hR.rc (hC_15 hR.st) (fun b j _ _ => fO b j (by omega)), Rrun_stop hR.rn ?_ hBec.run ?_ ?_, ⟨?_, ?_, ?_⟩⟩⟩ (fun j => gO 900 j (by omega))
      · rw [bcT_o (by omega), h4, g6 1 (by omega), k4]
      · rw [bcT_o (by omega), h4]; decide
      · rw [bcT_o (by omega), h4] at hi; omega
      · rcases hh with ⟨rfl, rfl⟩ | rfl
        · rw [g6 3 (by omega), k1 156 3 (by omega)]
        · exact gO 158 j (by omega)
      · rcases hh with hh | ⟨rfl, rfl⟩
        · exact gO b j (by omega)
        · rw [g6 35 (by omega), k1 156 35 (by omega)]
      · unfold bcT; rw [rd, if_pos (by simp)]
      · exact fO 151 10 (by omega)
      · rw [g6 62 (by omega), k1 156 62 (by omega)]
      · rw [bcT_o (by omega), h2, g6 12 (by omega), k2]
      · rw [bcT_o (by omega), h3, g6 13 (by omega), k3]
      · rw [fO 1 11 (by omega), g6 64 (by omega), k1 156 64 (by omega)]; exact hR.fl.fb
  · rw [s_T_read0 (d := d + 80) (show ¬ (0 ≤ k ∧ k < 10) by omega)]
    refine hQ _ f t (RefP_0 hR (fun L d Q => ?_))
    rw [s_M_read0 (d := d + 80) hk]
end
