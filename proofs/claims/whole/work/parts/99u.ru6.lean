/-! The run, the class: what a GO leaves -/
section
variable {c r : Nat} {X : Nat → Tre} {f f' t g : Mem} {TH : Nat} {fw code op : Int}
theorem RvC_eq (h : ∀ r, aT f' r = aT f r) (hv : RvC f t r) : RvC f' t r := by
  unfold RvC at hv ⊢; rw [h]; exact hv
theorem RnC_pl (h : RnC f t) (h6 : f 151 6 = (r : Int)) (hf : ∀ b j, b = 3 ∨ (b = 151 ∧ (j = 5 ∨ j = 6 ∨ j = 8)) ∨ b = 153 ∨ b = 154 → f' b j = f b j) (h7 : 0 ≤ f' 151 7 ∧ f' 151 7 ≤ t (aT f r) 9) : RnC f' t := by
  have ha : ∀ r, aT f' r = aT f r := fun r => by unfold aT; rw [hf 3 r (by omega)]
  obtain ⟨⟨r', c1, c2, _, _⟩, hg, wy, fr⟩ := h
  have hrr : r' = r := by omega
  subst hrr
  refine ⟨⟨r', ?_, RvC_eq ha c2, h7.1, ?_⟩, ?_, ?_, fun k hk => ?_⟩
  · rw [hf 151 6 (by omega)]; exact h6
  · rw [ha]; exact h7.2
  · rw [hf 151 5 (by omega)]; exact hg
  · rw [hf 151 8 (by omega)]; exact wy
  · rw [hf 151 5 (by omega)] at hk
    obtain ⟨r2, b1, b2, b3, b4, b5⟩ := fr k hk
    refine ⟨r2, ?_, RvC_eq ha b2, ?_, ?_, ?_⟩
    · rw [hf 153 k (by omega)]; exact b1
    · rw [hf 154 k (by omega)]; exact b3
    · rw [ha, hf 154 k (by omega)]; exact b4
    · rw [ha, hf 154 k (by omega)]; exact b5
theorem RnC_lv (hN : RnC f t) (h5 : ¬ f 151 5 = 0) : RnC (lvC f op fw) t := by
  have ha : ∀ r, aT (lvC f op fw) r = aT f r := aT_FR FR_lv
  obtain ⟨v5, v6, v7, v8, v9, vf⟩ := lvC_v (f := f) (op := op) (fw := fw)
  obtain ⟨_, hg, wy, fr⟩ := hN
  obtain ⟨r2, b1, b2, b3, b4, _⟩ := fr (f 151 5 - 1).toNat (by omega)
  refine ⟨⟨r2, v6.trans b1, RvC_eq ha b2, ?_, ?_⟩, ?_, ?_, fun k hk => ?_⟩
  · rw [v7]; split <;> omega
  · rw [v7, ha]; split <;> omega
  · rw [v5]; omega
  · rw [v8]; split <;> omega
  · rw [v5] at hk
    rw [(vf k).1, (vf k).2]
    obtain ⟨r3, q1, q2, q3, q4, q5⟩ := fr k (by omega)
    exact ⟨r3, q1, RvC_eq ha q2, q3, by rw [ha]; exact q4, by rw [ha]; exact q5⟩
theorem RnC_en {m q : Nat} (hN : RnC f t) (h6 : f 151 6 = (r : Int)) (hm : RvC f t m) (h9 : 0 ≤ t (aT f m) 9) (h12 : ¬ 12 ≤ f 151 5) (hq : (q : Int) < t (aT f r) 9) (hop : t (aT f r + 2) q = 206 ∨ t (aT f r + 2) q = 207) : RnC (enC f op fw m q (t (aT f m) 9)) t := by
  have ha : ∀ r, aT (enC f op fw m q (t (aT f m) 9)) r = aT f r := aT_FR FR_en
  obtain ⟨v5, v6, v7, v8, v9, vf⟩ := enC_v (f := f) (op := op) (fw := fw) (n := (m : Int)) (q := q) (sz := t (aT f m) 9)
  obtain ⟨⟨r', c1, c2, _, _⟩, hg, wy, fr⟩ := hN
  have hrr : r' = r := by omega
  subst hrr
  refine ⟨⟨m, v6, RvC_eq ha hm, ?_, ?_⟩, ?_, ?_, fun k hk => ?_⟩
  · rw [v7]; split <;> omega
  · rw [v7, ha]; split <;> omega
  · rw [v5]; omega
  · rw [v8]; split <;> omega
  · rw [v5] at hk
    rw [(vf k).1, (vf k).2]
    by_cases hkh : k = (f 151 5).toNat
    · rw [if_pos hkh, if_pos hkh]
      exact ⟨r', h6, RvC_eq ha c2, by omega, by rw [ha]; exact hq, by rw [ha]; exact hop⟩
    · rw [if_neg hkh, if_neg hkh]
      obtain ⟨r3, q1, q2, q3, q4, q5⟩ := fr k (by omega)
      exact ⟨r3, q1, RvC_eq ha q2, q3, by rw [ha]; exact q4, by rw [ha]; exact q5⟩
theorem ov_Y {ro h m z n : Int} (h0 : 0 ≤ h) (h1 : h < m) (h2 : m ≤ z) (h3 : z < n) (hh : ¬ ovY op ro fw h m z = -1) : 0 ≤ ovY op ro fw h m z ∧ ovY op ro fw h m z ≤ n := by
  unfold ovY at hh ⊢
  (repeat' split at hh) <;> simp_all <;> omega
theorem ov_N {ro h m z n : Int} (h0 : 0 ≤ h) (h1 : h < m) (h2 : m ≤ z) (h3 : z < n) (hh : ¬ ovN op ro fw h m z = -1) : 0 ≤ ovN op ro fw h m z ∧ ovN op ro fw h m z ≤ n := by
  unfold ovN at hh ⊢
  (repeat' split at hh) <;> simp_all <;> omega
theorem GoC_ok (o : Bool) (x : TB c 6) (hX : TC X f t) (hx : TCo t (aT f (f 151 6).toNat) o x) (hN : RnC f t) (hS : RSt f g TH) (hRC : RC f) (hfw : fw = 0 ∨ fw = 1) (hG : GoC x f t fw code f') (h15n : ∀ k : Nat, k < 14 → hC f' k < 15) : FR f f' ∧ RnC f' t ∧ RC f' ∧ f' 151 9 = f 151 9 := by
  obtain ⟨r, h6, ⟨hr, h15, hko⟩, hp0, hp9⟩ := hN.cur
  have hcr : (f 151 6).toNat = r := by rw [h6]; exact Int.toNat_natCast r
  have h15' := hC_15 hS
  unfold GoC at hG
  rw [hcr] at hx hG
  by_cases hend : f 151 7 = (if fw = 1 then (nB 6 x : Int) else 0)
  · rw [if_pos hend] at hG
    by_cases h5 : f 151 5 = 0
    · rw [if_pos h5] at hG
      rw [hG.2]; exact ⟨FR_refl, hN, hRC, rfl⟩
    · rw [if_neg h5] at hG
      rw [hG.2]
      exact ⟨FR_lv, RnC_lv hN h5, RC_fr hRC h15' (fun b j h1 h2 => lvC_st (by omega)), lvC_v.2.2.2.2.1⟩
  · rw [if_neg hend] at hG
    obtain ⟨q, e, hq, hqn, he, hG⟩ := hG
    have hn9 := hx.f9
    have hq9 : (q : Int) < t (aT f r) 9 := by rw [hn9]; omega
    rcases hG with ⟨r0, s, j, hw, g2, g3, g4, g5, hG⟩ | hG
    · rcases hG with ⟨hop, m, hm, hn, hk⟩ | ⟨hno, f1, hSt, hf1⟩
      · have hE := TO9_get _ 0 q e hx.tb he
        rw [Nat.zero_add] at hE
        obtain ⟨⟨e1, e2, e3, e4, e5⟩, e6⟩ := hE
        have e1 : t (aT f r + 2) q = e.1.1 := e1
        unfold GoN at hk
        by_cases c1 : t (aT f m) 15 = 0 ∨ kOrd (tok t (aT f m) 0) = true
        · rw [if_pos c1] at hk; rw [hk.2]; exact ⟨FR_refl, hN, hRC, rfl⟩
        · rw [if_neg c1] at hk
          by_cases c2 : 12 ≤ f 151 5
          · rw [if_pos c2] at hk; rw [hk.2]; exact ⟨FR_refl, hN, hRC, rfl⟩
          · rw [if_neg c2] at hk
            rw [hk.2]
            have k1 : t (aT f m) 15 = 1 := (hX.th m hm).resolve_left (fun h => c1 (Or.inl h))
            have k2 : kOrd (tok t (aT f m) 0) = false := by
              cases hh : kOrd (tok t (aT f m) 0)
              · rfl
              · exact absurd (Or.inr hh) c1
            have k9 : 0 ≤ t (aT f m) 9 := by rw [(hX.ok m hm k1).f9]; exact Int.natCast_nonneg _
            exact ⟨FR_en, RnC_en hN h6 ⟨hm, k1, k2⟩ k9 c2 hq9 (by rw [e1, g2]; exact hop), RC_fr hRC h15' (fun b j h1 h2 => enC_st (by omega) (by omega) (by omega)), enC_v.2.2.2.2.1⟩
      · obtain ⟨hFQ, hRC1⟩ := St1_ok hRC hS s hw hSt hno
        by_cases hc0 : code = 0
        · rw [if_pos hc0] at hf1
          rw [hf1]
          have hfr : FR f (mset f1 151 7 (if fw = 1 then (q : Int) + 1 else q)) := FR_tr (FR_Q hFQ) (FR_m (by omega))
          refine ⟨hfr, RnC_pl hN h6 (fun b j hh => ?_) ?_, ?_, by rw [rd, if_neg (by omega)]; exact hFQ 151 9 (by omega) (by omega) (by omega)⟩
          · rw [rd, if_neg (by omega)]; exact hFQ b j (by omega) (by omega) (by omega)
          · rw [rd, if_pos (by simp)]; split <;> omega
          · have hh := hC_eq (f := f1) (f' := mset f1 151 7 (if fw = 1 then (q : Int) + 1 else q)) (fun j => by rw [rd, if_neg (by omega)]) (fun j => by rw [rd, if_neg (by omega)])
            refine RC_fr hRC1 (fun k hk => ?_) (fun b j h1 h2 => by rw [rd, if_neg (by omega)])
            have := h15n k hk
            rw [hf1, hh] at this; exact this
        · rw [if_neg hc0] at hf1
          rw [hf1]
          exact ⟨FR_Q hFQ, RnC_pl hN h6 (fun b j hh => hFQ b j (by omega) (by omega) (by omega)) (by rw [hFQ 151 7 (by omega) (by omega) (by omega)]; exact ⟨hp0, hp9⟩), hRC1, hFQ 151 9 (by omega) (by omega) (by omega)⟩
    · obtain ⟨x1, x2, j, j2, hro, hop, hx1, hx2, hs, hj, hs2, hj2, hb, hb1, hb2, hb3, ⟨v0, v1, v2, v3⟩, hp, hk⟩ := hG
      have hnop : FX f f' → FR f f' ∧ RnC f' t ∧ RC f' ∧ f' 151 9 = f 151 9 := fun hxx => ⟨FR_Q (FQ_X hxx), RnC_pl hN h6 (fun b j hh => hxx b j (by omega)) (by rw [hxx 151 7 (by omega)]; exact ⟨hp0, hp9⟩), RC_X hRC hS hxx, hxx 151 9 (by omega)⟩
      unfold FkC at hk
      split at hk
      · exact hnop hk.2.2
      · rename_i v _ _
        rw [← hn9] at v3
        have hto : ∀ to : Int, (if v = 0 then ovN e.1.1 e.1.2.1 fw e.1.2.2.2.2.1 e.1.2.2.2.2.2.1 e.1.2.2.2.2.2.2 else ovY e.1.1 e.1.2.1 fw e.1.2.2.2.2.1 e.1.2.2.2.2.2.1 e.1.2.2.2.2.2.2) = to → ¬ to = -1 → 0 ≤ to ∧ to ≤ t (aT f r) 9 := by
          intro to ht hne
          subst ht
          by_cases hv : v = 0
          · rw [if_pos hv] at hne ⊢; exact ov_N v0 v1 v2 v3 hne
          · rw [if_neg hv] at hne ⊢; exact ov_Y v0 v1 v2 v3 hne
        generalize hte : (if v = 0 then ovN e.1.1 e.1.2.1 fw e.1.2.2.2.2.1 e.1.2.2.2.2.2.1 e.1.2.2.2.2.2.2 else ovY e.1.1 e.1.2.1 fw e.1.2.2.2.2.1 e.1.2.2.2.2.2.1 e.1.2.2.2.2.2.2) = to at hk
        by_cases hne : to = -1
        · rw [if_pos hne] at hk; exact hnop hk.2
        · rw [if_neg hne] at hk
          have hto := hto to hte hne
          have hxx := hk.2
          refine ⟨FR_tr (FR_m (by omega)) (FR_Q (FQ_X hxx)), RnC_pl hN h6 (fun b j hh => ?_) ?_, RC_fr hRC h15' (fun b j h1 h2 => ?_), by rw [hxx 151 9 (by omega), rd, if_neg (by omega)]⟩
          · rw [hxx b j (by omega), rd, if_neg (by omega)]
          · rw [hxx 151 7 (by omega), rd, if_pos (by simp)]; exact hto
          · rw [hxx b j (by omega), rd, if_neg (by omega)]
end
