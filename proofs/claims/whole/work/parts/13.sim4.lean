/-! stores into arrays, lengths, new cells -/
section SIM
variable {l : Launch} {L : Nat} {D : va_G} {aT : Nat → ClassId} {xs : Nat → Int32} {m : Mth} {p : Program} {e : Env} {R : Room} {s : State} {mi : MethodId} {args : Array Value} {below : List Frame} {meth : Method} {c : Code} {A : Nat → Prop} {ρ : Nat → Nat} {H : Heap} {locs : List Loc} {cells slots : Nat} {Q : State → Prop}
theorem zast_inv {pc o : Nat} {ls : Lo} {w : Wd} {st : List TV} {X : StR} (h : zast L pc ls w o st = some X) : ∃ v x i a r, st = v :: tI i :: tA a :: r ∧ 0 ≤ i ∧ i < ((sh L a).2 : Int) ∧ X = .inl (pc + 1, ls, r, (w.1, mset w.2 a i.toNat x)) ∧ ((o = 0 ∧ (sh L a).1 = 20 ∧ v = tI x) ∨ (o = 1 ∧ (sh L a).1 = 22 ∧ ∃ y, v = tI y ∧ x = y.bmod 256) ∨ (o = 1 ∧ (sh L a).1 = 23 ∧ v = tI x ∧ (x = 0 ∨ x = 1)) ∨ (o = 2 ∧ (sh L a).1 = 21 ∧ v = tL x) ∨ (o = 3 ∧ (sh L a).1 = 24 ∧ ∃ b : Nat, v = tA b ∧ (sh L b).1 = 1 ∧ x = (b : Int))) := by
  unfold zast at h
  split at h
  · obtain ⟨⟨h1, h2⟩, h3⟩ := if_some h
    split at h3
    · rename_i q; cases h3; exact ⟨_, _, _, _, _, rfl, h1, h2, rfl, Or.inl ⟨q.1, q.2, rfl⟩⟩
    · split at h3
      · rename_i q; cases h3; exact ⟨_, _, _, _, _, rfl, h1, h2, rfl, Or.inr (Or.inl ⟨q.1, q.2, _, rfl, rfl⟩)⟩
      · split at h3
        · rename_i q; cases h3; exact ⟨_, _, _, _, _, rfl, h1, h2, rfl, Or.inr (Or.inr (Or.inl ⟨q.1, q.2.1, rfl, q.2.2⟩))⟩
        · cases h3
  · obtain ⟨⟨q1, q2, h1, h2⟩, h3⟩ := if_some h
    cases h3
    exact ⟨_, _, _, _, _, rfl, h1, h2, rfl, Or.inr (Or.inr (Or.inr (Or.inl ⟨q1, q2, rfl⟩)))⟩
  · obtain ⟨⟨q1, q2, q3, h1, h2⟩, h3⟩ := if_some h
    cases h3
    exact ⟨_, _, _, _, _, rfl, h1, h2, rfl, Or.inr (Or.inr (Or.inr (Or.inr ⟨q1, q2, _, rfl, q3, rfl⟩)))⟩
  · cases h
theorem sim_ast {pc pc' o : Nat} {ls ls' : Lo} {st st' : List TV} {w w' : Wd} {lm : Array Slot} {i : Instr} (C : Cx L D aT xs m p s mi args meth c A ρ) (hd : decode m.2.2.2.1 pc = .ok (i, 1)) (hi : (i = .iastore ∧ o = 0) ∨ (i = .bastore ∧ o = 1) ∨ (i = .lastore ∧ o = 2) ∨ (i = .aastore ∧ o = 3)) (h : zast L pc ls w o st = some (.inl (pc', ls', st', w')))
    (I : Iv L D aT xs s A ρ w H locs) (hst : ∀ v ∈ st, okV w.1 v)
    (K : w'.1 = w.1 → ls' = ls → (∀ v ∈ st', okV w.1 v) → ∀ H' locs', Iv L D aT xs s A ρ w' H' locs' → W p l e R s mi args below meth c H' locs' cells slots Q (F0 mi pc' lm (st'.map (eV ρ)))) :
    W p l e R s mi args below meth c H locs cells slots Q (F0 mi pc lm (st.map (eV ρ))) := by
  obtain ⟨hx, hb, hml, hown, hts, hin, hA, hS0⟩ := C
  obtain ⟨v, x, j, a, r, rfl, h0, h1, hX, hcase⟩ := zast_inv h
  cases hX
  have hle : (sh L a).1 ≤ 26 ∧ 20 ≤ (sh L a).1 := by rcases hcase with ⟨_, q, _⟩ | ⟨_, q, _⟩ | ⟨_, q, _⟩ | ⟨_, q, _⟩ | ⟨_, q, _⟩ <;> omega
  obtain ⟨a1, a2⟩ := in_w (L := L) (okh (okt (okt hst))) hle.1
  have hsz := sh_size hle.1
  have hs9 := (sh_small hle.1).2
  have hnl : ¬ (sh L a).1 < 12 := by omega
  have hc := eW_cell (L := L) (aT := aT) (ρ := ρ) a1 a2
  rw [eC_arr hnl] at hc
  have hci : (Int32.ofInt j).toNatClampNeg = j.toNat := i_clamp (by omega)
  have hini : vp_in (Int32.ofInt j) (sh L a).2 := i_in ⟨h0, h1⟩ (by omega)
  obtain ⟨T20, T21, T22, T23, T24, T25, T26⟩ := tys_at (aT := aT) (sh L a).1
  have kk : ∀ (E : (Nat → Int32) ⊕ (Nat → Int64) ⊕ (Nat → UInt32) ⊕ (Nat → UInt64) ⊕ (Nat → Option Nat)), eA ρ (sh L a).1 (mset w.2 a j.toNat x a) = E → okV w.1 (ztyp (aty (sh L a).1) x) → ∀ (H1 : Heap) (locs1 : List Loc), va_P D cls_ ((eW L aT ρ w).set (a - 1) (ρ a, .inl (aT (sh L a).1, (sh L a).2, E))) H1 → va_D A ((eW L aT ρ w).set (a - 1) (ρ a, .inl (aT (sh L a).1, (sh L a).2, E))) → va_S A s.heap H1 locs1 → W p l e R s mi args below meth c H1 locs1 cells slots Q (F0 mi (pc + 1) lm (st'.map (eV ρ))) := by
    intro E hE hok H1 locs1 q1 q2 q3
    rw [← hE, ← eC_arr (mem := mset w.2 a j.toNat x) hnl] at q1 q2
    exact K rfl rfl (okt (okt (okt hst))) H1 locs1 (I.put a1 hs9 (fun b hb => mset_ne hb) (okM_setA I.2.2.2.1 hnl hok) q1 q2 q3)
  rw [List.map_cons, List.map_cons, List.map_cons, eVa (by omega)]
  rcases hcase with ⟨ho, hk, rfl⟩ | ⟨ho, hk, y, rfl, hy⟩ | ⟨ho, hk, rfl, hz⟩ | ⟨ho, hk, rfl⟩ | ⟨ho, hk, b, rfl, hb1, hbx⟩
  · have e1 : i = .iastore := by rcases hi with ⟨q, z⟩ | ⟨q, z⟩ | ⟨q, z⟩ | ⟨q, z⟩ <;> first | exact q | omega
    subst e1
    rw [eA_i (by omega) (by omega)] at hc
    refine va_iast hx hb hS0.1 I.1 I.2.1 I.2.2.1 (a - 1) 0 hc (T20 hk) hini hd (kk _ ?_ ?_)
    · rw [eA_i (by omega) (by omega), upd_i, hci]
    · rw [show aty (sh L a).1 = 0 by rw [hk]; rfl]; exact okh hst
  · have e1 : i = .bastore := by rcases hi with ⟨q, z⟩ | ⟨q, z⟩ | ⟨q, z⟩ | ⟨q, z⟩ <;> first | exact q | omega
    subst e1
    rw [eA_i (by omega) (by omega)] at hc
    refine va_bast hx hb hS0.1 I.1 I.2.1 I.2.2.1 (a - 1) 2 hc (T22 hk) hini hd (kk _ ?_ ?_)
    · rw [eA_i (by omega) (by omega), upd_i, hci, hy, vp_nar_byte, i_i2b (okh hst)]
    · rw [show aty (sh L a).1 = 0 by rw [hk]; rfl, hy]; exact ok_b _
  · have e1 : i = .bastore := by rcases hi with ⟨q, z⟩ | ⟨q, z⟩ | ⟨q, z⟩ | ⟨q, z⟩ <;> first | exact q | omega
    subst e1
    rw [eA_i (by omega) (by omega)] at hc
    refine va_zast hx hb hS0.1 I.1 I.2.1 I.2.2.1 (a - 1) 3 hc (T23 hk) hini hd (kk _ ?_ ?_)
    · have hv : vp_nar .boolean (Int32.ofInt x) = Int32.ofInt x := by
        unfold vp_nar
        rw [(fit_b hz).1]
      rw [eA_i (by omega) (by omega), upd_i, hci]
      exact congrArg (fun z => Sum.inl (upd (fun j => Int32.ofInt (w.2 a j)) j.toNat z)) hv.symm
    · rw [show aty (sh L a).1 = 0 by rw [hk]; rfl]; exact okh hst
  · have e1 : i = .lastore := by rcases hi with ⟨q, z⟩ | ⟨q, z⟩ | ⟨q, z⟩ | ⟨q, z⟩ <;> first | exact q | omega
    subst e1
    have hE : eA ρ (sh L a).1 (w.2 a) = .inr (.inl (fun j => Int64.ofInt (w.2 a j))) := by rw [hk]; exact eA_l
    rw [hE] at hc
    refine va_last hx hb hS0.1 I.1 I.2.1 I.2.2.1 (a - 1) 1 hc (T21 hk) hini hd (kk _ ?_ ?_)
    · rw [hk, eA_l, upd_l, hci]
    · rw [show aty (sh L a).1 = 1 by rw [hk]; rfl]; exact okh hst
  · have e1 : i = .aastore := by rcases hi with ⟨q, z⟩ | ⟨q, z⟩ | ⟨q, z⟩ | ⟨q, z⟩ <;> first | exact q | omega
    subst e1
    obtain ⟨b1, b2⟩ := in_w (L := L) (okh hst) (by omega)
    have hcb := eW_cell (L := L) (aT := aT) (ρ := ρ) b1 b2
    rw [eC_obj (by omega), hb1] at hcb
    rw [eA_q (Or.inl hk)] at hc
    rw [eVa (by omega)]
    refine va_astq hx hb hS0.1 I.1 I.2.1 I.2.2.1 (a - 1) 4 (b - 1) 1 hc (T24 hk) hcb (cls_at 1 (by decide)) hini hd (kk _ ?_ ?_)
    · rw [eA_q (Or.inl hk), hbx, upd_q (by omega), hci]
    · rw [show aty (sh L a).1 = 3 by rw [hk]; rfl, hbx]
      show ((b : Int).toNat ≤ w.1 ∨ 900 ≤ (b : Int).toNat)
      rw [Int.toNat_natCast]
      exact Or.inl b2
theorem sim_alen {pc pc' : Nat} {ls ls' : Lo} {st st' : List TV} {w w' : Wd} {lm : Array Slot} (C : Cx L D aT xs m p s mi args meth c A ρ) (hd : decode m.2.2.2.1 pc = .ok (.arraylength, 1)) (h : zalen L pc ls w st = some (.inl (pc', ls', st', w')))
    (I : Iv L D aT xs s A ρ w H locs) (hst : ∀ v ∈ st, okV w.1 v) (hL : L ≤ 100000)
    (K : w' = w → ls' = ls → (∀ v ∈ st', okV w.1 v) → W p l e R s mi args below meth c H locs cells slots Q (F0 mi pc' lm (st'.map (eV ρ)))) :
    W p l e R s mi args below meth c H locs cells slots Q (F0 mi pc lm (st.map (eV ρ))) := by
  obtain ⟨hx, hb, hml, hown, hts, hin, hA, hS0⟩ := C
  unfold zalen at h
  split at h
  · rename_i a r
    obtain ⟨⟨h1, h2⟩, h3⟩ := if_some h
    cases h3
    by_cases h27 : (sh L a).1 = 27
    · have ea : a = 900 := by
        by_cases e9 : a = 900
        · exact e9
        · exfalso
          unfold sh at h27
          rw [if_neg e9] at h27
          by_cases h2 : 901 ≤ a ∧ a < 906
          · rw [if_pos h2] at h27; exact absurd h27 (show ¬ (28 : Nat) = 27 by decide)
          · rw [if_neg h2, List.getD_eq_getElem?_getD] at h27
            match hq : shl[a]? with
            | none => rw [hq] at h27; exact absurd h27 (by decide)
            | some q =>
              rw [hq] at h27
              have h3 : shl.all (fun q => decide (q.1 ≠ 27)) = true := by decide +kernel
              exact of_decide_eq_true (List.all_eq_true.mp h3 q (List.mem_of_getElem? hq)) h27
      subst ea
      rw [List.map_cons, eVa (by omega)]
      refine va_slen hx hb hS0.2.2.2.2.2.1 hS0.2.2.2.2.2.2.1 hS0.2.2.2.2.2.2.2.1 I.2.2.1 hd ?_
      rw [i_ofNat]
      refine K rfl rfl (okc ?_ (okt hst))
      show -2147483648 ≤ (L : Int) ∧ (L : Int) < 2147483648
      omega
    · obtain ⟨a1, a2⟩ := in_w (L := L) (okh hst) (by omega)
      have hsz := sh_size (L := L) (a := a) (by omega)
      have hc := eW_cell (L := L) (aT := aT) (ρ := ρ) a1 a2
      rw [eC_arr (by omega)] at hc
      obtain ⟨T20, T21, T22, T23, T24, T25, T26⟩ := tys_at (aT := aT) (sh L a).1
      have hty : ∃ (t0 : Nat) (ty : FieldType), (tysL aT)[t0]? = some (aT (sh L a).1, ty) := by
        have : (sh L a).1 = 20 ∨ (sh L a).1 = 21 ∨ (sh L a).1 = 22 ∨ (sh L a).1 = 23 ∨ (sh L a).1 = 24 ∨ (sh L a).1 = 25 ∨ (sh L a).1 = 26 := by omega
        rcases this with q | q | q | q | q | q | q
        · exact ⟨_, _, T20 q⟩
        · exact ⟨_, _, T21 q⟩
        · exact ⟨_, _, T22 q⟩
        · exact ⟨_, _, T23 q⟩
        · exact ⟨_, _, T24 q⟩
        · exact ⟨_, _, T25 q⟩
        · exact ⟨_, _, T26 q⟩
      obtain ⟨t0, ty, ht⟩ := hty
      rw [List.map_cons, eVa (by omega)]
      refine va_alen hx hb hS0.1 I.1 (a - 1) t0 hc ht (i_ofNat _) hd ?_
      refine K rfl rfl (okc ?_ (okt hst))
      show -2147483648 ≤ ((sh L a).2 : Int) ∧ ((sh L a).2 : Int) < 2147483648
      omega
  · cases h
/-- one new cell -/
def rhoN (ρ : Nat → Nat) (n q : Nat) : Nat → Nat := fun x => if x = n then q else ρ x
theorem rhoN_agr {n q : Nat} (h : n < 899) : agr ρ (rhoN ρ (n + 1) q) n := by
  intro a ha
  unfold rhoN
  rw [if_neg (by omega)]
theorem eW_new {w : Wd} {q : Nat} (hM : okM L w) (h9 : w.1 < 899) : eW L aT (rhoN ρ (w.1 + 1) q) (znew w 1 (fun _ _ => 0)) = eW L aT ρ w ++ [(q, eC L aT (rhoN ρ (w.1 + 1) q) (fun _ _ => 0) (w.1 + 1))] := by
  rw [← eW_agr (rhoN_agr (q := q) h9) hM]
  unfold eW
  show (List.range (w.1 + 1)).map _ = _
  rw [List.range_succ, List.map_append]
  congr 1
  · apply List.map_congr_left
    intro i hi
    have := List.mem_range.mp hi
    rw [eC_congr (znew_old (by omega))]
  · simp only [List.map_cons, List.map_nil]
    congr 2
    · unfold rhoN; rw [if_pos rfl]
    · apply eC_congr
      funext k
      unfold znew
      simp only []
      rw [if_pos (by omega)]
end SIM
