/-! steps that read and write cells -/
section SIM
variable {l : Launch} {L : Nat} {D : va_G} {aT : Nat → ClassId} {xs : Nat → Int32} {m : Mth} {p : Program} {e : Env} {R : Room} {s : State} {mi : MethodId} {args : Array Value} {below : List Frame} {meth : Method} {c : Code} {A : Nat → Prop} {ρ : Nat → Nat} {H : Heap} {locs : List Loc} {cells slots : Nat} {Q : State → Prop}
/-- where the types of arrays stand in tysL -/
theorem tys_at : ∀ k, (k = 20 → (tysL aT)[0]? = some (aT k, .int)) ∧ (k = 21 → (tysL aT)[1]? = some (aT k, .long)) ∧ (k = 22 → (tysL aT)[2]? = some (aT k, .byte)) ∧ (k = 23 → (tysL aT)[3]? = some (aT k, .boolean)) ∧ (k = 24 → (tysL aT)[4]? = some (aT k, .object (cnm 1))) ∧ (k = 25 → (tysL aT)[5]? = some (aT k, .array .int)) ∧ (k = 26 → (tysL aT)[6]? = some (aT k, .array .long)) := by
  intro k
  refine ⟨?_, ?_, ?_, ?_, ?_, ?_, ?_⟩ <;> (intro h; subst h; rfl)
theorem in_w {a nc : Nat} (h : okV nc (tA a)) (hs : (sh L a).1 ≤ 26) : 1 ≤ a ∧ a ≤ nc := by
  have h1 := sh_small hs
  have h2 : a ≤ nc ∨ 900 ≤ a := h
  omega
theorem eVa {a : Nat} (h : a ≠ 0) : eV ρ (tA a) = .ref (ρ a) := if_neg h
theorem zget_inv {idx pc : Nat} {ls : Lo} {w : Wd} {st : List TV} {X : StR} (h : zget L m idx pc ls w st = some X) : ∃ a r ci k, st = tA a :: r ∧ rF m.1 idx = some (ci, k) ∧ (sh L a).1 = ci ∧ X = .inl (pc + 3, ls, ztyp (fty ci k) (w.2 a k) :: r, w) := by
  unfold zget at h
  split at h
  · split at h
    · obtain ⟨h1, h2⟩ := if_some h
      cases h2
      exact ⟨_, _, _, _, rfl, by assumption, h1, rfl⟩
    · cases h
  · cases h
theorem sim_get {pc pc' idx : Nat} {ls ls' : Lo} {st st' : List TV} {w w' : Wd} {lm : Array Slot} (C : Cx L D aT xs m p s mi args meth c A ρ) (hd : decode m.2.2.2.1 pc = .ok (.getfield idx, 3)) (h : zget L m idx pc ls w st = some (.inl (pc', ls', st', w')))
    (I : Iv L D aT xs s A ρ w H locs) (hst : ∀ v ∈ st, okV w.1 v)
    (K : w' = w → ls' = ls → (∀ v ∈ st', okV w.1 v) → W p l e R s mi args below meth c H locs cells slots Q (F0 mi pc' lm (st'.map (eV ρ)))) :
    W p l e R s mi args below meth c H locs cells slots Q (F0 mi pc lm (st.map (eV ρ))) := by
  obtain ⟨hx, hb, hml, hown, hts, hin, hA, hS0⟩ := C
  obtain ⟨a, r, ci, k, rfl, hr, hsh, hX⟩ := zget_inv h
  cases hX
  obtain ⟨h1, h2, h3⟩ := rF_mem hr
  have hlt : (sh L a).1 < 12 := by omega
  obtain ⟨a1, a2⟩ := in_w (L := L) (okh hst) (by omega)
  have hc := eW_cell (L := L) (aT := aT) (ρ := ρ) a1 a2
  rw [eC_obj hlt, hsh] at hc
  rw [List.map_cons, eVa (by omega)]
  refine va_get (v := eV ρ (ztyp (fty ci k) (w.2 a k))) hx hb hts (uws_all ci h2) hown hS0.1 I.1 (a - 1) hc (cls_at ci h2) k h3 (hts _ h1) (fun _ q => q) ?_ hd ?_
  · rw [List.getElem?_map, List.getElem?_range h3]; rfl
  · refine K rfl rfl (okc ?_ (okt hst))
    have := okM_get I.2.2.2.1 a1 a2 hlt (by rw [hsh]; exact h3)
    rw [hsh] at this
    exact this
/-- one slot of one cell is written -/
theorem Iv.put {w : Wd} {mem' : Mem} {a : Nat} {H' : Heap} {locs' : List Loc} (I : Iv L D aT xs s A ρ w H locs) (h1 : 1 ≤ a) (h9 : a < 900) (hoth : ∀ b, b ≠ a → mem' b = w.2 b) (hM : okM L (w.1, mem'))
    (hP : va_P D cls_ ((eW L aT ρ w).set (a - 1) (ρ a, eC L aT ρ mem' a)) H') (hD : va_D A ((eW L aT ρ w).set (a - 1) (ρ a, eC L aT ρ mem' a))) (hS : va_S A s.heap H' locs') : Iv L D aT xs s A ρ (w.1, mem') H' locs' := by
  rw [← eW_set h1 hoth] at hP hD
  exact ⟨hP, hD, hS, hM, fun j hj => by show mem' 900 j = _; rw [hoth 900 (by omega)]; exact I.2.2.2.2.1 j hj, I.2.2.2.2.2⟩
theorem fit_b {x : Int} (h : x = 0 ∨ x = 1) : narrow .boolean (.int (Int32.ofInt x)) = .int (Int32.ofInt x) ∧ fits .boolean (.int (Int32.ofInt x)) = true := by
  rcases h with rfl | rfl <;> exact ⟨by decide, by decide⟩
theorem fit_r {t : FieldType} (h : (∃ n, t = .object n) ∨ ∃ u, t = .array u) (a : Nat) : narrow t (.ref a) = .ref a ∧ fits t (.ref a) = true := by
  rcases h with ⟨n, rfl⟩ | ⟨u, rfl⟩ <;> exact ⟨rfl, rfl⟩
theorem zput_inv {idx pc : Nat} {ls : Lo} {w : Wd} {st : List TV} {X : StR} (h : zput L m idx pc ls w st = some X) : ∃ v a r ci k x, st = v :: tA a :: r ∧ rF m.1 idx = some (ci, k) ∧ (sh L a).1 = ci ∧ (ffin ci k = true → (zisInit m = true ∧ m.1 = ci)) ∧ X = .inl (pc + 3, ls, r, (w.1, mset w.2 a k x)) ∧ ztyp (fty ci k) x = v ∧ ((fty ci k = 0 ∧ v = tI x) ∨ (fty ci k = 2 ∧ v = tI x ∧ (x = 0 ∨ x = 1)) ∨ (fty ci k = 1 ∧ v = tL x) ∨ (fty ci k = 3 ∧ ∃ b, v = tA b ∧ b ≠ 0)) := by
  unfold zput at h
  split at h
  · rename_i v a r
    split at h
    · rename_i ci k hr
      obtain ⟨⟨h1, h2⟩, h3⟩ := if_some h
      split at h3
      · rename_i x hf
        cases h3
        exact ⟨_, _, _, _, _, _, rfl, hr, h1, h2, rfl, by rw [hf]; rfl, Or.inl ⟨hf, rfl⟩⟩
      · rename_i x hf
        obtain ⟨hq, h4⟩ := if_some h3
        cases h4
        exact ⟨_, _, _, _, _, _, rfl, hr, h1, h2, rfl, by rw [hf]; rfl, Or.inr (Or.inl ⟨hf, rfl, hq⟩)⟩
      · rename_i x hf
        cases h3
        exact ⟨_, _, _, _, _, _, rfl, hr, h1, h2, rfl, by rw [hf]; rfl, Or.inr (Or.inr (Or.inl ⟨hf, rfl⟩))⟩
      · rename_i b hf
        split at h3
        · cases h3
        · rename_i hb
          cases h3
          exact ⟨_, _, _, _, _, _, rfl, hr, h1, h2, rfl, by rw [hf]; simp [ztyp], Or.inr (Or.inr (Or.inr ⟨hf, _, rfl, hb⟩))⟩
      · cases h3
    · cases h
  · cases h
theorem sim_put {pc pc' idx : Nat} {ls ls' : Lo} {st st' : List TV} {w w' : Wd} {lm : Array Slot} (C : Cx L D aT xs m p s mi args meth c A ρ) (hd : decode m.2.2.2.1 pc = .ok (.putfield idx, 3)) (h : zput L m idx pc ls w st = some (.inl (pc', ls', st', w')))
    (I : Iv L D aT xs s A ρ w H locs) (hst : ∀ v ∈ st, okV w.1 v)
    (K : w'.1 = w.1 → ls' = ls → (∀ v ∈ st', okV w.1 v) → ∀ H' locs', Iv L D aT xs s A ρ w' H' locs' → W p l e R s mi args below meth c H' locs' cells slots Q (F0 mi pc' lm (st'.map (eV ρ)))) :
    W p l e R s mi args below meth c H locs cells slots Q (F0 mi pc lm (st.map (eV ρ))) := by
  obtain ⟨hx, hb, hml, hown, hts, hin, hA, hS0⟩ := C
  obtain ⟨v, a, r, ci, k, x, rfl, hr, hsh, hf, hX, hv, hcase⟩ := zput_inv h
  cases hX
  obtain ⟨h1, h2, h3⟩ := rF_mem hr
  have hlt : (sh L a).1 < 12 := by omega
  obtain ⟨a1, a2⟩ := in_w (L := L) (okh (okt hst)) (by omega)
  have hc := eW_cell (L := L) (aT := aT) (ρ := ρ) a1 a2
  rw [eC_obj hlt, hsh] at hc
  obtain ⟨f1, f2⟩ := ftp_fin h2 h3
  have hnf : narrow (ftp ci k) (eV ρ v) = eV ρ v ∧ fits (ftp ci k) (eV ρ v) = true := by
    rcases hcase with ⟨q, rfl⟩ | ⟨q, rfl, hz⟩ | ⟨q, rfl⟩ | ⟨q, b, rfl, hb0⟩
    · rcases ftp_ty h2 h3 with ⟨_, t⟩ | ⟨t, _⟩ | ⟨t, _⟩ | ⟨t, _⟩ <;> first | omega | (rw [t]; exact ⟨rfl, rfl⟩)
    · rcases ftp_ty h2 h3 with ⟨t, _⟩ | ⟨t, _⟩ | ⟨_, t⟩ | ⟨t, _⟩ <;> first | omega | (rw [t]; exact fit_b hz)
    · rcases ftp_ty h2 h3 with ⟨t, _⟩ | ⟨_, t⟩ | ⟨t, _⟩ | ⟨t, _⟩ <;> first | omega | (rw [t]; exact ⟨rfl, rfl⟩)
    · rcases ftp_ty h2 h3 with ⟨t, _⟩ | ⟨t, _⟩ | ⟨t, _⟩ | ⟨_, t⟩ <;> first | omega | (rw [eVa hb0]; exact fit_r t _)
  have hcell : (ρ a, eC L aT ρ (mset w.2 a k x) a) = (ρ a, Sum.inr (ci, ((List.range (fcount ci)).map (fun k => eV ρ (ztyp (fty ci k) (w.2 a k)))).set k (eV ρ v))) := by
    rw [eC_setO hlt, hsh, hv]
  have kk : ∀ (H1 : Heap) (locs1 : List Loc), va_P D cls_ ((eW L aT ρ w).set (a - 1) (ρ a, Sum.inr (ci, ((List.range (fcount ci)).map (fun k => eV ρ (ztyp (fty ci k) (w.2 a k)))).set k (eV ρ v)))) H1 → va_D A ((eW L aT ρ w).set (a - 1) (ρ a, Sum.inr (ci, ((List.range (fcount ci)).map (fun k => eV ρ (ztyp (fty ci k) (w.2 a k)))).set k (eV ρ v)))) → va_S A s.heap H1 locs1 → W p l e R s mi args below meth c H1 locs1 cells slots Q (F0 mi (pc + 3) lm (st'.map (eV ρ))) := by
    intro H1 locs1 q1 q2 q3
    rw [← hcell] at q1 q2
    refine K rfl rfl (okt (okt hst)) H1 locs1 (I.put a1 (sh_small (L := L) (a := a) (by omega)).2 (fun b hb => mset_ne hb) (okM_setO I.2.2.2.1 hlt ?_) q1 q2 q3)
    rw [hsh, hv]
    exact okh hst
  rw [List.map_cons, List.map_cons, eVa (by omega)]
  by_cases hfin : ffin ci k = true
  · obtain ⟨g1, g2⟩ := hf hfin
    exact va_putF (ty := ftp ci k) hx hb hts (uws_all ci h2) (ftp ci) (ftp_ok h2) (nm_ok h2) hown hS0.1 I.1 I.2.1 I.2.2.1 (a - 1) hc (cls_at ci h2) k h3 (hts _ h1) (fun _ q => q) (by rw [f1]; exact hfin) (hin g1) (by rw [f2, g2]) (ftp_ok h2 k h3) hnf.1 hnf.2 (by simp; exact h3) hd kk
  · exact va_put (ty := ftp ci k) hx hb hts (uws_all ci h2) (ftp ci) (ftp_ok h2) (nm_ok h2) hown hS0.1 I.1 I.2.1 I.2.2.1 (a - 1) hc (cls_at ci h2) k h3 (hts _ h1) (fun _ q => q) (by rw [f1]; simpa using hfin) (ftp_ok h2 k h3) hnf.1 hnf.2 (by simp; exact h3) hd kk
-- arrays
theorem zald_inv {ks : List Nat} {t pc : Nat} {ls : Lo} {w : Wd} {st : List TV} {X : StR} (h : zald L ks t pc ls w st = some X) : ∃ i a r, st = tI i :: tA a :: r ∧ (sh L a).1 ∈ ks ∧ 0 ≤ i ∧ i < ((sh L a).2 : Int) ∧ X = .inl (pc + 1, ls, ztyp t (w.2 a i.toNat) :: r, w) := by
  unfold zald at h
  split at h
  · obtain ⟨⟨h1, h2, h3⟩, h4⟩ := if_some h
    cases h4
    exact ⟨_, _, _, rfl, h1, h2, h3, rfl⟩
  · cases h
/-- an array of arrays, loaded -/
theorem va_aldA {cc : ByteArray} {pc : Nat} {ls : Array Slot} {rest : List Value} {cl : List vw_C} {a : Nat} {tys : List (ClassId × FieldType)} {ws : va_W} (hexec : p.tables.exec = Jvm.exec) (hb : c.code = cc) (hK : va_K D cl tys s) (hP : va_P D cl ws H) (q0 t0 : Nat) {cA : ClassId} {ty : FieldType} {n : Nat} {f : Nat → Option Nat} (ha : ws[q0]? = some (a, .inl (cA, n, .inr (.inr (.inr (.inr f)))))) (ht : tys[t0]? = some (cA, .array ty)) {i : Int32} (hin : vp_in i n) (hdg : decode cc pc = .ok (.aaload, 1))
    (kk : W p l e R s mi args below meth c H locs cells slots Q (F0 mi (pc + 1) ls (va_rf (f i.toNatClampNeg) :: rest))) : W p l e R s mi args below meth c H locs cells slots Q (F0 mi pc ls (.int i :: .ref a :: rest)) := by
  have hlt : i.toNatClampNeg < n := Nat.not_le.mp fun q => hin (Or.inr q)
  exact W.aald (v := va_rf (f i.toNatClampNeg)) (ty := .array ty) hexec hb (hP q0 _ ha) ((hK.2 t0 _ ht).1 n (fun j => va_rf (f j))) rfl (fun q => by cases q) (by show ¬ (i < 0 ∨ (arrV _ _ _).slots.size ≤ _); rw [arrV_size]; exact hin) (by show (arrV _ _ _).slots[_]? = _; rw [arrV_read _ _ hlt]) rfl rfl hdg kk
theorem rf_eV {x : Int} : va_rf (if x.toNat = 0 then none else some (ρ x.toNat)) = eV ρ (tA x.toNat) := by
  show _ = (if x.toNat = 0 then Value.null else Value.ref (ρ x.toNat))
  by_cases h : x.toNat = 0
  · rw [if_pos h, if_pos h]; rfl
  · rw [if_neg h, if_neg h]; rfl
theorem sim_ald {pc pc' : Nat} {ls ls' : Lo} {st st' : List TV} {w w' : Wd} {lm : Array Slot} {i : Instr} {ks : List Nat} {t : Nat} (C : Cx L D aT xs m p s mi args meth c A ρ) (hd : decode m.2.2.2.1 pc = .ok (i, 1)) (hi : (i = .iaload ∧ ks = [20, 27] ∧ t = 0) ∨ (i = .laload ∧ ks = [21] ∧ t = 1) ∨ (i = .baload ∧ ks = [22, 23] ∧ t = 0) ∨ (i = .aaload ∧ ks = [24, 25, 26] ∧ t = 3)) (h : zald L ks t pc ls w st = some (.inl (pc', ls', st', w')))
    (I : Iv L D aT xs s A ρ w H locs) (hst : ∀ v ∈ st, okV w.1 v) (hL : L ≤ 100000)
    (K : w' = w → ls' = ls → (∀ v ∈ st', okV w.1 v) → W p l e R s mi args below meth c H locs cells slots Q (F0 mi pc' lm (st'.map (eV ρ)))) :
    W p l e R s mi args below meth c H locs cells slots Q (F0 mi pc lm (st.map (eV ρ))) := by
  obtain ⟨hx, hb, hml, hown, hts, hin, hA, hS0⟩ := C
  obtain ⟨x, a, r, rfl, hk, h0, h1, hX⟩ := zald_inv h
  cases hX
  have oa : okV w.1 (tA a) := okh (okt hst)
  by_cases h27 : (sh L a).1 = 27
  · -- the script
    rcases hi with ⟨rfl, rfl, rfl⟩ | ⟨rfl, rfl, rfl⟩ | ⟨rfl, rfl, rfl⟩ | ⟨rfl, rfl, rfl⟩
    · have ea : a = 900 := by
        by_cases e9 : a = 900
        · exact e9
        · exfalso
          unfold sh at h27
          rw [if_neg e9] at h27
          by_cases h2 : 901 ≤ a ∧ a < 906
          · rw [if_pos h2] at h27; exact absurd h27 (show ¬ (28 : Nat) = 27 by decide)
          · rw [if_neg h2, List.getD_eq_getElem?_getD] at h27
            match hq : shl[a]? with
            | none => rw [hq] at h27; exact absurd h27 (by decide)
            | some q =>
              rw [hq] at h27
              have h3 : shl.all (fun q => decide (q.1 ≠ 27)) = true := by decide +kernel
              exact of_decide_eq_true (List.all_eq_true.mp h3 q (List.mem_of_getElem? hq)) h27
      subst ea
      have hsz : (sh L 900).2 = L := rfl
      rw [hsz] at h1
      rw [List.map_cons, List.map_cons, eVa (by omega)]
      have hci : (Int32.ofInt x).toNatClampNeg = x.toNat := i_clamp (by omega)
      refine va_sld hx hb hS0.2.2.2.2.2.1 hS0.2.2.2.2.2.2.1 hS0.2.2.2.2.2.2.2.1 I.2.2.1 (i_in ⟨h0, h1⟩ (by omega)) hd ?_
      have hm := I.2.2.2.2.1 x.toNat (by omega)
      rw [hci, ← Int32.ofInt_toInt (xs x.toNat), ← hm]
      refine K rfl rfl (okc ?_ (okt (okt hst)))
      show -2147483648 ≤ w.2 900 x.toNat ∧ w.2 900 x.toNat < 2147483648
      rw [hm]
      exact i32_toInt _
    · simp [h27] at hk
    · simp [h27] at hk
    · simp [h27] at hk
  · have hle : (sh L a).1 ≤ 26 ∧ 20 ≤ (sh L a).1 := by
      rcases hi with ⟨_, rfl, _⟩ | ⟨_, rfl, _⟩ | ⟨_, rfl, _⟩ | ⟨_, rfl, _⟩ <;> simp at hk <;> omega
    obtain ⟨a1, a2⟩ := in_w (L := L) oa hle.1
    have hsz := sh_size hle.1
    have hc := eW_cell (L := L) (aT := aT) (ρ := ρ) a1 a2
    rw [eC_arr (by omega)] at hc
    have hci : (Int32.ofInt x).toNatClampNeg = x.toNat := i_clamp (by omega)
    have hini : vp_in (Int32.ofInt x) (sh L a).2 := i_in ⟨h0, h1⟩ (by omega)
    have hok := okM_arr (k := x.toNat) I.2.2.2.1 a1 a2 (by omega)
    rw [List.map_cons, List.map_cons, eVa (by omega)]
    obtain ⟨T20, T21, T22, T23, T24, T25, T26⟩ := tys_at (aT := aT) (sh L a).1
    rcases hi with ⟨rfl, rfl, rfl⟩ | ⟨rfl, rfl, rfl⟩ | ⟨rfl, rfl, rfl⟩ | ⟨rfl, rfl, rfl⟩
    · have hk2 : (sh L a).1 = 20 := by simp at hk; omega
      rw [eA_i (by omega) (by omega)] at hc
      refine va_iald hx hb hS0.1 I.1 (a - 1) 0 hc (T20 hk2) hini hd ?_
      rw [hci]
      refine K rfl rfl (okc ?_ (okt (okt hst)))
      rw [show aty (sh L a).1 = 0 by rw [hk2]; rfl] at hok
      exact hok
    · have hk2 : (sh L a).1 = 21 := by simp at hk; omega
      rw [hk2, eA_l] at hc
      refine va_lald hx hb hS0.1 I.1 (a - 1) 1 hc (hk2 ▸ T21 hk2) hini hd ?_
      rw [hci]
      refine K rfl rfl (okc ?_ (okt (okt hst)))
      rw [show aty (sh L a).1 = 1 by rw [hk2]; rfl] at hok
      exact hok
    · have hk3 : (sh L a).1 = 22 ∨ (sh L a).1 = 23 := by simpa using hk
      rw [eA_i (show (sh L a).1 ≠ 21 by omega) (show ¬ ((sh L a).1 = 24 ∨ (sh L a).1 = 25 ∨ (sh L a).1 = 26) by omega)] at hc
      have hgo : W p l e R s mi args below meth c H locs cells slots Q (F0 mi (pc + 1) lm (Value.int (Int32.ofInt (w.2 a (Int32.ofInt x).toNatClampNeg)) :: r.map (eV ρ))) := by
        rw [hci]
        refine K rfl rfl (okc ?_ (okt (okt hst)))
        have hk4 : aty (sh L a).1 = 0 := by rcases hk3 with q | q <;> rw [q] <;> rfl
        rw [hk4] at hok
        exact hok
      by_cases hk2 : (sh L a).1 = 22
      · exact va_bald hx hb hS0.1 I.1 (a - 1) 2 hc (T22 hk2) hini hd hgo
      · exact va_zald hx hb hS0.1 I.1 (a - 1) 3 hc (T23 (by simp at hk; omega)) hini hd hgo
    · have hk2 : (sh L a).1 = 24 ∨ (sh L a).1 = 25 ∨ (sh L a).1 = 26 := by simpa using hk
      rw [eA_q hk2] at hc
      have hgo : W p l e R s mi args below meth c H locs cells slots Q (F0 mi (pc + 1) lm (va_rf ((fun j => if (w.2 a j).toNat = 0 then none else some (ρ (w.2 a j).toNat)) (Int32.ofInt x).toNatClampNeg) :: r.map (eV ρ))) := by
        rw [hci]
        dsimp only
        rw [rf_eV]
        refine K rfl rfl (okc ?_ (okt (okt hst)))
        rw [show aty (sh L a).1 = 3 by unfold aty; rw [if_neg (by omega), if_pos hk2]] at hok
        exact hok
      rcases hk2 with q | q | q
      · exact va_aldq hx hb hS0.1 I.1 (a - 1) 4 hc (T24 q) hini hd hgo
      · exact va_aldA hx hb hS0.1 I.1 (a - 1) 5 hc (T25 q) hini hd hgo
      · exact va_aldA hx hb hS0.1 I.1 (a - 1) 6 hc (T26 q) hini hd hgo
end SIM
