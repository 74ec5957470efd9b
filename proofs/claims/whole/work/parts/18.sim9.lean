/-! THE WHOLE: a run of the small machine is a walk of the machine (two kinds of step are still hypotheses: what is done without a frame of its own, and new T[n][m]) -/
def IntrOpen (l : Launch) (L : Nat) (D : va_G) (aT : Nat → ClassId) (xs : Nat → Int32) : Prop := ∀ (m : Mth) (p : Program) (e : Env) (R : Room) (s : State) (mi : MethodId) (args : Array Value) (below : List Frame) (meth : Method) (c : Code) (A : Nat → Prop) (ρ : Nat → Nat) (H : Heap) (locs : List Loc) (cells slots : Nat) (lm : Array Slot) (Q : State → Prop) (pc pc' idx o : Nat) (ls ls' : Lo) (st st' : List TV) (w w' : Wd) (i : Instr),
  Cx L D aT xs m p s mi args meth c A ρ → decode m.2.2.2.1 pc = .ok (i, 3) → ((i = .invokevirtual idx ∧ o = 0) ∨ (i = .invokestatic idx ∧ o = 1) ∨ (i = .invokespecial idx ∧ o = 2)) → zinv L m idx pc ls st w o = some (.inl (pc', ls', st', w')) → Iv L D aT xs s A ρ w H locs → Lv ρ lm ls m.2.2.2.2.1 w.1 → (∀ v ∈ st, okV w.1 v) → 8 ≤ R.frames → 600 ≤ R.locals → cells ≤ R.cells → slots ≤ R.slots →
  (w'.1 = w.1 → ls' = ls → (∀ v ∈ st', okV w.1 v) → ∀ H' locs', Iv L D aT xs s A ρ w' H' locs' → W p l e R s mi args below meth c H' locs' cells slots Q (F0 mi pc' lm (st'.map (eV ρ)))) →
  W p l e R s mi args below meth c H locs cells slots Q (F0 mi pc lm (st.map (eV ρ)))
def MnaOpen (l : Launch) (L : Nat) (D : va_G) (aT : Nat → ClassId) (xs : Nat → Int32) : Prop := ∀ (m : Mth) (p : Program) (e : Env) (R : Room) (s : State) (mi : MethodId) (args : Array Value) (below : List Frame) (meth : Method) (c : Code) (A : Nat → Prop) (ρ : Nat → Nat) (H : Heap) (locs : List Loc) (cells slots : Nat) (lm : Array Slot) (Q : State → Prop) (pc pc' idx : Nat) (ls ls' : Lo) (st st' : List TV) (w w' : Wd),
  Cx L D aT xs m p s mi args meth c A ρ → decode m.2.2.2.1 pc = .ok (.multianewarray idx 2, 4) → zmna L m idx pc ls w st = some (.inl (pc', ls', st', w')) → Iv L D aT xs s A ρ w H locs → (∀ v ∈ st, okV w.1 v) → cells + (w'.1 - w.1) ≤ R.cells → slots + (ssum L w'.1 - ssum L w.1) ≤ R.slots →
  (ls' = ls → ∀ ρ' H', agr ρ ρ' w.1 → (∀ v ∈ st', okV w'.1 v) → Iv L D aT xs s A ρ' w' H' locs → W p l e R s mi args below meth c H' locs (cells + (w'.1 - w.1)) (slots + (ssum L w'.1 - ssum L w.1)) Q (F0 mi pc' lm (st'.map (eV ρ')))) →
  W p l e R s mi args below meth c H locs cells slots Q (F0 mi pc lm (st.map (eV ρ)))
theorem Cx.agr {L : Nat} {D : va_G} {aT : Nat → ClassId} {xs : Nat → Int32} {m : Mth} {p : Program} {s : State} {mi : MethodId} {args : Array Value} {meth : Method} {c : Code} {A : Nat → Prop} {ρ ρ' : Nat → Nat} {nc : Nat} (C : Cx L D aT xs m p s mi args meth c A ρ) (h : agr ρ ρ' nc) : Cx L D aT xs m p s mi args meth c A ρ' := ⟨C.1, C.2.1, C.2.2.1, C.2.2.2.1, C.2.2.2.2.1, C.2.2.2.2.2.1, C.2.2.2.2.2.2.1, C.2.2.2.2.2.2.2.agr h⟩
theorem Lv.mv {ρ ρ' : Nat → Nat} {lm : Array Slot} {ls : Lo} {n nc nc' : Nat} (h : Lv ρ lm ls n nc) (hag : agr ρ ρ' nc) (hn : nc ≤ nc') : Lv ρ' lm ls n nc' := ⟨by rw [lvl_agr hag h.2.2]; exact h.1, h.2.1, fun v hv => okV_mono hn (h.2.2 v hv)⟩
theorem stk_new {ρ : Nat → Nat} {n q : Nat} {st : List TV} (h9 : n < 899) (hst : ∀ v ∈ st, okV n v) : (tA (n + 1) :: st).map (eV (rhoN ρ (n + 1) q)) = Value.ref q :: st.map (eV ρ) := by
  rw [List.map_cons, map_agr (rhoN_agr h9) hst, eVa (by omega)]
  unfold rhoN
  rw [if_pos rfl]
set_option maxRecDepth 100000 in
set_option maxHeartbeats 4000000 in
theorem sim_all_open (l : Launch) (L : Nat) (D : va_G) (aT : Nat → ClassId) (xs : Nat → Int32) (hL : L ≤ 100000) (hIn : IntrOpen l L D aT xs) (hMn : MnaOpen l L D aT xs) : ∀ n, SimN l L D aT xs n := by
  intro n
  induction n with
  | zero => intro d m pc ls st w r w' h; cases h
  | succ n ih =>
    intro d m pc ls st w r w' h p e R s mi args below meth c A ρ H locs cells slots lm Q C I hl hst hR K
    rw [mrun] at h
    match hs : stp L m pc ls st w with
    | none => rw [hs] at h; cases h
    | some (.inl (pc1, ls1, st1, w1)) =>
      rw [hs] at h
      dsimp only at h
      have hn1 : w.1 ≤ w1.1 := stp_nc hs
      have hn2 : w1.1 ≤ w'.1 := mrun_nc L _ _ _ _ _ _ _ _ _ h
      have hs1 := ssum_le L hn1
      have hs2 := ssum_le L hn2
      obtain ⟨R1, R2, R3, R4⟩ := hR
      have cont : ∀ ρ1 H1 locs1 lm1, agr ρ ρ1 w.1 → Iv L D aT xs s A ρ1 w1 H1 locs1 → Lv ρ1 lm1 ls1 m.2.2.2.2.1 w1.1 → (∀ v ∈ st1, okV w1.1 v) → W p l e R s mi args below meth c H1 locs1 (cells + (w1.1 - w.1)) (slots + (ssum L w1.1 - ssum L w.1)) Q (F0 mi pc1 lm1 (st1.map (eV ρ1))) := by
        intro ρ1 H1 locs1 lm1 hag I1 L1 o1
        refine ih d m pc1 ls1 st1 w1 r w' h p e R s mi args below meth c A ρ1 H1 locs1 _ _ lm1 Q (C.agr hag) I1 L1 o1 ⟨R1, R2, by omega, by omega⟩ (fun pc2 lm2 ρ2 H2 locs2 hag2 I2 hret hrv => ?_)
        have hk := K pc2 lm2 ρ2 H2 locs2 (hag.tr hag2 hn1) I2 hret hrv
        rw [show cells + (w1.1 - w.1) + (w'.1 - w1.1) = cells + (w'.1 - w.1) by omega, show slots + (ssum L w1.1 - ssum L w.1) + (ssum L w'.1 - ssum L w1.1) = slots + (ssum L w'.1 - ssum L w.1) by omega]
        exact hk
      have cont0 : w1.1 = w.1 → ∀ H1 locs1 lm1, Iv L D aT xs s A ρ w1 H1 locs1 → Lv ρ lm1 ls1 m.2.2.2.2.1 w.1 → (∀ v ∈ st1, okV w.1 v) → W p l e R s mi args below meth c H1 locs1 cells slots Q (F0 mi pc1 lm1 (st1.map (eV ρ))) := by
        intro e1 H1 locs1 lm1 I1 L1 o1
        have hk := cont ρ H1 locs1 lm1 agr.rf I1 (by rw [e1]; exact L1) (by rw [e1]; exact o1)
        rw [e1, Nat.sub_self, Nat.sub_self, Nat.add_zero, Nat.add_zero] at hk
        exact hk
      match hd : decode m.2.2.2.1 pc with
      | .error z =>
        unfold stp at hs
        rw [hd] at hs
        cases hs
      | .ok (i, len) =>
        by_cases hpl : plainI i = true
        · exact sim_plain C hd hpl hs hl hst (fun e1 lm' L1 o1 => cont0 (by rw [e1]) H locs lm' (by rw [e1]; exact I) L1 o1)
        · unfold stp at hs
          rw [hd] at hs
          dsimp only at hs
          cases i <;> first | (exact absurd rfl hpl) | (cases hs; done) | skip
          case getfield idx =>
            obtain ⟨rfl, h2⟩ := if_some hs
            exact sim_get C hd h2 I hst (fun e1 e2 o1 => cont0 (by rw [e1]) H locs lm (by rw [e1]; exact I) (by rw [e2]; exact hl) o1)
          case putfield idx =>
            obtain ⟨rfl, h2⟩ := if_some hs
            exact sim_put C hd h2 I hst (fun e1 e2 o1 H' locs' I' => cont0 e1 H' locs' lm I' (by rw [e2]; exact hl) o1)
          case iaload =>
            obtain ⟨rfl, h2⟩ := if_some hs
            exact sim_ald C hd (Or.inl ⟨rfl, rfl, rfl⟩) h2 I hst hL (fun e1 e2 o1 => cont0 (by rw [e1]) H locs lm (by rw [e1]; exact I) (by rw [e2]; exact hl) o1)
          case laload =>
            obtain ⟨rfl, h2⟩ := if_some hs
            exact sim_ald C hd (Or.inr (Or.inl ⟨rfl, rfl, rfl⟩)) h2 I hst hL (fun e1 e2 o1 => cont0 (by rw [e1]) H locs lm (by rw [e1]; exact I) (by rw [e2]; exact hl) o1)
          case baload =>
            obtain ⟨rfl, h2⟩ := if_some hs
            exact sim_ald C hd (Or.inr (Or.inr (Or.inl ⟨rfl, rfl, rfl⟩))) h2 I hst hL (fun e1 e2 o1 => cont0 (by rw [e1]) H locs lm (by rw [e1]; exact I) (by rw [e2]; exact hl) o1)
          case aaload =>
            obtain ⟨rfl, h2⟩ := if_some hs
            exact sim_ald C hd (Or.inr (Or.inr (Or.inr ⟨rfl, rfl, rfl⟩))) h2 I hst hL (fun e1 e2 o1 => cont0 (by rw [e1]) H locs lm (by rw [e1]; exact I) (by rw [e2]; exact hl) o1)
          case iastore =>
            obtain ⟨rfl, h2⟩ := if_some hs
            exact sim_ast C hd (Or.inl ⟨rfl, rfl⟩) h2 I hst (fun e1 e2 o1 H' locs' I' => cont0 e1 H' locs' lm I' (by rw [e2]; exact hl) o1)
          case bastore =>
            obtain ⟨rfl, h2⟩ := if_some hs
            exact sim_ast C hd (Or.inr (Or.inl ⟨rfl, rfl⟩)) h2 I hst (fun e1 e2 o1 H' locs' I' => cont0 e1 H' locs' lm I' (by rw [e2]; exact hl) o1)
          case lastore =>
            obtain ⟨rfl, h2⟩ := if_some hs
            exact sim_ast C hd (Or.inr (Or.inr (Or.inl ⟨rfl, rfl⟩))) h2 I hst (fun e1 e2 o1 H' locs' I' => cont0 e1 H' locs' lm I' (by rw [e2]; exact hl) o1)
          case aastore =>
            obtain ⟨rfl, h2⟩ := if_some hs
            exact sim_ast C hd (Or.inr (Or.inr (Or.inr ⟨rfl, rfl⟩))) h2 I hst (fun e1 e2 o1 H' locs' I' => cont0 e1 H' locs' lm I' (by rw [e2]; exact hl) o1)
          case arraylength =>
            obtain ⟨rfl, h2⟩ := if_some hs
            exact sim_alen C hd h2 I hst hL (fun e1 e2 o1 => cont0 (by rw [e1]) H locs lm (by rw [e1]; exact I) (by rw [e2]; exact hl) o1)
          case invokevirtual idx =>
            obtain ⟨rfl, h2⟩ := if_some hs
            exact hIn _ _ _ _ _ _ _ _ _ _ _ _ _ _ _ _ _ _ _ _ _ _ _ _ _ _ _ _ _ C hd (Or.inl ⟨rfl, rfl⟩) h2 I hl hst (by omega) (by omega) (by omega) (by omega) (fun e1 e2 o1 H' locs' I' => cont0 e1 H' locs' lm I' (by rw [e2]; exact hl) o1)
          case invokestatic idx =>
            obtain ⟨rfl, h2⟩ := if_some hs
            exact hIn _ _ _ _ _ _ _ _ _ _ _ _ _ _ _ _ _ _ _ _ _ _ _ _ _ _ _ _ _ C hd (Or.inr (Or.inl ⟨rfl, rfl⟩)) h2 I hl hst (by omega) (by omega) (by omega) (by omega) (fun e1 e2 o1 H' locs' I' => cont0 e1 H' locs' lm I' (by rw [e2]; exact hl) o1)
          case invokespecial idx =>
            obtain ⟨rfl, h2⟩ := if_some hs
            exact hIn _ _ _ _ _ _ _ _ _ _ _ _ _ _ _ _ _ _ _ _ _ _ _ _ _ _ _ _ _ C hd (Or.inr (Or.inr ⟨rfl, rfl⟩)) h2 I hl hst (by omega) (by omega) (by omega) (by omega) (fun e1 e2 o1 H' locs' I' => cont0 e1 H' locs' lm I' (by rw [e2]; exact hl) o1)
          case new idx =>
            obtain ⟨rfl, h2⟩ := if_some hs
            split at h2
            · rename_i ci hr
              obtain ⟨⟨hc, hsh⟩, h3⟩ := if_some h2
              cases h3
              have h9 : w.1 < 899 := by have := (sh_small (L := L) (a := w.1 + 1) (by rw [hsh]; show ci ≤ 26; omega)).2; omega
              have hz1 : (znew w 1 (fun _ _ => 0)).1 = w.1 + 1 := rfl
              have hz2 : ssum L (w.1 + 1) = ssum L w.1 + fcount ci := by show ssum L w.1 + (sh L (w.1 + 1)).2 = _; rw [hsh]
              rw [hz1] at hn2 hs2
              refine sim_new C hd hr hc hsh I ⟨by omega, by omega⟩ (fun q H' I' => ?_)
              have hk := cont (rhoN ρ (w.1 + 1) q) H' locs lm (rhoN_agr h9) I' (hl.mv (rhoN_agr h9) hn1) (okc (Or.inl (Nat.le_refl _)) (fun v hv => okV_mono hn1 (hst v hv)))
              rw [hz1, hz2, show cells + (w.1 + 1 - w.1) = cells + 1 by omega, show slots + (ssum L w.1 + fcount ci - ssum L w.1) = slots + fcount ci by omega, stk_new h9 hst] at hk
              exact hk
            · cases h2
          case newarray ty =>
            obtain ⟨rfl, h2⟩ := if_some hs
            split at h2
            · rename_i k rst
              obtain ⟨⟨hk0, hk1, hk2, hsh⟩, h3⟩ := if_some h2
              cases h3
              have h9 : w.1 < 899 := by
                have : (sh L (w.1 + 1)).1 ≤ 26 := by rw [hsh]; show zatyp ty ≤ 26; cases ty <;> simp [zatyp] at hk2 ⊢
                have := (sh_small this).2; omega
              have hz1 : (znew w 1 (fun _ _ => 0)).1 = w.1 + 1 := rfl
              have hz2 : ssum L (w.1 + 1) = ssum L w.1 + k.toNat := by show ssum L w.1 + (sh L (w.1 + 1)).2 = _; rw [hsh]
              rw [hz1] at hn2 hs2
              refine sim_newarray C hd rfl hk2 hk0 hk1 hsh I ⟨by omega, by omega⟩ (fun q H' I' => ?_)
              have hk := cont (rhoN ρ (w.1 + 1) q) H' locs lm (rhoN_agr h9) I' (hl.mv (rhoN_agr h9) hn1) (okc (Or.inl (Nat.le_refl _)) (fun v hv => okV_mono hn1 (okt hst v hv)))
              rw [hz1, hz2, show cells + (w.1 + 1 - w.1) = cells + 1 by omega, show slots + (ssum L w.1 + k.toNat - ssum L w.1) = slots + k.toNat by omega, stk_new h9 (okt hst)] at hk
              exact hk
            · cases h2
          case anewarray idx =>
            obtain ⟨rfl, h2⟩ := if_some hs
            split at h2
            · rename_i k rst
              obtain ⟨⟨hk0, hk1, hk2, hsh⟩, h3⟩ := if_some h2
              cases h3
              have h9 : w.1 < 899 := by have := (sh_small (L := L) (a := w.1 + 1) (by rw [hsh]; show 24 ≤ 26; omega)).2; omega
              have hz1 : (znew w 1 (fun _ _ => 0)).1 = w.1 + 1 := rfl
              have hz2 : ssum L (w.1 + 1) = ssum L w.1 + k.toNat := by show ssum L w.1 + (sh L (w.1 + 1)).2 = _; rw [hsh]
              rw [hz1] at hn2 hs2
              refine sim_anew C hd hk2 hk0 hk1 hsh I ⟨by omega, by omega⟩ (fun q H' I' => ?_)
              have hk := cont (rhoN ρ (w.1 + 1) q) H' locs lm (rhoN_agr h9) I' (hl.mv (rhoN_agr h9) hn1) (okc (Or.inl (Nat.le_refl _)) (fun v hv => okV_mono hn1 (okt hst v hv)))
              rw [hz1, hz2, show cells + (w.1 + 1 - w.1) = cells + 1 by omega, show slots + (ssum L w.1 + k.toNat - ssum L w.1) = slots + k.toNat by omega, stk_new h9 (okt hst)] at hk
              exact hk
            · cases h2
          case multianewarray idx dm =>
            match dm, hs, hd with
            | 2, hs, hd =>
              obtain ⟨rfl, h2⟩ := if_some hs
              exact hMn _ _ _ _ _ _ _ _ _ _ _ _ _ _ _ _ _ _ _ _ _ _ _ _ _ _ _ C hd h2 I hst (by omega) (by omega) (fun e2 ρ' H' hag o1 I' => cont ρ' H' locs lm hag I' (by rw [e2]; exact hl.mv hag hn1) o1)
            | 0, hs, _ => cases hs
            | 1, hs, _ => cases hs
            | k + 3, hs, _ => cases hs
          all_goals (have h2 := (if_some hs).2; split at h2 <;> first | (cases h2; done) | (have h3 := (if_some h2).2; cases h3; done))
    | some (.inr (.inl r1)) =>
      rw [hs] at h
      dsimp only at h
      cases h
      obtain ⟨e1, hret⟩ := stp_ret hs
      have hk := K pc lm ρ H locs agr.rf I hret (by rw [← e1]; exact hst)
      rw [Nat.sub_self, Nat.sub_self, Nat.add_zero, Nat.add_zero, ← e1] at hk
      exact hk
    | some (.inr (.inr (m', as, rest))) =>
      rw [hs] at h
      cases d with
      | zero => cases h
      | succ d =>
        dsimp only at h
        match hc : mrun L n d m' 0 (lentry m'.2.2.2.2.1 as) [] w with
        | none => rw [hc] at h; cases h
        | some (r1, w1) =>
          rw [hc] at h
          obtain ⟨i, idx, o, hd, hio, hz⟩ := stp_call hs
          have hn1 : w.1 ≤ w1.1 := mrun_nc L _ _ _ _ _ _ _ _ _ hc
          have hn2 : w1.1 ≤ w'.1 := mrun_nc L _ _ _ _ _ _ _ _ _ h
          have hs1 := ssum_le L hn1
          have hs2 := ssum_le L hn2
          obtain ⟨R1, R2, R3, R4⟩ := hR
          have hrest : ∀ v ∈ rest, okV w.1 v := by
            obtain ⟨_, _, _, hstk, _⟩ := zinv_call hz
            intro v hv
            exact hst v (by rw [hstk]; exact List.mem_append_right _ hv)
          refine sim_call ih C hd hio hz hc I hl hst (by omega) (by omega) (by omega) (by omega) (fun ρ1 H1 locs1 hag hP1 hD1 hS1 hok1 => ?_)
          have hstk : (r1.map (eV ρ1)).toList ++ rest.map (eV ρ) = (r1.toList ++ rest).map (eV ρ1) := by
            rw [List.map_append, map_agr hag hrest]
            congr 1
            cases r1 <;> rfl
          rw [hstk]
          refine ih (d + 1) m (pc + 3) ls (r1.toList ++ rest) w1 r w' h p e R s mi args below meth c A ρ1 H1 locs1 _ _ lm Q (C.agr hag) ⟨hP1, hD1, hS1, hok1.1⟩ (hl.mv hag hn1) ?_ ⟨R1, R2, by omega, by omega⟩ (fun pc2 lm2 ρ2 H2 locs2 hag2 I2 hret hrv => ?_)
          · intro v hv
            rcases List.mem_append.mp hv with q | q
            · exact hok1.2 v q
            · exact okV_mono hn1 (hrest v q)
          · have hk := K pc2 lm2 ρ2 H2 locs2 (hag.tr hag2 hn1) I2 hret hrv
            rw [show cells + (w1.1 - w.1) + (w'.1 - w1.1) = cells + (w'.1 - w.1) by omega, show slots + (ssum L w1.1 - ssum L w.1) + (ssum L w'.1 - ssum L w1.1) = slots + (ssum L w'.1 - ssum L w.1) by omega]
            exact hk
