/-! new cells; what is done without a frame of its own -/
section SIM
variable {l : Launch} {L : Nat} {D : va_G} {aT : Nat → ClassId} {xs : Nat → Int32} {m : Mth} {p : Program} {e : Env} {R : Room} {s : State} {mi : MethodId} {args : Array Value} {below : List Frame} {meth : Method} {c : Code} {A : Nat → Prop} {ρ : Nat → Nat} {H : Heap} {locs : List Loc} {cells slots : Nat} {Q : State → Prop}
theorem okV_zero {nc t : Nat} : okV nc (ztyp t 0) := by
  unfold ztyp
  split
  · show -9223372036854775808 ≤ (0 : Int) ∧ (0 : Int) < 9223372036854775808; decide
  · show (0 : Int).toNat ≤ nc ∨ 900 ≤ (0 : Int).toNat; exact Or.inl (Nat.zero_le _)
  · show -2147483648 ≤ (0 : Int) ∧ (0 : Int) < 2147483648; decide
theorem Iv.new {w : Wd} {q : Nat} {H' : Heap} {locs' : List Loc} (I : Iv L D aT xs s A ρ w H locs) (hk : (sh L (w.1 + 1)).1 ≤ 26) {E : va_E} (hE : eC L aT (rhoN ρ (w.1 + 1) q) (fun _ _ => 0) (w.1 + 1) = E)
    (hP : va_P D cls_ (eW L aT ρ w ++ [(q, E)]) H') (hD : va_D A (eW L aT ρ w ++ [(q, E)])) (hS : va_S A s.heap H' locs') : Iv L D aT xs s A (rhoN ρ (w.1 + 1) q) (znew w 1 (fun _ _ => 0)) H' locs' := by
  have h9 := (sh_small hk).2
  subst hE
  rw [← eW_new I.2.2.2.1 (by omega)] at hP hD
  refine ⟨hP, hD, hS, okM_new I.2.2.2.1 (fun i k _ _ => ⟨fun _ _ => okV_zero, fun _ => okV_zero⟩), ?_, by show w.1 + 1 < 900; omega⟩
  intro j hj
  show (znew w 1 (fun _ _ => 0)).2 900 j = _
  unfold znew
  simp only []
  rw [if_neg (by omega)]
  exact I.2.2.2.2.1 j hj
theorem eC_newO {ci n : Nat} {ρ' : Nat → Nat} (h : (sh L n).1 = ci) (hc : ci < 12) : eC L aT ρ' (fun _ _ => 0) n = .inr (ci, (List.range (fcount ci)).map (fun k => eV ρ (ztyp (fty ci k) 0))) := by
  rw [eC_obj (by omega), h]
  congr 2
  apply List.map_congr_left
  intro k _
  unfold ztyp
  split
  · rfl
  · rfl
  · rfl
theorem sim_new {pc idx ci : Nat} {st : List TV} {w : Wd} {lm : Array Slot} (C : Cx L D aT xs m p s mi args meth c A ρ) (hd : decode m.2.2.2.1 pc = .ok (.new idx, 3)) (hr : rC m.1 idx = some ci) (hc : ci < 12) (hsh : sh L (w.1 + 1) = (ci, fcount ci))
    (I : Iv L D aT xs s A ρ w H locs) (hR : cells + 1 ≤ R.cells ∧ slots + fcount ci ≤ R.slots)
    (K : ∀ q H', Iv L D aT xs s A (rhoN ρ (w.1 + 1) q) (znew w 1 (fun _ _ => 0)) H' locs → W p l e R s mi args below meth c H' locs (cells + 1) (slots + fcount ci) Q (F0 mi (pc + 3) lm (.ref q :: st.map (eV ρ)))) :
    W p l e R s mi args below meth c H locs cells slots Q (F0 mi pc lm (st.map (eV ρ))) := by
  obtain ⟨hx, hb, hml, hown, hts, hin, hA, hS0⟩ := C
  have hcl : Cond.classLink (cnm m.1) idx (cnm ci) ∈ Gd := by
    rcases rC_mem hr with ⟨q, _⟩ | ⟨q, _⟩ | ⟨_, q⟩
    · omega
    · omega
    · exact q
  have hk1 : (sh L (w.1 + 1)).1 = ci := by rw [hsh]
  refine va_new (fs := (List.range (fcount ci)).map (fun k => eV ρ (ztyp (fty ci k) 0))) hx hb hts (uws_all ci hc) (ftp ci) (ftp_ok hc) hown (hts _ hcl) (hts _ (ins_all ci hc).1) (hts _ (ins_all ci hc).2) hS0.1 I.1 I.2.1 I.2.2.1 hA (cls_at ci hc) ?_ hR.1 hR.2 hd (fun q H1 hP hD hS => ?_)
  · intro j hj
    unfold vp_V
    rw [List.getD_eq_getElem?_getD, List.getElem?_map, List.getElem?_range hj]
    show defaultValue (ftp ci j) = eV ρ (ztyp (fty ci j) 0)
    rcases ftp_ty hc hj with ⟨a, b⟩ | ⟨a, b⟩ | ⟨a, b⟩ | ⟨a, b⟩
    · rw [a, b]; rfl
    · rw [a, b]; rfl
    · rw [a, b]; rfl
    · rw [a]; rcases b with ⟨n, b⟩ | ⟨t, b⟩ <;> rw [b] <;> rfl
  · exact K q H1 (I.new (by omega) (eC_newO hk1 hc) hP hD hS)
theorem sim_newarray {pc k : Nat} {st : List TV} {w : Wd} {lm : Array Slot} {ty : ArrayType} {n : Int} (C : Cx L D aT xs m p s mi args meth c A ρ) (hd : decode m.2.2.2.1 pc = .ok (.newarray ty, 2)) (hk : zatyp ty = k) (hk3 : k < 30) (h0 : 0 ≤ n) (hn : n ≤ 100000) (hsh : sh L (w.1 + 1) = (k, n.toNat))
    (I : Iv L D aT xs s A ρ w H locs) (hR : cells + 1 ≤ R.cells ∧ slots + n.toNat ≤ R.slots)
    (K : ∀ q H', Iv L D aT xs s A (rhoN ρ (w.1 + 1) q) (znew w 1 (fun _ _ => 0)) H' locs → W p l e R s mi args below meth c H' locs (cells + 1) (slots + n.toNat) Q (F0 mi (pc + 2) lm (.ref q :: st.map (eV ρ)))) :
    W p l e R s mi args below meth c H locs cells slots Q (F0 mi pc lm ((tI n :: st).map (eV ρ))) := by
  obtain ⟨hx, hb, hml, hown, hts, hin, hA, hS0⟩ := C
  have hci : (Int32.ofInt n).toNatClampNeg = n.toNat := i_clamp (by omega)
  have hneg : ¬ Int32.ofInt n < 0 := by
    show ¬ Int32.ofInt n < Int32.ofInt 0
    rw [o32_lt (by omega) (by decide)]
    omega
  have hk1 : (sh L (w.1 + 1)).1 = k := by rw [hsh]
  have hk2 : (sh L (w.1 + 1)).2 = n.toNat := by rw [hsh]
  have hnew : ∀ (q : Nat) (cA : ClassId) (H1 : Heap) (E : (Nat → Int32) ⊕ (Nat → Int64) ⊕ (Nat → UInt32) ⊕ (Nat → UInt64) ⊕ (Nat → Option Nat)), k ≤ 26 → 20 ≤ k → cA = aT k → (∀ ρ', eA ρ' k (fun _ => 0) = E) → va_P D cls_ (eW L aT ρ w ++ [(q, .inl (cA, n.toNat, E))]) H1 → va_D A (eW L aT ρ w ++ [(q, .inl (cA, n.toNat, E))]) → va_S A s.heap H1 locs → W p l e R s mi args below meth c H1 locs (cells + 1) (slots + n.toNat) Q (F0 mi (pc + 2) lm (.ref q :: st.map (eV ρ))) := by
    intro q cA H1 E b1 b2 hcA hE hP hD hS
    subst hcA
    refine K q H1 (I.new (by omega) ?_ hP hD hS)
    rw [eC_arr (by omega), hk1, hk2, hE]
  have h7 : ∀ (cA : ClassId) (t : FieldType), va_K D cls_ (tysL aT ++ [(cA, t)]) s → va_RA s cA t := fun cA t hK => (hK.2 7 (cA, t) rfl).2
  cases ty <;> first | (exfalso; rw [← hk] at hk3; exact absurd hk3 (by decide)) | skip
  · -- boolean
    have hk' : k = 23 := hk.symm
    refine va_newa (atype := .boolean) (ty := .boolean) (a0 := (n.toNat, .inl (fun _ => Int32.ofInt 0))) hx hb (hts _ acl_boolean) rfl hS0.1 I.1 I.2.1 I.2.2.1 hA (fun cA => rfl) hneg hci (by show n.toNat * 1 ≤ 536870912; omega) hR.1 hR.2 hd (fun q cA H1 hK hP hD hS => hnew q cA H1 _ (by omega) (by omega) ?_ (fun ρ' => ?_) hP hD hS)
    · have e1 : s.vm.findClass ("[" ++ FieldType.boolean.toString) = some cA := h7 cA _ hK
      have e2 : s.vm.findClass ("[" ++ FieldType.boolean.toString) = some (aT 23) := (hS0.1.2 3 _ rfl).2
      rw [hk']; exact Option.some.inj (e1.symm.trans e2)
    · rw [hk']; rfl
  · have hk' : k = 22 := hk.symm
    refine va_newa (atype := .byte) (ty := .byte) (a0 := (n.toNat, .inl (fun _ => Int32.ofInt 0))) hx hb (hts _ acl_byte) rfl hS0.1 I.1 I.2.1 I.2.2.1 hA (fun cA => rfl) hneg hci (by show n.toNat * 1 ≤ 536870912; omega) hR.1 hR.2 hd (fun q cA H1 hK hP hD hS => hnew q cA H1 _ (by omega) (by omega) ?_ (fun ρ' => ?_) hP hD hS)
    · have e1 : s.vm.findClass ("[" ++ FieldType.byte.toString) = some cA := h7 cA _ hK
      have e2 : s.vm.findClass ("[" ++ FieldType.byte.toString) = some (aT 22) := (hS0.1.2 2 _ rfl).2
      rw [hk']; exact Option.some.inj (e1.symm.trans e2)
    · rw [hk']; rfl
  · have hk' : k = 20 := hk.symm
    refine va_newa (atype := .int) (ty := .int) (a0 := (n.toNat, .inl (fun _ => Int32.ofInt 0))) hx hb (hts _ acl_int) rfl hS0.1 I.1 I.2.1 I.2.2.1 hA (fun cA => rfl) hneg hci (by show n.toNat * 4 ≤ 536870912; omega) hR.1 hR.2 hd (fun q cA H1 hK hP hD hS => hnew q cA H1 _ (by omega) (by omega) ?_ (fun ρ' => ?_) hP hD hS)
    · have e1 : s.vm.findClass ("[" ++ FieldType.int.toString) = some cA := h7 cA _ hK
      have e2 : s.vm.findClass ("[" ++ FieldType.int.toString) = some (aT 20) := (hS0.1.2 0 _ rfl).2
      rw [hk']; exact Option.some.inj (e1.symm.trans e2)
    · rw [hk']; rfl
  · have hk' : k = 21 := hk.symm
    refine va_newa (atype := .long) (ty := .long) (a0 := (n.toNat, .inr (.inl (fun _ => Int64.ofInt 0)))) hx hb (hts _ acl_long) rfl hS0.1 I.1 I.2.1 I.2.2.1 hA (fun cA => rfl) hneg hci (by show n.toNat * 8 ≤ 536870912; omega) hR.1 hR.2 hd (fun q cA H1 hK hP hD hS => hnew q cA H1 _ (by omega) (by omega) ?_ (fun ρ' => ?_) hP hD hS)
    · have e1 : s.vm.findClass ("[" ++ FieldType.long.toString) = some cA := h7 cA _ hK
      have e2 : s.vm.findClass ("[" ++ FieldType.long.toString) = some (aT 21) := (hS0.1.2 1 _ rfl).2
      rw [hk']; exact Option.some.inj (e1.symm.trans e2)
    · rw [hk']; rfl
theorem sim_anew {pc idx : Nat} {st : List TV} {w : Wd} {lm : Array Slot} {n : Int} (C : Cx L D aT xs m p s mi args meth c A ρ) (hd : decode m.2.2.2.1 pc = .ok (.anewarray idx, 3)) (hr : rC m.1 idx = some 1) (h0 : 0 ≤ n) (hn : n ≤ 100000) (hsh : sh L (w.1 + 1) = (24, n.toNat))
    (I : Iv L D aT xs s A ρ w H locs) (hR : cells + 1 ≤ R.cells ∧ slots + n.toNat ≤ R.slots)
    (K : ∀ q H', Iv L D aT xs s A (rhoN ρ (w.1 + 1) q) (znew w 1 (fun _ _ => 0)) H' locs → W p l e R s mi args below meth c H' locs (cells + 1) (slots + n.toNat) Q (F0 mi (pc + 3) lm (.ref q :: st.map (eV ρ)))) :
    W p l e R s mi args below meth c H locs cells slots Q (F0 mi pc lm ((tI n :: st).map (eV ρ))) := by
  obtain ⟨hx, hb, hml, hown, hts, hin, hA, hS0⟩ := C
  have hci : (Int32.ofInt n).toNatClampNeg = n.toNat := i_clamp (by omega)
  have hneg : ¬ Int32.ofInt n < 0 := by
    show ¬ Int32.ofInt n < Int32.ofInt 0
    rw [o32_lt (by omega) (by decide)]
    omega
  have hk1 : (sh L (w.1 + 1)).1 = 24 := by rw [hsh]
  have hk2 : (sh L (w.1 + 1)).2 = n.toNat := by rw [hsh]
  have hcl : Cond.classLink (cnm m.1) idx (cnm 1) ∈ Gd := by
    rcases rC_mem hr with ⟨q, _⟩ | ⟨q, _⟩ | ⟨_, q⟩
    · omega
    · omega
    · exact q
  refine va_newq hx hb hown (hts _ hcl) hS0.2.2.1.1 hS0.1 I.1 I.2.1 I.2.2.1 hA hneg hci (by omega) hR.1 hR.2 hd (fun q cA H1 hK hP hD hS => ?_)
  have ecA : cA = aT 24 := by
    obtain ⟨_, _, _, _, _, e1⟩ := (hK.2 7 (cA, .object (cnm 1)) rfl).2
    obtain ⟨_, _, _, _, _, e2⟩ := (hS0.1.2 4 (aT 24, .object (cnm 1)) rfl).2
    exact Option.some.inj (e1.symm.trans e2)
  subst ecA
  refine K q H1 (I.new (by omega) ?_ hP hD hS)
  rw [eC_arr (by omega), hk1, hk2]
  rfl
end SIM
