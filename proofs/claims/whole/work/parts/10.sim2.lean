/-! plain steps: constants, locals, arithmetic, the stack, branches -/
theorem zsw_l {pc : Nat} {ls : Lo} {r : List TV} {w : Wd} {x d : Int} {X : StR} : ∀ ps : List (Int × Int), zlsw pc ls r w x d ps = some X → ∃ tgt : Nat, (pc : Int) + Op.lookupswitch.offset ps d x = (tgt : Int) ∧ X = .inl (tgt, ls, r, w)
  | [], h => by
    unfold zlsw at h
    obtain ⟨t, h1, h2⟩ := zgo_inv h
    exact ⟨t, by rw [Op.lookupswitch.offset_nil]; exact h1, h2⟩
  | (k, o) :: ps, h => by
    unfold zlsw at h
    rw [Op.lookupswitch.offset_cons]
    split at h
    · rename_i e
      obtain ⟨t, h1, h2⟩ := zgo_inv h
      refine ⟨t, ?_, h2⟩
      rw [if_pos (by first | exact e | exact e.symm)]
      exact h1
    · rename_i e
      obtain ⟨t, h1, h2⟩ := zsw_l ps h
      refine ⟨t, ?_, h2⟩
      rw [if_neg (by first | exact e | exact fun q => e q.symm)]
      exact h1
theorem zsw_t {pc : Nat} {ls : Lo} {r : List TV} {w : Wd} {x d : Int} {X : StR} : ∀ (os : List Int) (lo : Int), ztsw pc ls r w x d lo os = some X → ((x < lo ∨ lo + os.length ≤ x) ∧ ∃ tgt : Nat, (pc : Int) + d = (tgt : Int) ∧ X = .inl (tgt, ls, r, w)) ∨ (lo ≤ x ∧ x < lo + os.length ∧ ∃ (o : Int) (tgt : Nat), os[(x - lo).toNat]? = some o ∧ (pc : Int) + o = (tgt : Int) ∧ X = .inl (tgt, ls, r, w))
  | [], lo, h => by
    unfold ztsw at h
    obtain ⟨t, h1, h2⟩ := zgo_inv h
    refine Or.inl ⟨?_, t, h1, h2⟩
    simp only [List.length_nil]
    omega
  | o :: os, lo, h => by
    unfold ztsw at h
    split at h
    · rename_i e
      obtain ⟨t, h1, h2⟩ := zgo_inv h
      refine Or.inr ⟨by omega, by simp only [List.length_cons]; omega, o, t, ?_, h1, h2⟩
      rw [e, show (lo - lo).toNat = 0 by omega]
      rfl
    · rename_i e
      simp only [List.length_cons]
      rcases zsw_t os (lo + 1) h with ⟨q, r⟩ | ⟨q1, q2, o', t, q3, q4, q5⟩
      · exact Or.inl ⟨by omega, r⟩
      · refine Or.inr ⟨by omega, by omega, o', t, ?_, q4, q5⟩
        rw [show (x - lo).toNat = (x - (lo + 1)).toNat + 1 by omega]
        exact q3
theorem i8_of (n : Int) : (Int8.ofInt n).toInt32 = Int32.ofInt (n.bmod 256) := by
  apply Int32.toInt_inj.mp
  have h1 := Int.le_bmod (x := n) (m := 256) (by decide)
  have h2 := Int.bmod_lt (x := n) (m := 256) (by decide)
  rw [o32_toInt (by omega), Int8.toInt_toInt32, Int8.toInt_ofInt]
theorem i16_of (n : Int) : (Int16.ofInt n).toInt32 = Int32.ofInt (n.bmod 65536) := by
  apply Int32.toInt_inj.mp
  have h1 := Int.le_bmod (x := n) (m := 65536) (by decide)
  have h2 := Int.bmod_lt (x := n) (m := 65536) (by decide)
  rw [o32_toInt (by omega), Int16.toInt_toInt32, Int16.toInt_ofInt]
theorem ok_b (n : Int) : -2147483648 ≤ n.bmod 256 ∧ n.bmod 256 < 2147483648 := by
  have h1 := Int.le_bmod (x := n) (m := 256) (by decide)
  have h2 := Int.bmod_lt (x := n) (m := 256) (by decide)
  omega
theorem ok_s (n : Int) : -2147483648 ≤ n.bmod 65536 ∧ n.bmod 65536 < 2147483648 := by
  have h1 := Int.le_bmod (x := n) (m := 65536) (by decide)
  have h2 := Int.bmod_lt (x := n) (m := 65536) (by decide)
  omega
theorem i_i2c {x : Int} (hx : -2147483648 ≤ x ∧ x < 2147483648) : ((Int32.ofInt x).toUInt32 % 65536).toInt32 = Int32.ofInt (x % 65536) := by
  rw [pk_char]
  apply Int32.toInt_inj.mp
  have h0 : (Int32.ofInt x).toBitVec = BitVec.ofInt 32 x := rfl
  rw [h0, BitVec.toNat_ofInt]
  rw [nI_toInt (by omega), o32_toInt (by omega)]
  omega
theorem cmp_of {x y : Int} (hx : -9223372036854775808 ≤ x ∧ x < 9223372036854775808) (hy : -9223372036854775808 ≤ y ∧ y < 9223372036854775808) : lg_cmp (Int64.ofInt x) (Int64.ofInt y) = Int32.ofInt (zlcmp x y) := by
  unfold lg_cmp zlcmp
  by_cases h1 : x < y
  · rw [if_neg (by show ¬ Int64.ofInt y < Int64.ofInt x; rw [o64_lt hy hx]; omega), if_neg (by rw [o64_inj hx hy]; omega), if_pos h1]; rfl
  · by_cases h2 : x = y
    · subst h2
      rw [if_neg (by show ¬ Int64.ofInt x < Int64.ofInt x; rw [o64_lt hx hx]; omega), if_pos rfl, if_neg h1, if_pos rfl]; rfl
    · rw [if_pos (by show Int64.ofInt y < Int64.ofInt x; rw [o64_lt hy hx]; omega), if_neg h1, if_neg h2]; rfl
theorem cmp_ok (x y : Int) : -2147483648 ≤ zlcmp x y ∧ zlcmp x y < 2147483648 := by
  unfold zlcmp
  split
  · omega
  · split <;> omega
section SIM
variable {l : Launch} {L : Nat} {D : va_G} {aT : Nat → ClassId} {xs : Nat → Int32} {m : Mth} {p : Program} {e : Env} {R : Room} {s : State} {mi : MethodId} {args : Array Value} {below : List Frame} {meth : Method} {c : Code} {A : Nat → Prop} {ρ : Nat → Nat} {H : Heap} {locs : List Loc} {cells slots : Nat} {Q : State → Prop}
/-- is it an instruction whose step leaves the world as it is -/
def plainI : Instr → Bool
  | .iconst _ | .bipush _ | .sipush _ | .lconst _ | .ldc _ | .ldc2_w _ | .iload _ | .iload_n _ | .lload _ | .lload_n _ | .aload _ | .aload_n _ | .istore _ | .istore_n _ | .lstore _ | .lstore_n _ | .astore _ | .astore_n _ | .iinc _ _ | .iadd | .isub | .imul | .iand | .ior | .ixor | .ishl | .ishr | .idiv | .irem | .ineg | .i2b | .i2s | .i2c | .i2l | .l2i | .ladd | .lsub | .lmul | .land | .lor | .lxor | .lshl | .lshr | .lushr | .ldiv | .lrem | .lneg | .lcmp | .ifCond _ _ | .if_icmp _ _ | .goto _ | .tableswitch _ _ _ _ | .lookupswitch _ _ | .dup | .dup_x1 | .dup_x2 | .dup2 => true
  | _ => false
theorem Lv.put1 {lm : Array Slot} {ls : Lo} {n nc i : Nat} {v : TV} (h : Lv ρ lm ls n nc) (hv : okV nc v) {lm' : Array Slot} (h' : lv_has lm' n ((i, eV ρ v) :: (lvl ρ ls).filter (fun q => !(q.1 == i) && !(q.1 + 1 == i && q.2.category == 2)))) : Lv ρ lm' (lput1 ls i v) n nc := by
  refine ⟨lv_mono h' lvl_put1, by rw [lput1_len]; exact h.2.1, ?_⟩
  intro u hu
  obtain ⟨j, hj⟩ := List.mem_iff_getElem?.mp hu
  rcases lput1_get hj with ⟨_, rfl⟩ | ⟨_, q, _⟩
  · exact hv
  · exact h.2.2 u (List.mem_of_getElem? q)
theorem Lv.put2 {lm : Array Slot} {ls : Lo} {n nc i : Nat} {v : TV} (h : Lv ρ lm ls n nc) (hv : okV nc v) {lm' : Array Slot} (h' : lv_has lm' n ((i, eV ρ v) :: (lvl ρ ls).filter (fun q => !(q.1 == i) && (!(q.1 == i + 1) && !(q.1 + 1 == i && q.2.category == 2))))) : Lv ρ lm' (lput2 ls i v) n nc := by
  refine ⟨lv_mono h' lvl_put2, by rw [lput2_len]; exact h.2.1, ?_⟩
  intro u hu
  obtain ⟨j, hj⟩ := List.mem_iff_getElem?.mp hu
  rcases lput2_get hj with ⟨_, rfl⟩ | ⟨_, _, q, _⟩
  · exact hv
  · exact h.2.2 u (List.mem_of_getElem? q)
theorem if_some {α : Type} {c : Prop} [Decidable c] {a : Option α} {x : α} (h : (if c then a else none) = some x) : c ∧ a = some x := by
  by_cases hc : c
  · rw [if_pos hc] at h; exact ⟨hc, h⟩
  · rw [if_neg hc] at h; cases h
theorem rK_mem {cn idx k : Nat} {v : Int} (h : rK cn idx = some (k, v)) : ∃ ps, (idx, k, v, ps) ∈ rKs.getD cn [] ∧ chkK cn (idx, k, v, ps) = true := by
  unfold rK at h
  obtain ⟨r, hr, e⟩ := Option.map_eq_some_iff.mp h
  have h1 := List.find?_some hr
  have h2 := List.mem_of_find?_eq_some hr
  cases e
  have e1 : r.1 = idx := by simpa using h1
  refine ⟨r.2.2.2, by rw [← e1]; exact h2, ?_⟩
  have h3 := List.all_eq_true.mp chkK_all cn (List.mem_range.mpr (by
    rcases Nat.lt_or_ge cn 19 with q | q
    · exact q
    · rw [List.getD_eq_getElem?_getD, List.getElem?_eq_none (by exact q)] at h2; cases h2))
  have h4 := List.all_eq_true.mp h3 _ h2
  rw [← e1]; exact h4
set_option maxHeartbeats 4000000 in
theorem sim_plain {pc pc' : Nat} {ls ls' : Lo} {st st' : List TV} {w w' : Wd} {lm : Array Slot} {i : Instr} {len : Nat} (C : Cx L D aT xs m p s mi args meth c A ρ) (hd : decode m.2.2.2.1 pc = .ok (i, len)) (hpl : plainI i = true)
    (hs : stp L m pc ls st w = some (.inl (pc', ls', st', w'))) (hl : Lv ρ lm ls m.2.2.2.2.1 w.1) (hst : ∀ v ∈ st, okV w.1 v)
    (K : w' = w → ∀ lm', Lv ρ lm' ls' m.2.2.2.2.1 w.1 → (∀ v ∈ st', okV w.1 v) → W p l e R s mi args below meth c H locs cells slots Q (F0 mi pc' lm' (st'.map (eV ρ)))) :
    W p l e R s mi args below meth c H locs cells slots Q (F0 mi pc lm (st.map (eV ρ))) := by
  obtain ⟨hx, hb, hml, hown, hts, hin, hA, hS0⟩ := C
  unfold stp at hs
  rw [hd] at hs
  dsimp only at hs
  cases i <;> first | (cases hpl; done) | skip
  case iconst n =>
    obtain ⟨rfl, h⟩ := if_some hs; cases h
    refine lv_iconst (v := Int32.ofInt n) hx hb hd rfl ?_
    rw [← w32_ofInt]
    exact K rfl _ hl (okc (w32_ok _) hst)
  case bipush n =>
    obtain ⟨rfl, h⟩ := if_some hs; cases h
    refine lv_bipush hx hb hd (i8_of n) ?_
    exact K rfl _ hl (okc (ok_b _) hst)
  case sipush n =>
    obtain ⟨rfl, h⟩ := if_some hs; cases h
    refine lv_sipush hx hb hd (i16_of n) ?_
    exact K rfl _ hl (okc (ok_s _) hst)
  case lconst n =>
    obtain ⟨rfl, h⟩ := if_some hs; cases h
    refine lv_lconst (v := Int64.ofInt ((n : Nat) : Int)) hx hb hd rfl ?_
    refine K rfl _ hl (okc ?_ hst)
    have := n.isLt
    show -9223372036854775808 ≤ ((n : Nat) : Int) ∧ ((n : Nat) : Int) < 9223372036854775808
    omega
  case ldc idx =>
    obtain ⟨rfl, h⟩ := if_some hs
    split at h
    · rename_i v hv
      cases h
      obtain ⟨ps, -, h2⟩ := rK_mem hv
      unfold chkK at h2
      simp only [if_true, Bool.and_eq_true, decide_eq_true_eq] at h2
      refine lv_ldc hx hb hown (hts _ (hasW_mem h2.1)) hd ?_
      exact K rfl _ hl (okc h2.2 hst)
    · rename_i v hv
      cases h
      obtain ⟨ps, h1, h2⟩ := rK_mem hv
      unfold chkK at h2
      rw [if_neg (show ¬ (2 : Nat) = 0 by decide), if_neg (show ¬ (2 : Nat) = 1 by decide), decide_eq_true_eq] at h2
      obtain ⟨-, h3, h4, h5⟩ := h2
      dsimp only at h3 h4 h5
      obtain ⟨q, hq, e5⟩ := Option.map_eq_some_iff.mp h5
      have e6 : q.1 = cnm m.1 ∧ q.2.1 = idx := ⟨congrArg Prod.fst e5, congrArg Prod.snd e5⟩
      have hR := hS0.2.2.2.2.1 _ q hq
      rw [show 901 + (v - 901).toNat = v.toNat by omega, e6.1, e6.2] at hR
      have ev : eV ρ (tA v.toNat) = .ref (ρ v.toNat) := if_neg (by omega)
      refine va_ldcS hx hb hown hR hd ?_
      rw [← ev]
      refine K rfl _ hl (okc ?_ hst)
      show v.toNat ≤ w.1 ∨ 900 ≤ v.toNat
      omega
    · cases h
  case ldc2_w idx =>
    obtain ⟨rfl, h⟩ := if_some hs
    split at h
    · rename_i v hv
      cases h
      obtain ⟨ps, -, h2⟩ := rK_mem hv
      unfold chkK at h2
      simp only [show ¬ (1 = 0) by decide, if_false, if_true, Bool.and_eq_true, decide_eq_true_eq] at h2
      refine lv_ldc2 hx hb hown (hts _ (hasW_mem h2.1)) hd ?_
      exact K rfl _ hl (okc h2.2 hst)
    · cases h
  case iload n =>
    obtain ⟨rfl, h⟩ := if_some hs
    obtain ⟨v, h1, h2, h3⟩ := zld_inv h
    cases h2
    rcases h3 with ⟨-, x, rfl⟩ | ⟨q, -⟩ | ⟨q, -⟩ <;> first | (cases q; done) | skip
    refine lv_iload hx hb hd (hl.at h1).1 ?_
    exact K rfl _ hl (okc (hl.at h1).2 hst)
  case iload_n n =>
    obtain ⟨rfl, h⟩ := if_some hs
    obtain ⟨v, h1, h2, h3⟩ := zld_inv h
    cases h2
    rcases h3 with ⟨-, x, rfl⟩ | ⟨q, -⟩ | ⟨q, -⟩ <;> first | (cases q; done) | skip
    refine lv_iload_n hx hb hd rfl (hl.at h1).1 ?_
    exact K rfl _ hl (okc (hl.at h1).2 hst)
  case lload n =>
    obtain ⟨rfl, h⟩ := if_some hs
    obtain ⟨v, h1, h2, h3⟩ := zld_inv h
    cases h2
    rcases h3 with ⟨q, -⟩ | ⟨-, x, rfl⟩ | ⟨q, -⟩ <;> first | (cases q; done) | skip
    refine lv_lload hx hb hd (hl.at h1).1 ?_
    exact K rfl _ hl (okc (hl.at h1).2 hst)
  case lload_n n =>
    obtain ⟨rfl, h⟩ := if_some hs
    obtain ⟨v, h1, h2, h3⟩ := zld_inv h
    cases h2
    rcases h3 with ⟨q, -⟩ | ⟨-, x, rfl⟩ | ⟨q, -⟩ <;> first | (cases q; done) | skip
    refine lv_lload_n hx hb hd rfl (hl.at h1).1 ?_
    exact K rfl _ hl (okc (hl.at h1).2 hst)
  case aload n =>
    obtain ⟨rfl, h⟩ := if_some hs
    obtain ⟨v, h1, h2, h3⟩ := zld_inv h
    cases h2
    rcases h3 with ⟨q, -⟩ | ⟨q, -⟩ | ⟨-, a, rfl, ha⟩ <;> first | (cases q; done) | skip
    have e1 : eV ρ (tA a) = .ref (ρ a) := if_neg ha
    refine lv_aload hx hb hd (e1 ▸ (hl.at h1).1) ?_
    rw [← e1]
    exact K rfl _ hl (okc (hl.at h1).2 hst)
  case aload_n n =>
    obtain ⟨rfl, h⟩ := if_some hs
    obtain ⟨v, h1, h2, h3⟩ := zld_inv h
    cases h2
    rcases h3 with ⟨q, -⟩ | ⟨q, -⟩ | ⟨-, a, rfl, ha⟩ <;> first | (cases q; done) | skip
    have e1 : eV ρ (tA a) = .ref (ρ a) := if_neg ha
    refine lv_aload_n hx hb hd rfl (e1 ▸ (hl.at h1).1) ?_
    rw [← e1]
    exact K rfl _ hl (okc (hl.at h1).2 hst)
  case iadd => obtain ⟨rfl, h⟩ := if_some hs; obtain ⟨x, y, r, rfl, q⟩ := zii_inv h; cases q; refine lv_iadd hx hb hd ?_; rw [← i_add]; exact K rfl _ hl (okc (w32_ok _) (okt (okt hst)))
  case isub => obtain ⟨rfl, h⟩ := if_some hs; obtain ⟨x, y, r, rfl, q⟩ := zii_inv h; cases q; refine lv_isub hx hb hd ?_; rw [← i_sub]; exact K rfl _ hl (okc (w32_ok _) (okt (okt hst)))
  case imul => obtain ⟨rfl, h⟩ := if_some hs; obtain ⟨x, y, r, rfl, q⟩ := zii_inv h; cases q; refine lv_imul hx hb hd ?_; rw [← i_mul]; exact K rfl _ hl (okc (w32_ok _) (okt (okt hst)))
  case iand => obtain ⟨rfl, h⟩ := if_some hs; obtain ⟨x, y, r, rfl, q⟩ := zii_inv h; cases q; refine lv_iand hx hb hd ?_; rw [← o32_of (fun x y => x &&& y)]; exact K rfl _ hl (okc (i32_toInt _) (okt (okt hst)))
  case ior => obtain ⟨rfl, h⟩ := if_some hs; obtain ⟨x, y, r, rfl, q⟩ := zii_inv h; cases q; refine lv_ior hx hb hd ?_; rw [← o32_of (fun x y => x ||| y)]; exact K rfl _ hl (okc (i32_toInt _) (okt (okt hst)))
  case ixor => obtain ⟨rfl, h⟩ := if_some hs; obtain ⟨x, y, r, rfl, q⟩ := zii_inv h; cases q; refine lv_ixor hx hb hd ?_; rw [← o32_of (fun x y => x ^^^ y)]; exact K rfl _ hl (okc (i32_toInt _) (okt (okt hst)))
  case ishl => obtain ⟨rfl, h⟩ := if_some hs; obtain ⟨x, y, r, rfl, q⟩ := zii_inv h; cases q; refine lv_ishl hx hb hd ?_; rw [← o32_of (fun x y => x <<< (y &&& 31))]; exact K rfl _ hl (okc (i32_toInt _) (okt (okt hst)))
  case ishr => obtain ⟨rfl, h⟩ := if_some hs; obtain ⟨x, y, r, rfl, q⟩ := zii_inv h; cases q; refine lv_ishr hx hb hd ?_; rw [← o32_of (fun x y => x >>> (y &&& 31))]; exact K rfl _ hl (okc (i32_toInt _) (okt (okt hst)))
  case idiv =>
    obtain ⟨rfl, h⟩ := if_some hs; obtain ⟨x, y, r, rfl, hy, q⟩ := ziid_inv h; cases q
    have oy : okV w.1 (tI y) := okh hst
    have ox : okV w.1 (tI x) := okh (okt hst)
    refine lv_idiv hx hb hd (fun q => hy ((o32_inj oy (by decide)).mp (q.trans rfl))) ?_
    rw [← i_div ox oy]; exact K rfl _ hl (okc (w32_ok _) (okt (okt hst)))
  case irem =>
    obtain ⟨rfl, h⟩ := if_some hs; obtain ⟨x, y, r, rfl, hy, q⟩ := ziid_inv h; cases q
    have oy : okV w.1 (tI y) := okh hst
    have ox : okV w.1 (tI x) := okh (okt hst)
    refine lv_irem hx hb hd (fun q => hy ((o32_inj oy (by decide)).mp (q.trans rfl))) ?_
    rw [← i_rem ox oy]; refine K rfl _ hl (okc ?_ (okt (okt hst)))
    have h1 : (x.tmod y).natAbs ≤ x.natAbs := by rw [Int.natAbs_tmod]; exact Nat.mod_le _ _
    have h2 : -2147483648 ≤ x ∧ x < 2147483648 := ox
    show -2147483648 ≤ x.tmod y ∧ x.tmod y < 2147483648
    rcases Int.le_total 0 x with h0 | h0
    · have := Int.tmod_nonneg y h0; omega
    · have : x.tmod y ≤ 0 := by have h5 := Int.tmod_nonneg y (show 0 ≤ -x by omega); rw [Int.neg_tmod] at h5; omega
      omega
  case ineg => obtain ⟨rfl, h⟩ := if_some hs; obtain ⟨x, r, rfl, q⟩ := zi_inv h; cases q; refine lv_ineg hx hb hd ?_; rw [← i_neg]; exact K rfl _ hl (okc (w32_ok _) (okt hst))
  case i2b => obtain ⟨rfl, h⟩ := if_some hs; obtain ⟨x, r, rfl, q⟩ := zi_inv h; cases q; exact lv_i2b hx hb hd (i_i2b (okh hst)) (K rfl _ hl (okc (ok_b _) (okt hst)))
  case i2s => obtain ⟨rfl, h⟩ := if_some hs; obtain ⟨x, r, rfl, q⟩ := zi_inv h; cases q; exact lv_i2s hx hb hd (i_i2s (okh hst)) (K rfl _ hl (okc (ok_s _) (okt hst)))
  case i2c => obtain ⟨rfl, h⟩ := if_some hs; obtain ⟨x, r, rfl, q⟩ := zi_inv h; cases q; exact lv_i2c hx hb hd (i_i2c (okh hst)) (K rfl _ hl (okc (by show -2147483648 ≤ x % 65536 ∧ x % 65536 < 2147483648; omega) (okt hst)))
  case i2l =>
    obtain ⟨rfl, h⟩ := if_some hs
    split at h
    · rename_i x r
      cases h
      have ox : -2147483648 ≤ x ∧ x < 2147483648 := okh hst
      refine lv_i2l hx hb hd (i_i2l ox) (K rfl _ hl (okc ?_ (okt hst)))
      show -9223372036854775808 ≤ x ∧ x < 9223372036854775808
      omega
    · cases h
  case l2i =>
    obtain ⟨rfl, h⟩ := if_some hs
    split at h
    · cases h; exact lv_l2i hx hb hd (i_l2i (okh hst)) (K rfl _ hl (okc (w32_ok _) (okt hst)))
    · cases h
  case ladd => obtain ⟨rfl, h⟩ := if_some hs; obtain ⟨x, y, r, rfl, q⟩ := zll_inv h; cases q; refine lv_ladd hx hb hd ?_; rw [← l_add]; exact K rfl _ hl (okc (w64_ok _) (okt (okt hst)))
  case lsub => obtain ⟨rfl, h⟩ := if_some hs; obtain ⟨x, y, r, rfl, q⟩ := zll_inv h; cases q; refine lv_lsub hx hb hd ?_; rw [← l_sub]; exact K rfl _ hl (okc (w64_ok _) (okt (okt hst)))
  case lmul => obtain ⟨rfl, h⟩ := if_some hs; obtain ⟨x, y, r, rfl, q⟩ := zll_inv h; cases q; refine lv_lmul hx hb hd ?_; rw [← l_mul]; exact K rfl _ hl (okc (w64_ok _) (okt (okt hst)))
  case land => obtain ⟨rfl, h⟩ := if_some hs; obtain ⟨x, y, r, rfl, q⟩ := zll_inv h; cases q; refine lv_land hx hb hd ?_; rw [← o64_of (fun x y => x &&& y)]; exact K rfl _ hl (okc (i64_toInt _) (okt (okt hst)))
  case lor => obtain ⟨rfl, h⟩ := if_some hs; obtain ⟨x, y, r, rfl, q⟩ := zll_inv h; cases q; refine lv_lor hx hb hd ?_; rw [← o64_of (fun x y => x ||| y)]; exact K rfl _ hl (okc (i64_toInt _) (okt (okt hst)))
  case lxor => obtain ⟨rfl, h⟩ := if_some hs; obtain ⟨x, y, r, rfl, q⟩ := zll_inv h; cases q; refine lv_lxor hx hb hd ?_; rw [← o64_of (fun x y => x ^^^ y)]; exact K rfl _ hl (okc (i64_toInt _) (okt (okt hst)))
  case lshl => obtain ⟨rfl, h⟩ := if_some hs; obtain ⟨x, y, r, rfl, q⟩ := zli_inv h; cases q; exact lv_lshl hx hb hd (h64_of (fun x y => x <<< (y.toInt64 &&& 63)) x y).symm (K rfl _ hl (okc (i64_toInt _) (okt (okt hst))))
  case lshr => obtain ⟨rfl, h⟩ := if_some hs; obtain ⟨x, y, r, rfl, q⟩ := zli_inv h; cases q; exact lv_lshr hx hb hd (h64_of (fun x y => x >>> (y.toInt64 &&& 63)) x y).symm (K rfl _ hl (okc (i64_toInt _) (okt (okt hst))))
  case lushr => obtain ⟨rfl, h⟩ := if_some hs; obtain ⟨x, y, r, rfl, q⟩ := zli_inv h; cases q; exact lv_lushr hx hb hd (h64_of (fun x y => (x.toUInt64 >>> (y.toInt64.toUInt64 &&& Int64.toUInt64 63)).toInt64) x y).symm (K rfl _ hl (okc (i64_toInt _) (okt (okt hst))))
  case ldiv =>
    obtain ⟨rfl, h⟩ := if_some hs; obtain ⟨x, y, r, rfl, hy, q⟩ := zlld_inv h; cases q
    have oy : okV w.1 (tL y) := okh hst
    have ox : okV w.1 (tL x) := okh (okt hst)
    refine lv_ldiv hx hb hd (fun q => hy ((o64_inj oy (by decide)).mp (q.trans rfl))) ?_
    rw [← l_div ox oy]; exact K rfl _ hl (okc (w64_ok _) (okt (okt hst)))
  case lrem =>
    obtain ⟨rfl, h⟩ := if_some hs; obtain ⟨x, y, r, rfl, hy, q⟩ := zlld_inv h; cases q
    have oy : okV w.1 (tL y) := okh hst
    have ox : okV w.1 (tL x) := okh (okt hst)
    refine lv_lrem hx hb hd (fun q => hy ((o64_inj oy (by decide)).mp (q.trans rfl))) ?_
    rw [← l_rem ox oy]; refine K rfl _ hl (okc ?_ (okt (okt hst)))
    have h1 : (x.tmod y).natAbs ≤ x.natAbs := by rw [Int.natAbs_tmod]; exact Nat.mod_le _ _
    have h2 : -9223372036854775808 ≤ x ∧ x < 9223372036854775808 := ox
    show -9223372036854775808 ≤ x.tmod y ∧ x.tmod y < 9223372036854775808
    rcases Int.le_total 0 x with h0 | h0
    · have := Int.tmod_nonneg y h0; omega
    · have : x.tmod y ≤ 0 := by have h5 := Int.tmod_nonneg y (show 0 ≤ -x by omega); rw [Int.neg_tmod] at h5; omega
      omega
  case lneg =>
    obtain ⟨rfl, h⟩ := if_some hs
    split at h
    · cases h; refine lv_lneg hx hb hd ?_; rw [← l_neg]; exact K rfl _ hl (okc (w64_ok _) (okt hst))
    · cases h
  case lcmp =>
    obtain ⟨rfl, h⟩ := if_some hs
    split at h
    · cases h; refine W.lcmp hx hb hd ?_; rw [cmp_of (okh (okt hst)) (okh hst)]; exact K rfl _ hl (okc (cmp_ok _ _) (okt (okt hst)))
    · cases h
  case istore n =>
    obtain ⟨rfl, h⟩ := if_some hs
    unfold zst at h
    split at h
    · obtain ⟨⟨-, h1⟩, h⟩ := if_some h; cases h
      exact lv_istore hx hb hd hl.1 (by rw [← hl.2.1]; exact h1) rfl (fun lm' h' => K rfl _ (hl.put1 (okh hst) h') (okt hst))
    · obtain ⟨⟨q, -⟩, -⟩ := if_some h; cases q
    · obtain ⟨⟨q, -⟩, -⟩ := if_some h; cases q
    · cases h
  case istore_n n =>
    obtain ⟨rfl, h⟩ := if_some hs
    unfold zst at h
    split at h
    · obtain ⟨⟨-, h1⟩, h⟩ := if_some h; cases h
      exact lv_istore_n hx hb hd rfl hl.1 (by rw [← hl.2.1]; exact h1) rfl (fun lm' h' => K rfl _ (hl.put1 (okh hst) h') (okt hst))
    · obtain ⟨⟨q, -⟩, -⟩ := if_some h; cases q
    · obtain ⟨⟨q, -⟩, -⟩ := if_some h; cases q
    · cases h
  case lstore n =>
    obtain ⟨rfl, h⟩ := if_some hs
    unfold zst at h
    split at h
    · obtain ⟨⟨q, -⟩, -⟩ := if_some h; cases q
    · obtain ⟨⟨-, h1⟩, h⟩ := if_some h; cases h
      exact lv_lstore hx hb hd hl.1 (by rw [← hl.2.1]; exact h1) rfl (fun lm' h' => K rfl _ (hl.put2 (okh hst) h') (okt hst))
    · obtain ⟨⟨q, -⟩, -⟩ := if_some h; cases q
    · cases h
  case lstore_n n =>
    obtain ⟨rfl, h⟩ := if_some hs
    unfold zst at h
    split at h
    · obtain ⟨⟨q, -⟩, -⟩ := if_some h; cases q
    · obtain ⟨⟨-, h1⟩, h⟩ := if_some h; cases h
      exact lv_lstore_n hx hb hd rfl hl.1 (by rw [← hl.2.1]; exact h1) rfl (fun lm' h' => K rfl _ (hl.put2 (okh hst) h') (okt hst))
    · obtain ⟨⟨q, -⟩, -⟩ := if_some h; cases q
    · cases h
  case astore n =>
    obtain ⟨rfl, h⟩ := if_some hs
    unfold zst at h
    split at h
    · obtain ⟨⟨q, -⟩, -⟩ := if_some h; cases q
    · obtain ⟨⟨q, -⟩, -⟩ := if_some h; cases q
    · rename_i a r
      obtain ⟨⟨-, h1, h2⟩, h⟩ := if_some h; cases h
      have e1 : eV ρ (tA a) = .ref (ρ a) := if_neg h2
      rw [List.map_cons, e1]
      exact lv_astore hx hb hd hl.1 (by rw [← hl.2.1]; exact h1) rfl (fun lm' h' => K rfl _ (hl.put1 (okh hst) (e1.symm ▸ h')) (okt hst))
    · cases h
  case astore_n n =>
    obtain ⟨rfl, h⟩ := if_some hs
    unfold zst at h
    split at h
    · obtain ⟨⟨q, -⟩, -⟩ := if_some h; cases q
    · obtain ⟨⟨q, -⟩, -⟩ := if_some h; cases q
    · rename_i a r
      obtain ⟨⟨-, h1, h2⟩, h⟩ := if_some h; cases h
      have e1 : eV ρ (tA a) = .ref (ρ a) := if_neg h2
      rw [List.map_cons, e1]
      exact lv_astore_n hx hb hd rfl hl.1 (by rw [← hl.2.1]; exact h1) rfl (fun lm' h' => K rfl _ (hl.put1 (okh hst) (e1.symm ▸ h')) (okt hst))
    · cases h
  case iinc n k =>
    obtain ⟨⟨rfl, h1⟩, h⟩ := if_some hs
    split at h
    · rename_i x hx0
      cases h
      obtain ⟨j, hj⟩ := List.mem_iff_getElem?.mp (lvl_mem.mpr ⟨tI x, hx0, rfl⟩ : (n, eV ρ (tI x)) ∈ lvl ρ ls)
      refine lv_iinc (v := Int32.ofInt (w32 (x + k))) hx hb hd hl.1 hj (by rw [w32_ofInt, Int32.ofInt_add]) (by rw [← hl.2.1]; exact h1) rfl (fun lm' h' => K rfl _ (hl.put1 (v := tI (w32 (x + k))) (w32_ok _) h') hst)
    · cases h
  case goto off =>
    obtain ⟨rfl, h⟩ := if_some hs
    obtain ⟨t, h1, h2⟩ := zgo_inv h
    cases h2
    exact lv_goto hx hb hd h1 (K rfl _ hl hst)
  case ifCond cd off =>
    obtain ⟨rfl, h⟩ := if_some hs
    unfold zif at h
    split at h
    · rename_i x r
      obtain ⟨hnn, h⟩ := if_some h
      have ox : -2147483648 ≤ x ∧ x < 2147483648 := okh hst
      have o0 : -2147483648 ≤ (0 : Int) ∧ (0 : Int) < 2147483648 := by decide
      have ht : (pc : Int) + off = ((((pc : Int) + off).toNat : Nat) : Int) := by omega
      have kt : zcnd cd x 0 = true → W p l e R s mi args below meth c H locs cells slots Q (F0 mi ((pc : Int) + off).toNat lm (r.map (eV ρ))) := by
        intro q
        rw [if_pos q] at h
        cases h
        exact K rfl _ hl (okt hst)
      have kf : ¬ zcnd cd x 0 = true → W p l e R s mi args below meth c H locs cells slots Q (F0 mi (pc + 3) lm (r.map (eV ρ))) := by
        intro q
        rw [if_neg q] at h
        cases h
        exact K rfl _ hl (okt hst)
      clear h K
      have z0 : (0 : Int32) = Int32.ofInt 0 := rfl
      cases cd
      · exact lv_if_eq hx hb hd ht (fun q => kt (decide_eq_true ((o32_inj ox o0).mp (q.trans z0)))) (fun q => kf (fun z => q (((o32_inj ox o0).mpr (of_decide_eq_true z)).trans z0.symm)))
      · exact lv_if_ne hx hb hd ht (fun q => kt (decide_eq_true (fun z => q (((o32_inj ox o0).mpr z).trans z0.symm)))) (fun q => kf (fun z => (of_decide_eq_true z) ((o32_inj ox o0).mp (q.trans z0))))
      · exact lv_if_lt hx hb hd ht (fun q => kt (decide_eq_true ((o32_lt ox o0).mp (z0 ▸ q)))) (fun q => kf (fun z => q (z0 ▸ (o32_lt ox o0).mpr (of_decide_eq_true z))))
      · exact lv_if_ge hx hb hd ht (fun q => kt (decide_eq_true ((o32_le o0 ox).mp (z0 ▸ q)))) (fun q => kf (fun z => q (z0 ▸ (o32_le o0 ox).mpr (of_decide_eq_true z))))
      · exact lv_if_gt hx hb hd ht (fun q => kt (decide_eq_true ((o32_lt o0 ox).mp (z0 ▸ q)))) (fun q => kf (fun z => q (z0 ▸ (o32_lt o0 ox).mpr (of_decide_eq_true z))))
      · exact lv_if_le hx hb hd ht (fun q => kt (decide_eq_true ((o32_le ox o0).mp (z0 ▸ q)))) (fun q => kf (fun z => q (z0 ▸ (o32_le ox o0).mpr (of_decide_eq_true z))))
    · cases h
  case if_icmp cd off =>
    obtain ⟨rfl, h⟩ := if_some hs
    unfold zicmp at h
    split at h
    · rename_i y x r
      obtain ⟨hnn, h⟩ := if_some h
      have oy : -2147483648 ≤ y ∧ y < 2147483648 := okh hst
      have ox : -2147483648 ≤ x ∧ x < 2147483648 := okh (okt hst)
      have ht : (pc : Int) + off = ((((pc : Int) + off).toNat : Nat) : Int) := by omega
      have kt : zcnd cd x y = true → W p l e R s mi args below meth c H locs cells slots Q (F0 mi ((pc : Int) + off).toNat lm (r.map (eV ρ))) := by
        intro q
        rw [if_pos q] at h
        cases h
        exact K rfl _ hl (okt (okt hst))
      have kf : ¬ zcnd cd x y = true → W p l e R s mi args below meth c H locs cells slots Q (F0 mi (pc + 3) lm (r.map (eV ρ))) := by
        intro q
        rw [if_neg q] at h
        cases h
        exact K rfl _ hl (okt (okt hst))
      clear h K
      cases cd
      · exact lv_icmp_eq hx hb hd ht (fun q => kt (decide_eq_true ((o32_inj ox oy).mp q))) (fun q => kf (fun z => q ((o32_inj ox oy).mpr (of_decide_eq_true z))))
      · exact lv_icmp_ne hx hb hd ht (fun q => kt (decide_eq_true (fun z => q ((o32_inj ox oy).mpr z)))) (fun q => kf (fun z => (of_decide_eq_true z) ((o32_inj ox oy).mp q)))
      · exact lv_icmp_lt hx hb hd ht (fun q => kt (decide_eq_true ((o32_lt ox oy).mp q))) (fun q => kf (fun z => q ((o32_lt ox oy).mpr (of_decide_eq_true z))))
      · exact lv_icmp_ge hx hb hd ht (fun q => kt (decide_eq_true ((o32_le oy ox).mp q))) (fun q => kf (fun z => q ((o32_le oy ox).mpr (of_decide_eq_true z))))
      · exact lv_icmp_gt hx hb hd ht (fun q => kt (decide_eq_true ((o32_lt oy ox).mp q))) (fun q => kf (fun z => q ((o32_lt oy ox).mpr (of_decide_eq_true z))))
      · exact lv_icmp_le hx hb hd ht (fun q => kt (decide_eq_true ((o32_le ox oy).mp q))) (fun q => kf (fun z => q ((o32_le ox oy).mpr (of_decide_eq_true z))))
    · cases h
  case lookupswitch df ps =>
    obtain ⟨hp, h⟩ := if_some hs
    split at h
    · rename_i x r
      obtain ⟨t, h1, h2⟩ := zsw_l _ h
      cases h2
      have ox : -2147483648 ≤ x ∧ x < 2147483648 := okh hst
      exact lv_lookup hx hb hd hp rfl (by rw [o32_toInt ox]; exact h1) (K rfl _ hl (okt hst))
    · cases h
  case tableswitch df lo hi offs =>
    obtain ⟨hp, h⟩ := if_some hs
    split at h
    · rename_i x r
      have ox : -2147483648 ≤ x ∧ x < 2147483648 := okh hst
      have hlen : (offs.toList.length : Int) = hi + 1 - lo := by rw [hp]; simp
      rcases zsw_t _ _ h with ⟨q, t, h1, h2⟩ | ⟨q1, q2, o, t, q3, h1, h2⟩
      · cases h2
        exact lv_tableOut hx hb hd (by rw [o32_toInt ox]; omega) h1 (K rfl _ hl (okt hst))
      · cases h2
        exact lv_tableIn hx hb hd (by rw [o32_toInt ox]; omega) (by rw [o32_toInt ox]; omega) (by rw [o32_toInt ox, ← Array.getElem?_toList]; exact q3) h1 (K rfl _ hl (okt hst))
    · cases h
  case dup =>
    obtain ⟨rfl, h⟩ := if_some hs
    unfold zdupR at h
    match st, h, hst with
    | [], h, _ => cases h
    | a :: r, h, hst =>
      simp only [zdup] at h
      by_cases h1 : tcat a = 1
      · rw [if_pos h1] at h
        cases h
        exact lv_dup hx hb hd (by rw [eV_cat]; exact h1) (K rfl _ hl (okc (okh hst) hst))
      · rw [if_neg h1] at h; cases h
  case dup_x1 =>
    obtain ⟨rfl, h⟩ := if_some hs
    unfold zdupR at h
    match st, h, hst with
    | [], h, _ => cases h
    | [_], h, _ => cases h
    | a :: b :: r, h, hst =>
      simp only [zdup] at h
      by_cases h1 : tcat a = 1 ∧ tcat b = 1
      · rw [if_pos h1] at h
        cases h
        exact lv_dup_x1 hx hb hd (by rw [eV_cat]; exact h1.1) (by rw [eV_cat]; exact h1.2) (K rfl _ hl (okc (okh hst) (okc (okh (okt hst)) (okc (okh hst) (okt (okt hst))))))
      · rw [if_neg h1] at h; cases h
  case dup_x2 =>
    obtain ⟨rfl, h⟩ := if_some hs
    unfold zdupR at h
    match st, h, hst with
    | [], h, _ => cases h
    | [_], h, _ => cases h
    | [_, _], h, _ => cases h
    | a :: b :: b2 :: r, h, hst =>
      simp only [zdup] at h
      by_cases h1 : tcat a = 1 ∧ tcat b = 1 ∧ tcat b2 = 1
      · rw [if_pos h1] at h
        cases h
        exact lv_dup_x2 hx hb hd (by rw [eV_cat]; exact h1.1) (by rw [eV_cat]; exact h1.2.1) (by rw [eV_cat]; exact h1.2.2) (K rfl _ hl (okc (okh hst) (okc (okh (okt hst)) (okc (okh (okt (okt hst))) (okc (okh hst) (okt (okt (okt hst))))))))
      · rw [if_neg h1] at h; cases h
  case dup2 =>
    obtain ⟨rfl, h⟩ := if_some hs
    unfold zdupR at h
    match st, h, hst with
    | [], h, _ => cases h
    | [_], h, _ => cases h
    | a :: b :: r, h, hst =>
      simp only [zdup] at h
      by_cases h1 : tcat a = 1 ∧ tcat b = 1
      · rw [if_pos h1] at h
        cases h
        exact lv_dup2_11 hx hb hd (by rw [eV_cat]; exact h1.1) (by rw [eV_cat]; exact h1.2) (K rfl _ hl (okc (okh hst) (okc (okh (okt hst)) hst)))
      · rw [if_neg h1] at h; cases h
end SIM
