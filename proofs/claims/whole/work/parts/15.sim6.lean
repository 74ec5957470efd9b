/-! calls: what a run of the small machine says is a contract -/
theorem zc_nc {pc pc' : Nat} {ls ls' : Lo} {st st' : List TV} {w w' : Wd} (h : zc pc ls st w = some (.inl (pc', ls', st', w'))) : w' = w := by cases h; rfl
theorem zgo_nc {pc pc' : Nat} {off : Int} {ls ls' : Lo} {st st' : List TV} {w w' : Wd} (h : zgo pc off ls st w = some (.inl (pc', ls', st', w'))) : w' = w := by
  obtain ⟨t, _, q⟩ := zgo_inv h; cases q; rfl
def retOK (m : Mth) (pc : Nat) : Option TV → Prop
  | some (.inl x) => decode m.2.2.2.1 pc = .ok (.ireturn, 1) ∧ (m.2.2.2.2.2 = some .int ∨ (m.2.2.2.2.2 = some .boolean ∧ (x = 0 ∨ x = 1)))
  | some (.inr (.inl _)) => decode m.2.2.2.1 pc = .ok (.lreturn, 1) ∧ m.2.2.2.2.2 = some .long
  | some (.inr (.inr a)) => decode m.2.2.2.1 pc = .ok (.areturn, 1) ∧ a ≠ 0 ∧ m.2.2.2.2.2 = some (.object "ThereAndBack$Text")
  | none => decode m.2.2.2.1 pc = .ok (.return_, 1) ∧ m.2.2.2.2.2 = none
def rmOK (L : Nat) (R : Room) (d cells slots : Nat) (w w' : Wd) : Prop := d + 8 ≤ R.frames ∧ 64 * d + 600 ≤ R.locals ∧ cells + (w'.1 - w.1) ≤ R.cells ∧ slots + (ssum L w'.1 - ssum L w.1) ≤ R.slots
/-- a run of at most n steps of the small machine is a walk of the machine -/
def SimN (l : Launch) (L : Nat) (D : va_G) (aT : Nat → ClassId) (xs : Nat → Int32) (n : Nat) : Prop := ∀ (d : Nat) (m : Mth) (pc : Nat) (ls : Lo) (st : List TV) (w : Wd) (r : Option TV) (w' : Wd), mrun L n d m pc ls st w = some (r, w') →
  ∀ (p : Program) (e : Env) (R : Room) (s : State) (mi : MethodId) (args : Array Value) (below : List Frame) (meth : Method) (c : Code) (A : Nat → Prop) (ρ : Nat → Nat) (H : Heap) (locs : List Loc) (cells slots : Nat) (lm : Array Slot) (Q : State → Prop),
    Cx L D aT xs m p s mi args meth c A ρ → Iv L D aT xs s A ρ w H locs → Lv ρ lm ls m.2.2.2.2.1 w.1 → (∀ v ∈ st, okV w.1 v) → rmOK L R d cells slots w w' →
    (∀ (pc' : Nat) (lm' : Array Slot) (ρ' : Nat → Nat) (H' : Heap) (locs' : List Loc), agr ρ ρ' w.1 → Iv L D aT xs s A ρ' w' H' locs' → retOK m pc' r → (∀ v ∈ r.toList, okV w'.1 v) →
      W p l e R s mi args below meth c H' locs' (cells + (w'.1 - w.1)) (slots + (ssum L w'.1 - ssum L w.1)) Q (F0 mi pc' lm' (r.toList.map (eV ρ')))) →
    W p l e R s mi args below meth c H locs cells slots Q (F0 mi pc lm (st.map (eV ρ)))
section SIM
variable {l : Launch} {L : Nat} {D : va_G} {aT : Nat → ClassId} {xs : Nat → Int32} {m : Mth} {p : Program} {e : Env} {R : Room} {s : State} {mi : MethodId} {args : Array Value} {below : List Frame} {meth : Method} {c : Code} {A : Nat → Prop} {ρ : Nat → Nat} {H : Heap} {locs : List Loc} {cells slots : Nat} {Q : State → Prop}
theorem sStat.move {A' : Nat → Prop} {U : State} (h : sStat L D aT xs ρ A s s.heap) (hS : va_S A s.heap H locs) (hA' : ∀ q, A' q → A q) (hU : U.heap = H) (hW : s.WarmedH U.vm) : sStat L D aT xs ρ A' U U.heap := by
  obtain ⟨h1, h2, h3, h4, h5, h6, h7, h8, h9⟩ := h
  have hq : ∀ a : Nat, a < s.heap.size → ¬ A a → U.heap[a]? = s.heap[a]? := fun a q1 q2 => by rw [hU]; exact hS.2.1 a q1 q2
  refine ⟨va_K.moved hW.alike h1, fun a i y hh q => va_Nw.warmM hW (h2 a i y hh q), va_CK.moved hW.alike h3, ?_, fun i q hq => (h5 i q hq).warm hW, ?_, ?_, fun q => h8 (hA' _ q), ((va_Z.moved hW.alike h9.1).kept hq).narrow hA', ((va_Zq.moved hW.alike h9.2).kept hq).narrow hA'⟩
  · intro i hi
    obtain ⟨v, g1, g2, g3, g4⟩ := h4 i hi
    exact ⟨v, ((va_O.moved hW.alike g1).kept hq).narrow hA', ((va_OF.moved hW.alike g2).kept hq).narrow hA', ((va_OF.moved hW.alike g3).kept hq).narrow hA', ((va_T.moved hW.alike g4).kept hq).narrow hA'⟩
  · exact (va_X.moved hW.alike h6).kept (hq _ h7 h8)
  · rw [hU]; exact Nat.lt_of_lt_of_le h7 hS.1
theorem sStat.call {U : State} {g : JFrame} {mk : MethodId} {a : Array Value} (h : sStat L D aT xs ρ A U U.heap) : sStat L D aT xs ρ A (U.calling g mk a) (U.calling g mk a).heap := by
  obtain ⟨h1, h2, h3, h4, h5, h6, h7, h8, h9⟩ := h
  have hal : U.vm.Alike (U.calling g mk a).vm := Vm.Alike.refl U.vm
  refine ⟨va_K.moved hal h1, fun a i y hh q => va_Nw.same rfl rfl (h2 a i y hh q), va_CK.moved hal h3, ?_, fun i q hq => vk_R.same rfl (h5 i q hq), va_X.moved hal h6, h7, h8, va_Z.moved hal h9.1, va_Zq.moved hal h9.2⟩
  intro i hi
  obtain ⟨v, g1, g2, g3, g4⟩ := h4 i hi
  exact ⟨v, va_O.moved hal g1, va_OF.moved hal g2, va_OF.moved hal g3, va_T.moved hal g4⟩
theorem sStat.agr {ρ' : Nat → Nat} {nc : Nat} {U : State} (hag : agr ρ ρ' nc) (h : sStat L D aT xs ρ A U H) : sStat L D aT xs ρ' A U H := by
  obtain ⟨h1, h2, h3, h4, h5, h6, h7, h8, h9⟩ := h
  have e9 : ρ' 900 = ρ 900 := hag 900 (by omega)
  have ei : ∀ i, ρ' (901 + i) = ρ (901 + i) := fun i => hag _ (by omega)
  refine ⟨h1, h2, h3, ?_, fun i q hq => by rw [ei]; exact h5 i q hq, by rw [e9]; exact h6, by rw [e9]; exact h7, by rw [e9]; exact h8, h9⟩
  intro i hi
  rw [ei]
  exact h4 i hi
/-- a contract's start and end -/
def PreB (L : Nat) (D : va_G) (aT : Nat → ClassId) (xs : Nat → Int32) (ρ : Nat → Nat) (w : Wd) (sz : Nat) (U : State) : Prop := U.heap.size = sz ∧ va_P D cls_ (eW L aT ρ w) U.heap ∧ va_D (fun _ => True) (eW L aT ρ w) ∧ sStat L D aT xs ρ (va_A (eW L aT ρ w) sz) U U.heap
def okW (L : Nat) (xs : Nat → Int32) (w : Wd) : Prop := okM L w ∧ (∀ j, j < L → w.2 900 j = (xs j).toInt) ∧ w.1 < 900
def QB (L : Nat) (D : va_G) (aT : Nat → ClassId) (xs : Nat → Int32) (ρ : Nat → Nat) (w w' : Wd) (r : Option TV) (A : Nat → Prop) : Array Value → State → Outcome → State → Prop := fun _ st o t => ∃ ρ', agr ρ ρ' w.1 ∧ o = .returned (r.map (eV ρ')) ∧ va_P D cls_ (eW L aT ρ' w') t.heap ∧ va_D A (eW L aT ρ' w') ∧ (okW L xs w' ∧ ∀ v ∈ r.toList, okV w'.1 v) ∧ va_F A st t
set_option maxHeartbeats 1000000 in
theorem met_of {n d : Nat} {m' : Mth} {as : List TV} {w w' : Wd} {r : Option TV} (hS : SimN l L D aT xs n) (hrun : mrun L n d m' 0 (lentry m'.2.2.2.2.1 as) [] w = some (r, w')) (hok : okMm m') (hle : (lent as).length ≤ m'.2.2.2.2.1) (has : ∀ v ∈ as, okV w.1 v) (hw : okW L xs w) (ρ : Nat → Nat) (sz : Nat) :
    Met l m'.2.2.1 (Cond.code m'.2.2.1 m'.2.2.2.1 m'.2.2.2.2.1 m'.2.2.2.2.2 :: Gd) { frames := d + 8, cells := w'.1 - w.1, slots := ssum L w'.1 - ssum L w.1, locals := 64 * d + 600 } (va_Pc (as.map (eV ρ)) (PreB L D aT xs ρ w sz)) (QB L D aT xs ρ w w' r (va_A (eW L aT ρ w) sz)) (w'.1 - w.1) (ssum L w'.1 - ssum L w.1) (va_A (eW L aT ρ w) sz) := by
  refine Met.ofW (cc := m'.2.2.2.1) (maxL := m'.2.2.2.2.1) (ret := m'.2.2.2.2.2) hok.2.2.2.2 rfl ?_
  intro p e s mi args below meth c s₁ B hml hv
  obtain ⟨rfl, hsz, hP, hD0, hSt⟩ := hv
  have hx := B.exec
  have hb := B.bytes
  have hr := B.returns
  have hts := atoms_spec (ws := Cond.code m'.2.2.1 m'.2.2.2.1 m'.2.2.2.2.1 m'.2.2.2.2.2 :: Gd) B.pre
  have hown : s.vm.findClass m'.2.2.1.cls = some mi.cls := findClass_of_methodNamed B.named
  have hlocks := B.notSynchronized
  have hname : meth.name = m'.2.2.1.name := (name_of_methodNamed B.named B.method).1
  subst hsz
  have hD := hD0.self (sz := s.heap.size)
  generalize hAe : va_A (eW L aT ρ w) s.heap.size = A at hD hSt ⊢
  have hA : ∀ q : Nat, s.heap.size ≤ q → A q := fun q h => by rw [← hAe]; exact Or.inr h
  rw [lg_entry_eq]
  have hl := lentry_has ρ hle
  refine hS d m' 0 _ [] w r w' hrun p e _ s mi _ below meth c A ρ s.heap [] 0 0 _ _ ⟨hx, hb, hml, by rw [← hok.2.2.1]; exact hown, fun w hw => hts w (List.mem_cons_of_mem _ hw), fun hz => by rw [hname]; exact of_decide_eq_true hz, hA, hSt⟩ ⟨hP, hD, va_S.rf, hw.1, hw.2.1, hw.2.2⟩ ⟨hl, lentry_len hle, ?_⟩ (fun v hv => by cases hv) ⟨Nat.le_refl _, Nat.le_refl _, by rw [Nat.zero_add]; exact Nat.le_refl _, by rw [Nat.zero_add]; exact Nat.le_refl _⟩ ?_
  · intro v hv
    obtain ⟨j, hj⟩ := List.mem_iff_getElem?.mp hv
    exact has v (lent_mem (lentry_get hj))
  · intro pc' lm' ρ' H' locs' hag I' hret hrv
    rw [Nat.zero_add, Nat.zero_add]
    match r, hret, hrv with
    | some (.inl x), hret, hrv =>
      obtain ⟨hd, hty⟩ := hret
      rcases hty with hty | ⟨hty, hz⟩
      · exact W.iret (v := Int32.ofInt x) hx hb (hr.trans hty) (fun t ht hW => ⟨ρ', hag, rfl, by rw [ht]; exact I'.1, I'.2.1, ⟨I'.2.2.2, hrv⟩, I'.2.2.1.F ht⟩) I'.2.2.1.2.2 hd
      · exact W.zret (v := Int32.ofInt x) (ty := .boolean) hx hb (hr.trans hty) (fit_b hz).1 (fun t ht hW => ⟨ρ', hag, rfl, by rw [ht]; exact I'.1, I'.2.1, ⟨I'.2.2.2, hrv⟩, I'.2.2.1.F ht⟩) I'.2.2.1.2.2 hd
    | some (.inr (.inl x)), hret, hrv =>
      exact W.lret (v := Int64.ofInt x) hx hb (hr.trans hret.2) (fun t ht hW => ⟨ρ', hag, rfl, by rw [ht]; exact I'.1, I'.2.1, ⟨I'.2.2.2, hrv⟩, I'.2.2.1.F ht⟩) I'.2.2.1.2.2 hret.1
    | some (.inr (.inr a)), hret, hrv =>
      have ea : eV ρ' (tA a) = .ref (ρ' a) := if_neg hret.2.1
      have hg : (F0 mi pc' lm' (((some (tA a) : Option TV)).toList.map (eV ρ'))) = F0 mi pc' lm' [Value.ref (ρ' a)] := by
        show F0 mi pc' lm' [eV ρ' (tA a)] = _
        rw [ea]
      refine W.eq hg ?_
      exact W.aret (v := .ref (ρ' a)) hx hb (hr.trans hret.2.2) (Or.inl ⟨_, rfl⟩) (Or.inr ⟨_, rfl⟩) (fun t ht hW => ⟨ρ', hag, by show Outcome.returned (some (.ref (ρ' a))) = Outcome.returned (some (eV ρ' (tA a))); rw [ea], by rw [ht]; exact I'.1, I'.2.1, ⟨I'.2.2.2, hrv⟩, I'.2.2.1.F ht⟩) I'.2.2.1.2.2 hret.1
    | none, hret, hrv =>
      exact W.vret hx hb (hr.trans hret.2) (fun t ht hW => ⟨ρ', hag, rfl, by rw [ht]; exact I'.1, I'.2.1, ⟨I'.2.2.2, hrv⟩, I'.2.2.1.F ht⟩) I'.2.2.1.2.2 hret.1
end SIM
