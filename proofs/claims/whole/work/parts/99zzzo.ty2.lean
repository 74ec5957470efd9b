/-! new T[n][m]: the array of arrays, made by the machine in one instruction -/
theorem arrV_same {cI : ClassId} {N : Nat} {f g : Nat → Value} (h : ∀ j, j < N → f j = g j) : arrV cI N f = arrV cI N g := by
  have : (fun j : Fin N => f j.val) = fun j => g j.val := funext fun j => h j.val j.isLt
  unfold arrV
  rw [this]
/-- the outer array when i of its places are filled -/
def zO (h0 i : Nat) : Nat → Value := fun j => if j < i then .ref (h0 + 1 + j) else .null
theorem zO_0 (h0 : Nat) : zO h0 0 = fun _ => Value.null := by
  funext j
  unfold zO
  rw [if_neg (by omega)]
theorem zO_s (h0 i : Nat) : updV (zO h0 i) i (.ref (h0 + 1 + i)) = zO h0 (i + 1) := by
  funext j
  unfold updV zO
  by_cases e : j = i
  · subst e; rw [if_pos rfl, if_pos (by omega)]
  · rw [if_neg e]
    by_cases h : j < i
    · rw [if_pos h, if_pos (by omega)]
    · rw [if_neg h, if_neg (by omega)]
/-- the state behind the outer array and i of the inner ones -/
def mnS (cA cC : ClassId) (N M : Nat) (dv : Value) (U : State) : Nat → State
  | 0 => U.pushCell (arrV cA N (zO U.heap.size 0))
  | i + 1 => ((mnS cA cC N M dv U i).pushCell (arrV cC M (fun _ => dv))).setCell U.heap.size (arrV cA N (zO U.heap.size (i + 1)))
theorem mnS_all (cA cC : ClassId) (N M : Nat) (dv : Value) (U : State) : ∀ i, (mnS cA cC N M dv U i).heap.size = U.heap.size + 1 + i ∧ (mnS cA cC N M dv U i).vm = U.vm ∧ (mnS cA cC N M dv U i).slotsUsed = U.slotsUsed + N + i * M ∧ (mnS cA cC N M dv U i).heap[U.heap.size]? = some (arrV cA N (zO U.heap.size i)) ∧ (∀ q : Nat, q < U.heap.size → (mnS cA cC N M dv U i).heap[q]? = U.heap[q]?) ∧ ∀ j, j < i → (mnS cA cC N M dv U i).heap[U.heap.size + 1 + j]? = some (arrV cC M (fun _ => dv)) := by
  intro i
  induction i with
  | zero => exact ⟨by simp [mnS], rfl, by simp [mnS, arrV_size], by simp [mnS], fun q hq => State.heap_pushCell_of_lt _ _ hq, fun j hj => by omega⟩
  | succ i ih =>
    have hs : mnS cA cC N M dv U (i + 1) = ((mnS cA cC N M dv U i).pushCell (arrV cC M (fun _ => dv))).setCell U.heap.size (arrV cA N (zO U.heap.size (i + 1))) := rfl
    obtain ⟨h1, h2, h3, h4, h5, h6⟩ := ih
    rw [hs]
    generalize mnS cA cC N M dv U i = V at h1 h2 h3 h4 h5 h6
    have hlt : U.heap.size < V.heap.size := by omega
    have hb : (V.pushCell (arrV cC M (fun _ => dv))).heap[U.heap.size]? = some (arrV cA N (zO U.heap.size i)) := by rw [State.heap_pushCell_of_lt _ _ hlt]; exact h4
    refine ⟨?_, ?_, ?_, State.heap_setCell_self hb, fun q hq => ?_, fun j hj => ?_⟩
    · simp [State.setCell, h1]; omega
    · simp [h2]
    · simp [h3, arrV_size, Nat.succ_mul]; omega
    · have hq2 : q < V.heap.size := by omega
      rw [State.heap_setCell_other (Nat.ne_of_gt hq), State.heap_pushCell_of_lt _ _ hq2]
      exact h5 q hq
    · rw [State.heap_setCell_other (show U.heap.size ≠ U.heap.size + 1 + j by omega)]
      by_cases e : j = i
      · subst e
        rw [← h1]
        exact State.heap_pushCell_size _ _
      · have hq2 : U.heap.size + 1 + j < V.heap.size := by omega
        rw [State.heap_pushCell_of_lt _ _ hq2]
        exact h6 j (by omega)
theorem mnS_top (cA cC : ClassId) (N M : Nat) (dv : Value) (U : State) (f : JFrame) : ∀ i, mnS cA cC N M dv (U.setTop f) i = (mnS cA cC N M dv U i).setTop f := by
  intro i
  induction i with
  | zero => rfl
  | succ i ih => simp only [mnS, ih, State.heap_setTop, State.pushCell_setTop, State.setCell_setTop]
section MN
variable {E : CtlPost} {e : Jvm.Env} {d : Bool} {acts : List Action} {U : State}
/-- may an array of this length be made at all (by what one place of its kind takes) -/
def mnFit (e : Jvm.Env) (len : Nat) (ty : FieldType) : Prop := ¬ len > e.platform.arrayLengthLimit ∧ ¬ len * componentBytes ty > e.platform.maxHeapBytes
/-- what is known of an array's class -/
def mnArr (vm : Vm) (cA comp : ClassId) (ty : FieldType) : Prop := ∃ k : Class, vm.classes[cA]? = some k ∧ k.kind = .array comp ty
theorem mn_cell {cA comp : ClassId} {ty : FieldType} {len : Nat} {v0 : Value} (hA : mnArr U.vm cA comp ty) (hf : mnFit e len ty) (hv : fits ty v0 = true) (hc : U.heap.size < e.platform.maxCells) (hs : U.slotsUsed + len ≤ e.platform.maxSlots) {Q : Addr → Pre} (hq : ∀ acts', Q U.heap.size d acts' (U.pushCell (arrV cA len (fun _ => v0)))) : wp (Jvm.newArray cA len v0) Q E e d acts U := by
  obtain ⟨k, h1, h2⟩ := hA
  refine W.newArray_of h1 h2 hf.1 hf.2 hc hs hv (fun acts' => ?_)
  have := hq acts'
  rw [← arrV_new] at this
  exact this
theorem mn_one {cC cE : ClassId} {ty : FieldType} {m : Int32} (hC : mnArr U.vm cC cE ty) (hf : mnFit e m.toNatClampNeg ty) (hm : ¬ m < 0) (hc : U.heap.size < e.platform.maxCells) (hs : U.slotsUsed + m.toNatClampNeg ≤ e.platform.maxSlots) {Q : Addr → Pre} (hq : ∀ acts', Q U.heap.size d acts' (U.pushCell (arrV cC m.toNatClampNeg (fun _ => defaultValue ty)))) : wp (Op.multianewarray.make cC [m]) Q E e d acts U := by
  have key := mn_cell (d := d) (acts := acts) (E := E) hC hf (fits_default ty) hc hs hq
  obtain ⟨k, h1, h2⟩ := hC
  unfold Op.multianewarray.make
  rw [if_neg hm, wp_bind', W.theClass]
  refine ⟨k, h1, ?_⟩
  rw [h2]
  exact key
/-- a loop over the places i, i + 1 .. of the outer array -/
theorem mn_loop {S : Nat → State} {N : Nat} {f : Nat → PUnit → Sem (ForInStep PUnit)} (hf : ∀ i, i < N → ∀ (d : Bool) (acts : List Action) (Q : ForInStep PUnit → Pre), (∀ d' acts', Q (ForInStep.yield PUnit.unit) d' acts' (S (i + 1))) → wp (f i PUnit.unit) Q E e d acts (S i))
    {Q : PUnit → Pre} (hq : ∀ d' acts', Q PUnit.unit d' acts' (S N)) : ∀ r i, i + r = N → ∀ (d : Bool) (acts : List Action), wp (forIn (List.range' i r 1) PUnit.unit f) Q E e d acts (S i) := by
  intro r
  induction r with
  | zero =>
    intro i hi d acts
    have : i = N := by omega
    subst this
    simp only [List.range'_zero, List.forIn_nil, wp_pure']
    exact hq _ _
  | succ r ih =>
    intro i hi d acts
    rw [List.range'_succ]
    simp only [List.forIn_cons, wp_bind']
    refine hf i (by omega) d acts _ (fun d' acts' => ?_)
    exact ih (i + 1) (by omega) d' acts'
theorem mn_two {cA cC cE : ClassId} {ty : FieldType} {n m : Int32} {N M : Nat} (hN : n.toNatClampNeg = N) (hM : m.toNatClampNeg = M) (hA : mnArr U.vm cA cC (.array ty)) (hC : mnArr U.vm cC cE ty) (hn : ¬ n < 0) (hm : ¬ m < 0) (hf1 : mnFit e N (.array ty)) (hf2 : mnFit e M ty)
    (hc : U.heap.size + 1 + N ≤ e.platform.maxCells) (hs : U.slotsUsed + N + N * M ≤ e.platform.maxSlots) {Q : Addr → Pre} (hq : ∀ d' acts', Q U.heap.size d' acts' (mnS cA cC N M (defaultValue ty) U N)) : wp (Op.multianewarray.make cA [n, m]) Q E e d acts U := by
  subst hN hM
  have body : ∀ i, i < n.toNatClampNeg → ∀ (d : Bool) (acts : List Action) (Q : ForInStep PUnit → Pre), (∀ d' acts', Q (ForInStep.yield PUnit.unit) d' acts' (mnS cA cC n.toNatClampNeg m.toNatClampNeg (defaultValue ty) U (i + 1))) → wp (do Jvm.writeLoc U.heap.size i (.ref (← Op.multianewarray.make cC [m])); Pure.pure (ForInStep.yield PUnit.unit)) Q E e d acts (mnS cA cC n.toNatClampNeg m.toNatClampNeg (defaultValue ty) U i) := by
    intro i hi d acts Q' hn'
    obtain ⟨k, k1, k2⟩ := hA
    obtain ⟨h1, h2, h3, h4, _, _⟩ := mnS_all cA cC n.toNatClampNeg m.toNatClampNeg (defaultValue ty) U i
    have hmul : (i + 1) * m.toNatClampNeg ≤ n.toNatClampNeg * m.toNatClampNeg := Nat.mul_le_mul_right _ hi
    rw [Nat.succ_mul] at hmul
    have hlt : U.heap.size < (mnS cA cC n.toNatClampNeg m.toNatClampNeg (defaultValue ty) U i).heap.size := by omega
    rw [wp_bind']
    refine mn_one (cE := cE) (ty := ty) (by rw [h2]; exact hC) hf2 hm (by omega) (by omega) (fun acts' => ?_)
    rw [wp_bind', W.writeLoc]
    refine ⟨arrV cA n.toNatClampNeg (zO U.heap.size i), by rw [State.heap_pushCell_of_lt _ _ hlt]; exact h4, (fun z => by cases z), by rw [arrV_size]; exact hi, ?_, ?_⟩
    · show State.fitsSlot _ cA .none i (.ref _) = true
      have hr : ∀ a : Addr, fits (.array ty) (.ref a) = true := fun _ => rfl
      simp [State.fitsSlot, State.slotType?, h2, k1, k2, hr]
    · rw [wp_pure', h1, arrV_store, zO_s]
      exact hn' _ _
  have first := fun (Q' : Addr → Pre) => mn_cell (E := E) (d := d) (acts := acts) (len := n.toNatClampNeg) (v0 := .null) (Q := Q') hA hf1 rfl (by omega) (by omega)
  obtain ⟨k, k1, k2⟩ := hA
  unfold Op.multianewarray.make
  rw [if_neg hn, wp_bind', W.theClass]
  refine ⟨k, k1, ?_⟩
  rw [k2]
  dsimp only
  rw [wp_bind']
  refine first _ (fun acts' => ?_)
  have hno : ([m].find? (· < 0)) = none := by simp [hm]
  simp only [hno]
  rw [ite_self, wp_bind', Std.Legacy.Range.forIn_eq_forIn_range', show ([:n.toNatClampNeg] : Std.Legacy.Range).size = n.toNatClampNeg by simp [Std.Legacy.Range.size]]
  have e0 : U.pushCell (arrV cA n.toNatClampNeg (fun _ => Value.null)) = mnS cA cC n.toNatClampNeg m.toNatClampNeg (defaultValue ty) U 0 := by
    show _ = U.pushCell (arrV cA n.toNatClampNeg (zO U.heap.size 0))
    rw [zO_0]
  rw [e0]
  refine mn_loop (S := mnS cA cC n.toNatClampNeg m.toNatClampNeg (defaultValue ty) U) body (fun d' acts' => ?_) n.toNatClampNeg 0 (by omega) _ _
  rw [wp_pure']
  exact hq d' acts'
end MN
section MNS
variable {p : Program} {l : Launch} {e : Jvm.Env} {R : Room} {s : State} {mi : MethodId} {args : Array Value} {below : List Frame} {meth : Method} {c : Code} {T : State} {locs : List Loc} {cells slots : Nat} {H : Heap} {Q : State → Prop}
theorem mnS_stand (X : Stand p l e R s mi args below meth c T locs cells slots) (cA cC : ClassId) (N M : Nat) (dv : Value) : ∀ i, ∃ J : List Loc, (∀ x ∈ J, x.base = T.heap.size) ∧ Stand p l e R s mi args below meth c (mnS cA cC N M dv T i) (locs ++ J) (cells + 1 + i) (slots + N + i * M) := by
  intro i
  induction i with
  | zero =>
    refine ⟨[], (fun x h => by cases h), ?_⟩
    have h := X.pushed (arrV cA N (zO T.heap.size 0))
    rw [arrV_size] at h
    rw [List.append_nil, Nat.zero_mul]
    exact h
  | succ i ih =>
    obtain ⟨J, hJ, Xi⟩ := ih
    obtain ⟨h1, _, _, h4, _⟩ := mnS_all cA cC N M dv T i
    have hlt : T.heap.size < (mnS cA cC N M dv T i).heap.size := by omega
    have hb : ((mnS cA cC N M dv T i).pushCell (arrV cC M (fun _ => dv))).heap[T.heap.size]? = some (arrV cA N (zO T.heap.size i)) := by rw [State.heap_pushCell_of_lt _ _ hlt]; exact h4
    have h := (Xi.pushed (arrV cC M (fun _ => dv))).stored hb i (.ref (T.heap.size + 1 + i))
    rw [arrV_size, arrV_store, zO_s, List.append_assoc] at h
    refine ⟨J ++ [⟨T.heap.size, i⟩], ?_, ?_⟩
    · intro x hx
      rcases List.mem_append.mp hx with q | q
      · exact hJ x q
      · rw [List.mem_singleton.mp q]
    · rw [show slots + N + (i + 1) * M = slots + N + i * M + M by rw [Nat.succ_mul]; omega]
      exact h
/-- the class that an entry names, at the entry's first use or later -/
theorem mn_link (X : Stand p l e R s mi args below meth c T locs cells slots) {own nm : String} {index : Nat} {cA : ClassId} (hown : s.vm.findClass own = some mi.cls) (hclink : (Cond.classLink own index nm).before args s = true) (hnm : s.vm.findClass nm = some cA) : ∃ vm₁ : Vm, s.WarmedH vm₁ ∧ (Jvm.resolveClass mi.cls index).Gives e.toSetting T.vm (.ok cA) vm₁ := by
  obtain ⟨c0, q1, q2⟩ := Cond.classLink_spec hown hclink e.platform (by rw [X.admits.platform])
  have : c0 = cA := Option.some.inj (q1.symm.trans hnm)
  subst this
  have h := State.classEntry (e := e) X.warmed q2
  exact ⟨_, h.2.1, h.1⟩
theorem mnArr.warm {cA comp : ClassId} {ty : FieldType} {vm₁ : Vm} (h : mnArr s.vm cA comp ty) (hW : s.WarmedH vm₁) : mnArr vm₁ cA comp ty := by
  obtain ⟨k, h1, h2⟩ := h
  obtain ⟨k', h3, h4⟩ := hW.alike.2.2 _ _ h1
  exact ⟨k', h3, by rw [h4]; exact h2⟩
theorem mn_fit {len : Nat} {ty : FieldType} (X : Stand p l e R s mi args below meth c T locs cells slots) (h : len ≤ 1000) (hb : componentBytes ty ≤ 8) : mnFit e len ty := by
  have := Nat.mul_le_mul h hb
  unfold mnFit
  rw [Launch.admits_arrayLengthLimit X.admits, Launch.admits_maxHeapBytes X.admits]
  omega
theorem mn_steps (X : Stand p l e R s mi args below meth c T locs cells slots) (hexec : p.tables.exec = Jvm.exec) {index : Nat} {ty : FieldType} {cA cC cE : ClassId} {vm₁ : Vm} (hW : s.WarmedH vm₁) (hres : (Jvm.resolveClass mi.cls index).Gives e.toSetting T.vm (.ok cA) vm₁) (hA : mnArr s.vm cA cC (.array ty)) (hC : mnArr s.vm cC cE ty)
    {pc : Nat} {ls : Array Slot} {rest : List Value} (hdg : decode c.code pc = .ok (.multianewarray index 2, 4)) {n k : Int32} {N M : Nat} (hN : n.toNatClampNeg = N) (hM : k.toNatClampNeg = M) (hn : ¬ n < 0) (hk : ¬ k < 0) (hn1 : N ≤ 1000) (hk1 : M ≤ 1000) (hby : componentBytes ty ≤ 8)
    (hcells : cells + (1 + N) ≤ R.cells) (hslots : slots + (N + N * M) ≤ R.slots) (target : State) (hrest : Steps p.tables e below ((mnS cA cC N M (defaultValue ty) (T.setVm vm₁) N).setTop (F0 mi (pc + 4) ls (.ref T.heap.size :: rest))) target) : Steps p.tables e below (T.setTop (F0 mi pc ls (.int k :: .int n :: rest))) target := by
  have room := X.roomAbove hcells hslots
  obtain ⟨J, _, XF⟩ := mnS_stand (X.noted hW) cA cC N M (defaultValue ty) N
  have make := fun (d : Bool) (acts : List Action) (E : CtlPost) (Q : Addr → Pre) => mn_two (U := (T.setVm vm₁).setTop (F0 mi pc ls rest)) (E := E) (d := d) (acts := acts) (Q := Q) hN hM (hA.warm hW) (hC.warm hW) hn hk (mn_fit X hn1 (by show 4 ≤ 8; omega)) (mn_fit X hk1 hby) (by show T.heap.size + 1 + N ≤ _; omega) (by show T.slotsUsed + N + N * M ≤ _; omega)
  jvm_step X.here [hexec, hdg]
  unfold Op.multianewarray.sem
  rw [wp_bind', W.resolveClassAt_links (State.method?_setTop _ X.here.top) hres, wp_bind', W.popN, if_neg (by decide)]
  refine ⟨F0 mi pc ls (.int k :: .int n :: rest), State.topJava?_setTop' (s := T.setVm vm₁) _ X.here.top, [.int n, .int k], rest, rfl, rfl, ?_⟩
  simp only [List.mapM_cons, List.mapM_nil, wp_bind', wp_pure']
  rw [show (T.setTop (F0 mi pc ls (.int k :: .int n :: rest))).setVm vm₁ = (T.setVm vm₁).setTop (F0 mi pc ls (.int k :: .int n :: rest)) from rfl, State.setTop_setTop]
  refine make _ _ _ _ (fun d' acts' => ?_)
  rw [mnS_top]
  have top := State.topJava?_setTop' (F0 mi pc ls rest) XF.here.top
  simp only [wp_bind', W.mark, W.pushRef]
  refine ⟨_, top, ?_⟩
  rw [State.setTop_setTop]
  intro acts
  simp [jvm, XF.here.top]
  exact hrest
theorem w_mna {cc : ByteArray} {pc : Nat} {ls : Array Slot} {rest : List Value} (hexec : p.tables.exec = Jvm.exec) (hb : c.code = cc) {own nm : String} {index : Nat} {ty : FieldType} {cA cC cE : ClassId} (hown : s.vm.findClass own = some mi.cls) (hclink : (Cond.classLink own index nm).before args s = true) (hnm : s.vm.findClass nm = some cA)
    (hA : mnArr s.vm cA cC (.array ty)) (hC : mnArr s.vm cC cE ty) (hdg : decode cc pc = .ok (.multianewarray index 2, 4)) {n k : Int32} {N M : Nat} (hN : n.toNatClampNeg = N) (hM : k.toNatClampNeg = M) (hn : ¬ n < 0) (hk : ¬ k < 0) (hn1 : N ≤ 1000) (hk1 : M ≤ 1000) (hby : componentBytes ty ≤ 8) (hfresh : s.heap.size ≤ H.size)
    (hcells : cells + (1 + N) ≤ R.cells) (hslots : slots + (N + N * M) ≤ R.slots)
    (kk : ∀ H' : Heap, H'.size = H.size + 1 + N → (∀ q : Nat, q < H.size → H'[q]? = H[q]?) → H'[H.size]? = some (arrV cA N (zO H.size N)) → (∀ j, j < N → H'[H.size + 1 + j]? = some (arrV cC M (fun _ => defaultValue ty))) → W p l e R s mi args below meth c H' locs (cells + 1 + N) (slots + N + N * M) Q (F0 mi (pc + 4) ls (.ref H.size :: rest))) :
    W p l e R s mi args below meth c H locs cells slots Q (F0 mi pc ls (.int k :: .int n :: rest)) := by
  intro T hT X
  subst hT
  obtain ⟨vm₁, hW, hres⟩ := mn_link X hown hclink hnm
  obtain ⟨J, hJ, XF⟩ := mnS_stand (X.noted hW) cA cC N M (defaultValue ty) N
  obtain ⟨h1, _, _, h4, h5, h6⟩ := mnS_all cA cC N M (defaultValue ty) (T.setVm vm₁) N
  obtain ⟨t, a1, b1⟩ := kk _ h1 h5 h4 h6 _ rfl (Stand.forget XF (fun x hx => by rw [hJ x hx]; exact hfresh))
  exact ⟨t, mn_steps X hexec hW hres hA hC (by rw [hb]; exact hdg) hN hM hn hk hn1 hk1 hby hcells hslots t a1, b1⟩
end MNS
/-- the map of the cells behind it -/
def rhoM (ρ : Nat → Nat) (nc N sz : Nat) : Nat → Nat := fun a => if nc < a ∧ a ≤ nc + N + 1 then sz + (a - (nc + 1)) else ρ a
theorem rhoM_agr {ρ : Nat → Nat} {nc N sz : Nat} (h : nc + N + 1 < 900) : agr ρ (rhoM ρ nc N sz) nc := fun a ha => by
  unfold rhoM
  rw [if_neg (by omega)]
section MNI
variable {l : Launch} {L : Nat} {D : va_G} {aT : Nat → ClassId} {xs : Nat → Int32} {s : State} {A : Nat → Prop} {ρ : Nat → Nat} {H : Heap} {locs : List Loc}
theorem mna_iv {kd N M : Nat} {dv : Value} {w : Wd} {H' : Heap} (I : Iv L D aT xs s A ρ w H locs) (hkd : (kd = 25 ∧ dv = .int 0) ∨ (kd = 26 ∧ dv = .long 0)) (hs1 : sh L (w.1 + 1) = (kd, N)) (hs2 : ∀ i, i < N → sh L (w.1 + 2 + i) = (kd - 5, M)) (h9 : w.1 + N + 1 < 900) (hA : ∀ q, s.heap.size ≤ q → A q)
    (hsz : H'.size = H.size + 1 + N) (hold : ∀ q : Nat, q < H.size → H'[q]? = H[q]?) (ho : H'[H.size]? = some (arrV (aT kd) N (zO H.size N))) (hin : ∀ j, j < N → H'[H.size + 1 + j]? = some (arrV (aT (kd - 5)) M (fun _ => dv))) :
    Iv L D aT xs s A (rhoM ρ w.1 N H.size) (znew w (N + 1) (fun i j => if i = 1 ∧ j < N then ((w.1 + 2 + j : Nat) : Int) else 0)) H' locs := by
  have hag : agr ρ (rhoM ρ w.1 N H.size) w.1 := rhoM_agr h9
  have hk5 : kd = 25 ∨ kd = 26 := by rcases hkd with ⟨q, _⟩ | ⟨q, _⟩ <;> omega
  generalize hw' : znew w (N + 1) (fun i j => if i = 1 ∧ j < N then ((w.1 + 2 + j : Nat) : Int) else 0) = w'
  have hw1 : w'.1 = w.1 + (N + 1) := by rw [← hw']; rfl
  have hnew : ∀ a k, w.1 < a → a ≤ w.1 + (N + 1) → w'.2 a k = if a - w.1 = 1 ∧ k < N then ((w.1 + 2 + k : Nat) : Int) else 0 := by
    intro a k q1 q2
    rw [← hw']
    unfold znew
    simp only []
    rw [if_pos ⟨q1, q2⟩]
  have hrho : ∀ a, w.1 < a → a ≤ w.1 + N + 1 → rhoM ρ w.1 N H.size a = H.size + (a - (w.1 + 1)) := by
    intro a q1 q2
    unfold rhoM
    rw [if_pos ⟨q1, q2⟩]
  have hcell : ∀ a, 1 ≤ a → a ≤ w.1 + N + 1 → va_at D cls_ (rhoM ρ w.1 N H.size a, eC L aT (rhoM ρ w.1 N H.size) w'.2 a) H' := by
    intro a a1 a2
    by_cases ha : a ≤ w.1
    · have e1 : eC L aT (rhoM ρ w.1 N H.size) w'.2 a = eC L aT ρ w.2 a := by
        rw [← hw']
        exact (eC_congr (znew_old ha)).trans (eC_agr hag I.2.2.2.1 a1 ha)
      rw [e1, hag a (Or.inl ha)]
      have q := I.1 (a - 1) _ (eW_cell a1 ha)
      exact q.kept (hold _ q.lt)
    · by_cases hb : a = w.1 + 1
      · subst hb
        rw [hrho _ (by omega) (by omega), eC_arr (by rw [hs1]; show ¬ kd < 12; omega), hs1]
        show H'[H.size + (w.1 + 1 - (w.1 + 1))]? = some (vp_cell (aT kd) (N, eA (rhoM ρ w.1 N H.size) kd (w'.2 (w.1 + 1))))
        rw [eA_q (by omega), vp_cell_q, Nat.sub_self, Nat.add_zero, ho]
        congr 1
        apply arrV_same
        intro j hj
        have e1 : w'.2 (w.1 + 1) j = ((w.1 + 2 + j : Nat) : Int) := by rw [hnew _ _ (by omega) (by omega), if_pos (by omega)]
        show zO H.size N j = va_rf (if (w'.2 (w.1 + 1) j).toNat = 0 then none else some (rhoM ρ w.1 N H.size (w'.2 (w.1 + 1) j).toNat))
        rw [e1, Int.toNat_natCast, if_neg (by omega), hrho _ (by omega) (by omega)]
        have e2 : zO H.size N j = Value.ref (H.size + 1 + j) := by
          unfold zO
          rw [if_pos hj]
        rw [e2]
        show Value.ref (H.size + 1 + j) = Value.ref (H.size + (w.1 + 2 + j - (w.1 + 1)))
        rw [show H.size + (w.1 + 2 + j - (w.1 + 1)) = H.size + 1 + j by omega]
      · obtain ⟨j, hj⟩ : ∃ j, a = w.1 + 2 + j := ⟨a - (w.1 + 2), by omega⟩
        subst hj
        have hjN : j < N := by omega
        rw [hrho _ (by omega) (by omega), eC_arr (by rw [hs2 j hjN]; show ¬ kd - 5 < 12; omega), hs2 j hjN]
        show H'[H.size + (w.1 + 2 + j - (w.1 + 1))]? = some (vp_cell (aT (kd - 5)) (M, eA (rhoM ρ w.1 N H.size) (kd - 5) (w'.2 (w.1 + 2 + j))))
        rw [show H.size + (w.1 + 2 + j - (w.1 + 1)) = H.size + 1 + j by omega, hin j hjN]
        have hz : w'.2 (w.1 + 2 + j) = fun _ => 0 := by
          funext k
          rw [hnew _ _ (by omega) (by omega), if_neg (by omega)]
        rw [hz]
        rcases hkd with ⟨rfl, rfl⟩ | ⟨rfl, rfl⟩
        · show some (arrV (aT 20) M (fun _ => Value.int 0)) = some (vp_cell (aT 20) (M, eA (rhoM ρ w.1 N H.size) 20 (fun _ => 0)))
          rw [eA_i (by decide) (by decide), vp_cell_i, show Int32.ofInt 0 = 0 by decide]
        · show some (arrV (aT 21) M (fun _ => Value.long 0)) = some (vp_cell (aT 21) (M, eA (rhoM ρ w.1 N H.size) 21 (fun _ => 0)))
          rw [eA_l, vp_cell_l, show Int64.ofInt 0 = 0 by decide]
  have hlt : ∀ a, 1 ≤ a → a ≤ w.1 → ρ a < H.size := fun a a1 a2 => (I.1 (a - 1) _ (eW_cell a1 a2)).lt
  have hget : ∀ (k : Nat) (q : Nat × va_E), (eW L aT (rhoM ρ w.1 N H.size) w')[k]? = some q → k + 1 ≤ w.1 + N + 1 ∧ q = (rhoM ρ w.1 N H.size (k + 1), eC L aT (rhoM ρ w.1 N H.size) w'.2 (k + 1)) := by
    intro k q hq
    have hk := (List.getElem?_eq_some_iff.mp hq).1
    rw [eW_len, hw1] at hk
    have e1 := eW_cell (L := L) (aT := aT) (ρ := rhoM ρ w.1 N H.size) (w := w') (a := k + 1) (by omega) (by rw [hw1]; omega)
    rw [show k + 1 - 1 = k by omega, hq] at e1
    exact ⟨by omega, Option.some.inj e1⟩
  have hAH := I.2.2.1.1
  refine ⟨?_, ⟨?_, ?_⟩, ⟨by omega, fun q q1 q2 => (hold q (by omega)).trans (I.2.2.1.2.1 q q1 q2), I.2.2.1.2.2⟩, ?_, ?_, by rw [hw1]; omega⟩
  · intro k q hq
    obtain ⟨h1, rfl⟩ := hget k q hq
    exact hcell (k + 1) (by omega) h1
  · intro i j x y hx hy hxy
    obtain ⟨h1, rfl⟩ := hget i x hx
    obtain ⟨h2, rfl⟩ := hget j y hy
    have hxy : rhoM ρ w.1 N H.size (i + 1) = rhoM ρ w.1 N H.size (j + 1) := hxy
    by_cases hi : i + 1 ≤ w.1
    · have q1 := hlt (i + 1) (by omega) hi
      rw [hag _ (Or.inl hi)] at hxy
      by_cases hj : j + 1 ≤ w.1
      · rw [hag _ (Or.inl hj)] at hxy
        have r := I.2.1.1 (i + 1 - 1) (j + 1 - 1) _ _ (eW_cell (by omega) hi) (eW_cell (by omega) hj) hxy
        omega
      · rw [hrho _ (by omega) (by omega)] at hxy
        omega
    · rw [hrho _ (by omega) (by omega)] at hxy
      by_cases hj : j + 1 ≤ w.1
      · have q1 := hlt (j + 1) (by omega) hj
        rw [hag _ (Or.inl hj)] at hxy
        omega
      · rw [hrho _ (by omega) (by omega)] at hxy
        omega
  · intro k q hq
    obtain ⟨h1, rfl⟩ := hget k q hq
    show A (rhoM ρ w.1 N H.size (k + 1))
    by_cases hi : k + 1 ≤ w.1
    · rw [hag _ (Or.inl hi)]
      exact I.2.1.2 (k + 1 - 1) _ (eW_cell (by omega) hi)
    · rw [hrho _ (by omega) (by omega)]
      exact hA _ (by omega)
  · rw [← hw']
    refine okM_new I.2.2.2.1 (fun i k i1 i2 => ?_)
    by_cases e1 : i = 1
    · subst e1
      rw [hs1]
      refine ⟨fun q => absurd q (by show ¬ kd < 12; omega), fun _ => ?_⟩
      have ea : aty kd = 3 := by
        unfold aty
        rw [if_neg (by omega), if_pos (by omega)]
      show okV (w.1 + (N + 1)) (ztyp (aty kd) _)
      rw [ea]
      show (if 1 = 1 ∧ k < N then ((w.1 + 2 + k : Nat) : Int) else 0).toNat ≤ w.1 + (N + 1) ∨ _
      left
      by_cases hk : k < N
      · rw [if_pos ⟨rfl, hk⟩, Int.toNat_natCast]
        omega
      · rw [if_neg (fun z => hk z.2)]
        exact Nat.zero_le _
    · obtain ⟨j, hj⟩ : ∃ j, i = 2 + j := ⟨i - 2, by omega⟩
      subst hj
      have hs3 := hs2 j (by omega)
      rw [show w.1 + (2 + j) = w.1 + 2 + j by omega, hs3]
      refine ⟨fun q => absurd q (by show ¬ kd - 5 < 12; omega), fun _ => ?_⟩
      show okV (w.1 + (N + 1)) (ztyp (aty (kd - 5)) (if 2 + j = 1 ∧ k < N then ((w.1 + 2 + k : Nat) : Int) else 0))
      rw [if_neg (by omega)]
      exact okV_zero
  · intro j hj
    rw [← hw']
    unfold znew
    simp only []
    rw [if_neg (by omega)]
    exact I.2.2.2.2.1 j hj
theorem ssum_mna {L n N M : Nat} (h1 : (sh L (n + 1)).2 = N) (h2 : ∀ i, i < N → (sh L (n + 2 + i)).2 = M) : ∀ i, i ≤ N → ssum L (n + 1 + i) = ssum L n + N + i * M := by
  intro i
  induction i with
  | zero =>
    intro _
    show ssum L n + (sh L (n + 1)).2 = _
    rw [h1]
    omega
  | succ i ih =>
    intro hi
    show ssum L (n + 1 + i) + (sh L (n + 1 + i + 1)).2 = _
    rw [ih (by omega), show n + 1 + i + 1 = n + 2 + i by omega, h2 i (by omega), Nat.succ_mul]
    omega
end MNI
theorem nm_ii : "[" ++ (FieldType.array .int).toString = "[[I" := by decide +kernel
theorem nm_jj : "[" ++ (FieldType.array .long).toString = "[[J" := by decide +kernel
set_option maxHeartbeats 2000000 in
theorem mna_open (l : Launch) (L : Nat) (D : va_G) (aT : Nat → ClassId) (xs : Nat → Int32) : MnaOpen l L D aT xs := by
  intro m p e R s mi args below meth c A ρ H locs cells slots lm Q pc pc' idx ls ls' st st' w w' C hd h I hst hce hsl K
  obtain ⟨hx, hb, hml, hown, hts, hin, hA, hS0⟩ := id C
  unfold zmna at h
  split at h
  · rename_i k n r
    split at h
    · rename_i kd hr
      obtain ⟨⟨hkd, hn0, hk0, hn1, hk1, hs1, hs2⟩, h3⟩ := if_some h
      cases h3
      have hs2' : ∀ i, i < n.toNat → sh L (w.1 + 2 + i) = (kd - 5, k.toNat) := fun i hi => of_decide_eq_true (List.all_eq_true.mp hs2 i (List.mem_range.mpr hi))
      have h9 : w.1 + n.toNat + 1 < 900 := by
        by_cases hz : n.toNat = 0
        · have := (sh_small (L := L) (a := w.1 + 1) (by rw [hs1]; show kd ≤ 26; omega)).2
          omega
        · have := (sh_small (L := L) (a := w.1 + 2 + (n.toNat - 1)) (by rw [hs2' _ (by omega)]; show kd - 5 ≤ 26; omega)).2
          omega
      have hss := ssum_mna (L := L) (n := w.1) (N := n.toNat) (M := k.toNat) (by rw [hs1]) (fun i hi => by rw [hs2' i hi]) n.toNat (Nat.le_refl _)
      have ew1 : w.1 + (n.toNat + 1) = w.1 + 1 + n.toNat := by omega
      have hce1 : cells + (w.1 + (n.toNat + 1) - w.1) ≤ R.cells := hce
      have hsl1 : slots + (ssum L (w.1 + (n.toNat + 1)) - ssum L w.1) ≤ R.slots := hsl
      rw [ew1, hss] at hsl1
      have hce' : cells + (1 + n.toNat) ≤ R.cells := by omega
      have hsl' : slots + (n.toNat + n.toNat * k.toNat) ≤ R.slots := by omega
      have hag := rhoM_agr (ρ := ρ) (nc := w.1) (N := n.toNat) (sz := H.size) h9
      have hneg : ∀ x : Int, 0 ≤ x → x ≤ 1000 → ¬ Int32.ofInt x < 0 := by
        intro x q1 q2
        show ¬ Int32.ofInt x < Int32.ofInt 0
        rw [o32_lt (by omega) (by decide)]
        omega
      have fin : ∀ (ty : FieldType) (dv : Value), ((kd = 25 ∧ dv = .int 0) ∨ (kd = 26 ∧ dv = .long 0)) → ∀ H' : Heap, H'.size = H.size + 1 + n.toNat → (∀ q : Nat, q < H.size → H'[q]? = H[q]?) → H'[H.size]? = some (arrV (aT kd) n.toNat (zO H.size n.toNat)) → (∀ j, j < n.toNat → H'[H.size + 1 + j]? = some (arrV (aT (kd - 5)) k.toNat (fun _ => dv))) → W p l e R s mi args below meth c H' locs (cells + 1 + n.toNat) (slots + n.toNat + n.toNat * k.toNat) Q (F0 mi (pc + 4) lm (.ref H.size :: r.map (eV ρ))) := by
        intro ty dv hdv H' q1 q2 q3 q4
        have IV := mna_iv (locs := locs) I hdv hs1 hs2' h9 hA q1 q2 q3 q4
        have ok1 : okV (w.1 + (n.toNat + 1)) (tA (w.1 + 1)) := by
          show w.1 + 1 ≤ w.1 + (n.toNat + 1) ∨ 900 ≤ w.1 + 1
          omega
        have hk : W p l e R s mi args below meth c H' locs (cells + (w.1 + (n.toNat + 1) - w.1)) (slots + (ssum L (w.1 + (n.toNat + 1)) - ssum L w.1)) Q (F0 mi (pc + 4) lm ((tA (w.1 + 1) :: r).map (eV (rhoM ρ w.1 n.toNat H.size)))) := K rfl (rhoM ρ w.1 n.toNat H.size) H' hag (okc ok1 (fun v hv => okV_mono (show w.1 ≤ w.1 + (n.toNat + 1) by omega) (okt (okt hst) v hv))) IV
        rw [ew1, hss, List.map_cons, map_agr hag (okt (okt hst)), eVa (by omega), show cells + (w.1 + 1 + n.toNat - w.1) = cells + 1 + n.toNat by omega, show slots + (ssum L w.1 + n.toNat + n.toNat * k.toNat - ssum L w.1) = slots + n.toNat + n.toNat * k.toNat by omega] at hk
        have er : rhoM ρ w.1 n.toNat H.size (w.1 + 1) = H.size := by
          unfold rhoM
          rw [if_pos (by omega)]
          omega
        rw [er] at hk
        exact hk
      simp only [List.map_cons]
      rcases rC_mem hr with ⟨q, hc⟩ | ⟨q, hc⟩ | ⟨q, _⟩
      · subst q
        obtain ⟨kA, e1, e2⟩ := hS0.2.2.1.2.1
        obtain ⟨_, kC, e3, cE, e4⟩ := (hS0.1.2 0 (aT 20, .int) rfl).1 0 (fun _ => .null)
        have e5 : s.vm.findClass ("[" ++ (FieldType.array .int).toString) = some (aT 25) := (hS0.1.2 5 (aT 25, .array .int) rfl).2
        rw [nm_ii] at e5
        exact w_mna (ty := .int) (M := k.toNat) (N := n.toNat) hx hb hown (hts _ hc) e5 ⟨kA, e1, e2⟩ ⟨kC, e3, e4⟩ hd (i_clamp (by omega)) (i_clamp (by omega)) (hneg n hn0 hn1) (hneg k hk0 hk1) (by omega) (by omega) (by decide) I.2.2.1.1 hce' hsl' (fin .int (.int 0) (Or.inl ⟨rfl, rfl⟩))
      · subst q
        obtain ⟨kA, e1, e2⟩ := hS0.2.2.1.2.2
        obtain ⟨_, kC, e3, cE, e4⟩ := (hS0.1.2 1 (aT 21, .long) rfl).1 0 (fun _ => .null)
        have e5 : s.vm.findClass ("[" ++ (FieldType.array .long).toString) = some (aT 26) := (hS0.1.2 6 (aT 26, .array .long) rfl).2
        rw [nm_jj] at e5
        exact w_mna (ty := .long) (M := k.toNat) (N := n.toNat) hx hb hown (hts _ hc) e5 ⟨kA, e1, e2⟩ ⟨kC, e3, e4⟩ hd (i_clamp (by omega)) (i_clamp (by omega)) (hneg n hn0 hn1) (hneg k hk0 hk1) (by omega) (by omega) (by decide) I.2.2.1.1 hce' hsl' (fin .long (.long 0) (Or.inr ⟨rfl, rfl⟩))
      · omega
    · cases h
  · cases h
