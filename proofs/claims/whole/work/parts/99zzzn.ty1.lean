/-! the literals: length() and charAt(), the seven methods of the JDK by contract (printed by mk_ty1.py) -/
abbrev yy_len : MethodName := ⟨"java/lang/String", "length", "()I"⟩
theorem jc_len : Cond.code yy_len prog_16_method_54_code 1 (some .int) ∈ Gd := gd_2 142 rfl rfl
theorem ji_len : Cond.initialized yy_len.cls ∈ Gd := gd_1 15 rfl rfl
theorem jw_len : Cond.instanceMethod yy_len ∈ Gd := gd_2 140 rfl rfl
theorem js_len : Cond.selects "java/lang/String" yy_len yy_len ∈ Gd := gd_2 141 rfl rfl
theorem dj_len_0 : decode prog_16_method_54_code 0 = .ok (.aload_n 0, 1) := by decide +kernel
theorem dj_len_1 : decode prog_16_method_54_code 1 = .ok (.getfield 9, 3) := by decide +kernel
theorem dj_len_4 : decode prog_16_method_54_code 4 = .ok (.arraylength, 1) := by decide +kernel
theorem dj_len_5 : decode prog_16_method_54_code 5 = .ok (.aload_n 0, 1) := by decide +kernel
theorem dj_len_6 : decode prog_16_method_54_code 6 = .ok (.invokevirtual 335, 3) := by decide +kernel
theorem dj_len_9 : decode prog_16_method_54_code 9 = .ok (.ishr, 1) := by decide +kernel
theorem dj_len_10 : decode prog_16_method_54_code 10 = .ok (.ireturn, 1) := by decide +kernel
abbrev yy_cod : MethodName := ⟨"java/lang/String", "coder", "()B"⟩
theorem jc_cod : Cond.code yy_cod prog_16_method_152_code 1 (some .byte) ∈ Gd := gd_2 146 rfl rfl
theorem ji_cod : Cond.initialized yy_cod.cls ∈ Gd := gd_1 15 rfl rfl
theorem jw_cod : Cond.instanceMethod yy_cod ∈ Gd := gd_2 144 rfl rfl
theorem js_cod : Cond.selects "java/lang/String" yy_cod yy_cod ∈ Gd := gd_2 145 rfl rfl
theorem dj_cod_0 : decode prog_16_method_152_code 0 = .ok (.getstatic 38, 3) := by decide +kernel
theorem dj_cod_3 : decode prog_16_method_152_code 3 = .ok (.ifCond .eq 10, 3) := by decide +kernel
theorem dj_cod_6 : decode prog_16_method_152_code 6 = .ok (.aload_n 0, 1) := by decide +kernel
theorem dj_cod_7 : decode prog_16_method_152_code 7 = .ok (.getfield 15, 3) := by decide +kernel
theorem dj_cod_10 : decode prog_16_method_152_code 10 = .ok (.goto 4, 3) := by decide +kernel
theorem dj_cod_14 : decode prog_16_method_152_code 14 = .ok (.ireturn, 1) := by decide +kernel
abbrev yy_cat : MethodName := ⟨"java/lang/String", "charAt", "(I)C"⟩
theorem jc_cat : Cond.code yy_cat prog_16_method_56_code 2 (some .char) ∈ Gd := gd_2 152 rfl rfl
theorem ji_cat : Cond.initialized yy_cat.cls ∈ Gd := gd_1 15 rfl rfl
theorem jw_cat : Cond.instanceMethod yy_cat ∈ Gd := gd_2 150 rfl rfl
theorem js_cat : Cond.selects "java/lang/String" yy_cat yy_cat ∈ Gd := gd_2 151 rfl rfl
theorem dj_cat_0 : decode prog_16_method_56_code 0 = .ok (.aload_n 0, 1) := by decide +kernel
theorem dj_cat_1 : decode prog_16_method_56_code 1 = .ok (.invokevirtual 492, 3) := by decide +kernel
theorem dj_cat_4 : decode prog_16_method_56_code 4 = .ok (.ifCond .eq 12, 3) := by decide +kernel
theorem dj_cat_7 : decode prog_16_method_56_code 7 = .ok (.aload_n 0, 1) := by decide +kernel
theorem dj_cat_8 : decode prog_16_method_56_code 8 = .ok (.getfield 9, 3) := by decide +kernel
theorem dj_cat_11 : decode prog_16_method_56_code 11 = .ok (.iload_n 1, 1) := by decide +kernel
theorem dj_cat_12 : decode prog_16_method_56_code 12 = .ok (.invokestatic 495, 3) := by decide +kernel
theorem dj_cat_15 : decode prog_16_method_56_code 15 = .ok (.ireturn, 1) := by decide +kernel
abbrev yy_lat : MethodName := ⟨"java/lang/String", "isLatin1", "()Z"⟩
theorem jc_lat : Cond.code yy_lat prog_16_method_154_code 1 (some .boolean) ∈ Gd := gd_2 156 rfl rfl
theorem ji_lat : Cond.initialized yy_lat.cls ∈ Gd := gd_1 15 rfl rfl
theorem jw_lat : Cond.instanceMethod yy_lat ∈ Gd := gd_2 154 rfl rfl
theorem js_lat : Cond.selects "java/lang/String" yy_lat yy_lat ∈ Gd := gd_2 155 rfl rfl
theorem dj_lat_0 : decode prog_16_method_154_code 0 = .ok (.getstatic 38, 3) := by decide +kernel
theorem dj_lat_3 : decode prog_16_method_154_code 3 = .ok (.ifCond .eq 14, 3) := by decide +kernel
theorem dj_lat_6 : decode prog_16_method_154_code 6 = .ok (.aload_n 0, 1) := by decide +kernel
theorem dj_lat_7 : decode prog_16_method_154_code 7 = .ok (.getfield 15, 3) := by decide +kernel
theorem dj_lat_10 : decode prog_16_method_154_code 10 = .ok (.ifCond .ne 7, 3) := by decide +kernel
theorem dj_lat_13 : decode prog_16_method_154_code 13 = .ok (.iconst 1, 1) := by decide +kernel
theorem dj_lat_14 : decode prog_16_method_154_code 14 = .ok (.goto 4, 3) := by decide +kernel
theorem dj_lat_18 : decode prog_16_method_154_code 18 = .ok (.ireturn, 1) := by decide +kernel
abbrev yy_l1c : MethodName := ⟨"java/lang/StringLatin1", "charAt", "([BI)C"⟩
theorem jc_l1c : Cond.code yy_l1c prog_17_method_2_code 2 (some .char) ∈ Gd := gd_2 159 rfl rfl
theorem ji_l1c : Cond.initialized yy_l1c.cls ∈ Gd := gd_1 16 rfl rfl
theorem js_l1c : Cond.static yy_l1c ∈ Gd := gd_2 158 rfl rfl
theorem dj_l1c_0 : decode prog_17_method_2_code 0 = .ok (.iload_n 1, 1) := by decide +kernel
theorem dj_l1c_1 : decode prog_17_method_2_code 1 = .ok (.aload_n 0, 1) := by decide +kernel
theorem dj_l1c_2 : decode prog_17_method_2_code 2 = .ok (.arraylength, 1) := by decide +kernel
theorem dj_l1c_3 : decode prog_17_method_2_code 3 = .ok (.invokestatic 9, 3) := by decide +kernel
theorem dj_l1c_6 : decode prog_17_method_2_code 6 = .ok (.aload_n 0, 1) := by decide +kernel
theorem dj_l1c_7 : decode prog_17_method_2_code 7 = .ok (.iload_n 1, 1) := by decide +kernel
theorem dj_l1c_8 : decode prog_17_method_2_code 8 = .ok (.baload, 1) := by decide +kernel
theorem dj_l1c_9 : decode prog_17_method_2_code 9 = .ok (.sipush 255, 3) := by decide +kernel
theorem dj_l1c_12 : decode prog_17_method_2_code 12 = .ok (.iand, 1) := by decide +kernel
theorem dj_l1c_13 : decode prog_17_method_2_code 13 = .ok (.i2c, 1) := by decide +kernel
theorem dj_l1c_14 : decode prog_17_method_2_code 14 = .ok (.ireturn, 1) := by decide +kernel
abbrev yy_chk : MethodName := ⟨"java/lang/String", "checkIndex", "(II)V"⟩
theorem jc_chk : Cond.code yy_chk prog_16_method_155_code 2 none ∈ Gd := gd_2 162 rfl rfl
theorem ji_chk : Cond.initialized yy_chk.cls ∈ Gd := gd_1 15 rfl rfl
theorem js_chk : Cond.static yy_chk ∈ Gd := gd_2 161 rfl rfl
theorem dj_chk_0 : decode prog_16_method_155_code 0 = .ok (.iload_n 0, 1) := by decide +kernel
theorem dj_chk_1 : decode prog_16_method_155_code 1 = .ok (.iload_n 1, 1) := by decide +kernel
theorem dj_chk_2 : decode prog_16_method_155_code 2 = .ok (.getstatic 1053, 3) := by decide +kernel
theorem dj_chk_5 : decode prog_16_method_155_code 5 = .ok (.invokestatic 1059, 3) := by decide +kernel
theorem dj_chk_8 : decode prog_16_method_155_code 8 = .ok (.pop, 1) := by decide +kernel
theorem dj_chk_9 : decode prog_16_method_155_code 9 = .ok (.return_, 1) := by decide +kernel
abbrev yy_pre : MethodName := ⟨"jdk/internal/util/Preconditions", "checkIndex", "(IILjava/util/function/BiFunction;)I"⟩
theorem jc_pre : Cond.code yy_pre prog_21_method_11_code 3 (some .int) ∈ Gd := gd_2 167 rfl rfl
theorem ji_pre : Cond.initialized yy_pre.cls ∈ Gd := gd_1 17 rfl rfl
theorem js_pre : Cond.static yy_pre ∈ Gd := gd_2 166 rfl rfl
theorem dj_pre_0 : decode prog_21_method_11_code 0 = .ok (.iload_n 0, 1) := by decide +kernel
theorem dj_pre_1 : decode prog_21_method_11_code 1 = .ok (.ifCond .lt 8, 3) := by decide +kernel
theorem dj_pre_4 : decode prog_21_method_11_code 4 = .ok (.iload_n 0, 1) := by decide +kernel
theorem dj_pre_5 : decode prog_21_method_11_code 5 = .ok (.iload_n 1, 1) := by decide +kernel
theorem dj_pre_6 : decode prog_21_method_11_code 6 = .ok (.if_icmp .lt 10, 3) := by decide +kernel
theorem dj_pre_16 : decode prog_21_method_11_code 16 = .ok (.iload_n 0, 1) := by decide +kernel
theorem dj_pre_17 : decode prog_21_method_11_code 17 = .ok (.ireturn, 1) := by decide +kernel
theorem jl_cod : Cond.methodLink "java/lang/String" 335 yy_cod ∈ Gd := gd_2 143 rfl rfl
theorem jl_lat : Cond.methodLink "java/lang/String" 492 yy_lat ∈ Gd := gd_2 153 rfl rfl
theorem jl_l1c : Cond.methodLink "java/lang/String" 495 yy_l1c ∈ Gd := gd_2 157 rfl rfl
theorem jl_chk : Cond.methodLink "java/lang/StringLatin1" 9 yy_chk ∈ Gd := gd_2 160 rfl rfl
theorem jl_pre : Cond.methodLink "java/lang/String" 1059 yy_pre ∈ Gd := gd_2 165 rfl rfl
theorem jf_38 : Cond.fieldLink "java/lang/String" 38 "java/lang/String" "COMPACT_STRINGS" "Z" ∈ Gd := gd_2 147 rfl rfl
theorem jf_1053 : Cond.fieldLink "java/lang/String" 1053 "jdk/internal/util/Preconditions" "SIOOBE_FORMATTER" "Ljava/util/function/BiFunction;" ∈ Gd := gd_2 163 rfl rfl
theorem jf_9 : Cond.fieldLink "java/lang/String" 9 "java/lang/String" "value" "[B" ∈ Gd := gd_9 194 rfl rfl
theorem jf_15 : Cond.fieldLink "java/lang/String" 15 "java/lang/String" "coder" "B" ∈ Gd := gd_9 195 rfl rfl
/-- what such a method answers: it writes nothing -/
def QJ (z : Option Int32) : Array Value → State → Outcome → State → Prop := fun _ st oc t => oc = .returned (z.map Value.int) ∧ va_F (fun _ => False) st t
abbrev JM (l : Launch) (y : MethodName) (cc : ByteArray) (maxL : Nat) (ret : Option FieldType) (fr lo : Nat) (av : List Value) (B : State → Prop) (z : Option Int32) : Prop :=
  Met l y (Cond.code y cc maxL ret :: Gd) { frames := fr, cells := 0, slots := 0, locals := lo } (va_Pc av B) (QJ z) 0 0 (fun _ => False)
def PJ (L : Nat) (D : va_G) (aT : Nat → ClassId) (xs : Nat → Int32) (ρ : Nat → Nat) (U : State) : Prop := sStat L D aT xs ρ (fun _ => False) U U.heap
section JDK
variable {l : Launch} {L : Nat} {D : va_G} {aT : Nat → ClassId} {xs : Nat → Int32} {p : Program} {e : Jvm.Env} {R : Room} {s : State} {mi : MethodId} {args : Array Value} {below : List Frame} {meth : Method} {c : Code} {A : Nat → Prop} {ρ : Nat → Nat} {H : Heap} {locs : List Loc} {cells slots : Nat} {Q : State → Prop}
theorem jm_of {y : MethodName} {cc : ByteArray} {maxL : Nat} {ret : Option FieldType} {fr lo : Nat} {av : List Value} {B : State → Prop} {z : Option Int32} (hy : plainName y.cls = true) (hle : (lg_sl av).length ≤ maxL)
    (body : ∀ (p : Program) (e : Jvm.Env) (R : Room) (s : State) (mi : MethodId) (below : List Frame) (meth : Method) (c : Code) (lm : Array Slot), p.tables.exec = Jvm.exec → c.code = cc → c.maxLocals = maxL → meth.sig.returnType = ret → meth.locks = false → s.vm.findClass y.cls = some mi.cls → (∀ w ∈ Gd, w.before av.toArray s = true) → B s → fr ≤ R.frames → lo ≤ R.locals → lv_has lm maxL (lv_args 0 av) →
      W p l e R s mi av.toArray below meth c s.heap [] 0 0 (MQ below (QJ z) av.toArray s 0 0 (fun _ => False)) (F0 mi 0 lm [])) : JM l y cc maxL ret fr lo av B z := by
  refine Met.ofW (cc := cc) (maxL := maxL) (ret := ret) hy rfl ?_
  intro p e s mi args below meth c s₁ B hml hv
  obtain ⟨rfl, hSt⟩ := hv
  have hts := atoms_spec (ws := Cond.code y cc maxL ret :: Gd) B.pre
  rw [lg_entry_eq]
  exact body p e _ s mi below meth c _ B.exec B.bytes hml B.returns B.notSynchronized (findClass_of_methodNamed B.named) (fun w hw => hts w (List.mem_cons_of_mem _ hw)) hSt (Nat.le_refl _) (Nat.le_refl _) (lv_entry av hle)
theorem j_call {pc : Nat} {lm : Array Slot} {st0 rest : List Value} {z : Option Int32} {a : Array Value} (hr : va_Run p l e R s mi args below meth c H locs cells slots 0 0 (F0 mi pc lm st0) rest (QJ z a) (fun _ => False)) (hS : va_S A s.heap H locs)
    (kk : ∀ (H1 : Heap) (locs1 : List Loc), (∀ q : Nat, q < H.size → H1[q]? = H[q]?) → va_S A s.heap H1 locs1 → W p l e R s mi args below meth c H1 locs1 cells slots Q (F0 mi (pc + 3) lm ((z.map Value.int).toList ++ rest))) : W p l e R s mi args below meth c H locs cells slots Q (F0 mi pc lm st0) := by
  intro T hT X
  obtain ⟨v, st₀, t, T', Lc, h0, X', hL, e1, e2, ⟨hv, hz, hk⟩, st⟩ := hr T hT X
  have hv' : v = z.map Value.int := by injection hv
  subst hv'
  rw [h0] at hz hk
  obtain ⟨t2, a1, b1⟩ := kk T'.heap (locs ++ Lc) (fun q h => by rw [e1]; exact hk q h (fun z => z)) ⟨Nat.le_trans hS.1 (by rw [e1]; exact hz), fun q h1 h2 => by rw [e1, hk q (Nat.lt_of_lt_of_le h1 hS.1) (fun z => z)]; exact hS.2.1 q h1 h2, fun q hq => by
      rcases List.mem_append.mp hq with h | h
      · exact hS.2.2 q h
      · exact (hL q h).elim⟩ T' rfl X'
  exact ⟨t2, st t2 a1, b1⟩
/-- what a call of such a method wants -/
theorem j_cb {own : String} {idx : Nat} {y : MethodName} {bytes : ByteArray} {maxL fr lo n : Nat} {ret : Option FieldType} (hts : ∀ w ∈ Gd, w.before args s = true) (hc : Cond.code y bytes maxL ret ∈ Gd) (hi : Cond.initialized y.cls ∈ Gd) (hk : Cond.methodLink own idx y ∈ Gd) (hy : y.cls ≠ "java/lang/invoke/MethodHandle" ∧ y.cls ≠ "java/lang/invoke/VarHandle") (hn : npar y = some n) (hfr : fr + 1 ≤ R.frames) (hlo : 8 + (maxL + 11) + lo ≤ R.locals) :
    CallB R s args own idx y bytes maxL ret (Cond.code y bytes maxL ret :: Gd) { frames := fr, cells := 0, slots := 0, locals := lo } 0 0 n := by
  refine ⟨rfl, rfl, hfr, hlo, ?_, List.mem_cons_self, hts _ hc, hts _ hi, hy, ?_, hts _ hk⟩
  · intro w hw a' U hW
    have hw' : w ∈ Gd := by
      rcases List.mem_cons.mp hw with q | q
      · rw [q]; exact hc
      · exact q
    exact word_at hW (good_of_word (gd_good hw')) (hts w hw')
  · intro sig hsig
    unfold npar at hn
    rw [hsig] at hn
    exact (Option.some.inj hn).symm
theorem pj_at (h : sStat L D aT xs ρ A s s.heap) (hS : va_S A s.heap H locs) : ∀ U : State, U.heap = H → s.WarmedH U.vm → PJ L D aT xs ρ U := fun _ hU hW => h.move hS (fun _ z => False.elim z) hU hW
theorem pj_blind {av : List Value} : FrameBlind (va_Pc av (PJ L D aT xs ρ)) := by
  intro a U g mk q
  exact ⟨q.1, sStat.call q.2⟩
theorem recv_O {E : String} {t : Nat} (h : va_O E t A s s.heap) (hS : va_S A s.heap H locs) : ∃ cell : Cell, H[t]? = some cell ∧ cell.vm.isStatics = false ∧ s.vm.findClass E = some cell.cls := by
  obtain ⟨cell, h1, h2, h3, _⟩ := h.kept hS.2.1
  exact ⟨cell, h1, h2, h3⟩
theorem c255 : ∀ c : Fin 256, (Int32.ofInt (c.val : Int)) &&& 255 = Int32.ofInt (c.val : Int) := by decide +kernel
theorem c255' {x : Int} (h : 0 ≤ x ∧ x < 256) : Int32.ofInt x &&& 255 = Int32.ofInt x := by
  have := c255 ⟨x.toNat, by omega⟩
  rw [show ((x.toNat : Nat) : Int) = x by omega] at this
  exact this
set_option maxHeartbeats 1000000 in
theorem jm_pre (i n : Int32) (fv : Value) (hf : fv = .null ∨ ∃ t, fv = .ref t) (h0 : ¬ i < 0) (h1 : i < n) : JM l yy_pre prog_21_method_11_code 3 (some .int) 1 30 [.int i, .int n, fv] (PJ L D aT xs ρ) (some i) := by
  have go : ∀ (p : Program) (e : Jvm.Env) (R : Room) (s : State) (mi : MethodId) (below : List Frame) (meth : Method) (c : Code) (lm : Array Slot) (args : Array Value), p.tables.exec = Jvm.exec → c.code = prog_21_method_11_code → meth.sig.returnType = some .int → meth.locks = false → lm[0]? = some (.val (.int i)) → lm[1]? = some (.val (.int n)) → W p l e R s mi args below meth c s.heap [] 0 0 (MQ below (QJ (some i)) args s 0 0 (fun _ => False)) (F0 mi 0 lm []) := by
    intro p e R s mi below meth c lm args hx hb hr hlocks q0 q1
    have hS : va_S (fun _ => False) s.heap s.heap [] := va_S.rf
    refine lv_iload_n hx hb dj_pre_0 rfl q0 ?_
    refine lv_if_lt (tgt := 9) hx hb dj_pre_1 (by decide) (fun z => absurd z h0) (fun _ => ?_)
    refine lv_iload_n hx hb dj_pre_4 rfl q0 ?_
    refine lv_iload_n hx hb dj_pre_5 rfl q1 ?_
    refine lv_icmp_lt (tgt := 16) hx hb dj_pre_6 (by decide) (fun _ => ?_) (fun z => absurd h1 z)
    refine lv_iload_n hx hb dj_pre_16 rfl q0 ?_
    exact W.iret (v := i) hx hb hr (fun t ht hW => ⟨rfl, hS.F ht⟩) hS.2.2 dj_pre_17
  rcases hf with rfl | ⟨t, rfl⟩
  · refine jm_of (by decide) (Nat.le_of_ble_eq_true rfl) ?_
    intro p e R s mi below meth c lm hx hb hml hr hlocks hown hts hSt hfr hlo hl
    have hl : lv_has lm 3 [(0, .int i), (1, .int n), (2, .null)] := hl
    exact go p e R s mi below meth c lm _ hx hb hr hlocks (lv_at hl 0 rfl) (lv_at hl 1 rfl)
  · refine jm_of (by decide) (Nat.le_of_ble_eq_true rfl) ?_
    intro p e R s mi below meth c lm hx hb hml hr hlocks hown hts hSt hfr hlo hl
    have hl : lv_has lm 3 [(0, .int i), (1, .int n), (2, .ref t)] := hl
    exact go p e R s mi below meth c lm _ hx hb hr hlocks (lv_at hl 0 rfl) (lv_at hl 1 rfl)
set_option maxHeartbeats 1000000 in
theorem jm_chk (i n : Int32) (h0 : ¬ i < 0) (h1 : i < n) : JM l yy_chk prog_16_method_155_code 2 none 2 60 [.int i, .int n] (PJ L D aT xs ρ) none := by
  refine jm_of (by decide) (Nat.le_of_ble_eq_true rfl) ?_
  intro p e R s mi below meth c lm hx hb hml hr hlocks hown hts hSt hfr hlo hl
  have hl : lv_has lm 2 [(0, .int i), (1, .int n)] := hl
  have hS : va_S (fun _ => False) s.heap s.heap [] := va_S.rf
  have hSt' : sStat L D aT xs ρ (fun _ => False) s s.heap := hSt
  have fin : ∀ fv : Value, (fv = .null ∨ ∃ t, fv = .ref t) → W p l e R s mi ([.int i, .int n] : List Value).toArray below meth c s.heap [] 0 0 (MQ below (QJ none) ([.int i, .int n] : List Value).toArray s 0 0 (fun _ => False)) (F0 mi 5 lm [fv, .int n, .int i]) := by
    intro fv hfv
    refine j_call (A := fun _ => False) (va_runS (As := [.int i, .int n, fv]) (rest := []) (n := 3) (cc := prog_16_method_155_code) (nL := 2) ⟨hx, hb, hml, hown, hts⟩ (jm_pre (L := L) (D := D) (aT := aT) (xs := xs) (ρ := ρ) i n fv hfv h0 h1) ⟨j_cb hts jc_pre ji_pre jl_pre (by decide) (by decide +kernel) (by omega) (by omega), hts _ js_pre⟩ ⟨pj_blind, fun U hU hW => ⟨rfl, pj_at hSt' hS U hU hW⟩⟩ rfl rfl hl.1 rfl (lv_room (Nat.le_of_ble_eq_true rfl)) dj_chk_5 ⟨Nat.zero_le _, Nat.zero_le _⟩) hS (fun H1 locs1 _ hS1 => ?_)
    refine lv_pop (va := .int i) hx hb dj_chk_8 rfl ?_
    exact W.vret hx hb hr (fun t ht hW => ⟨rfl, hS1.F ht⟩) hS1.2.2 dj_chk_9
  refine lv_iload_n hx hb dj_chk_0 rfl (lv_at hl 0 rfl) ?_
  refine lv_iload_n hx hb dj_chk_1 rfl (lv_at hl 1 rfl) ?_
  rcases hSt'.2.2.2.2.2.2.2.2.2 with hz | ⟨t, hz⟩
  · exact va_gets hx hb hz hS hown (hts _ jf_1053) (fun _ h => h) dj_chk_2 (fin .null (Or.inl rfl))
  · exact va_gets hx hb hz hS hown (hts _ jf_1053) (fun _ h => h) dj_chk_2 (fin (.ref t) (Or.inr ⟨t, rfl⟩))
set_option maxHeartbeats 1000000 in
theorem jm_l1c {N v : Nat} {f : Nat → Int} (j : Int) (hN : N < 1000) (h0 : 0 ≤ j) (h1 : j < (N : Int)) (hf : 0 ≤ f j.toNat ∧ f j.toNat < 256) : JM l yy_l1c prog_17_method_2_code 2 (some .char) 3 90 [.ref v, .int (Int32.ofInt j)] (fun U => PJ L D aT xs ρ U ∧ va_T .byte v N (fun k => .int (Int32.ofInt (f k))) (fun _ => False) U U.heap) (some (Int32.ofInt (f j.toNat))) := by
  refine jm_of (by decide) (Nat.le_of_ble_eq_true rfl) ?_
  intro p e R s mi below meth c lm hx hb hml hr hlocks hown hts hSt hfr hlo hl
  have hl : lv_has lm 2 [(0, .ref v), (1, .int (Int32.ofInt j))] := hl
  have hS : va_S (fun _ => False) s.heap s.heap [] := va_S.rf
  obtain ⟨hSt', hT⟩ := hSt
  have hSt' : sStat L D aT xs ρ (fun _ => False) s s.heap := hSt'
  have n0 : ¬ Int32.ofInt j < 0 := by
    show ¬ Int32.ofInt j < Int32.ofInt 0
    rw [o32_lt (by omega) (by decide)]
    omega
  have n1 : Int32.ofInt j < Int32.ofInt (N : Int) := (o32_lt (by omega) (by omega)).mpr h1
  refine lv_iload_n hx hb dj_l1c_0 rfl (lv_at hl 1 rfl) ?_
  refine lv_aload_n hx hb dj_l1c_1 rfl (lv_at hl 0 rfl) ?_
  refine va_tlen hx hb hT hS (i_ofNat N) dj_l1c_2 ?_
  refine j_call (A := fun _ => False) (va_runS (As := [.int (Int32.ofInt j), .int (Int32.ofInt (N : Int))]) (rest := []) (n := 2) (cc := prog_17_method_2_code) (nL := 2) ⟨hx, hb, hml, hown, hts⟩ (jm_chk (L := L) (D := D) (aT := aT) (xs := xs) (ρ := ρ) _ _ n0 n1) ⟨j_cb hts jc_chk ji_chk jl_chk (by decide) (by decide +kernel) (by omega) (by omega), hts _ js_chk⟩ ⟨pj_blind, fun U hU hW => ⟨rfl, pj_at hSt' hS U hU hW⟩⟩ rfl rfl hl.1 rfl (lv_room (Nat.le_of_ble_eq_true rfl)) dj_l1c_3 ⟨Nat.zero_le _, Nat.zero_le _⟩) hS (fun H1 locs1 _ hS1 => ?_)
  refine lv_aload_n hx hb dj_l1c_6 rfl (lv_at hl 0 rfl) ?_
  refine lv_iload_n hx hb dj_l1c_7 rfl (lv_at hl 1 rfl) ?_
  refine va_tb hx hb hT hS1 (i_in ⟨h0, h1⟩ (by omega)) (v := .int (Int32.ofInt (f j.toNat))) (by rw [i_clamp (by omega)]) dj_l1c_8 ?_
  refine lv_sipush (v := 255) hx hb dj_l1c_9 (by decide) ?_
  refine lv_iand hx hb dj_l1c_12 ?_
  refine lv_i2c (v := Int32.ofInt (f j.toNat) &&& 255) hx hb dj_l1c_13 (sc_c2 _) ?_
  have e9 := c255' hf
  refine W.zret (v := Int32.ofInt (f j.toNat) &&& 255) (ty := .char) hx hb hr (sc_nar _) (fun t ht hW => ⟨?_, hS1.F ht⟩) hS1.2.2 dj_l1c_14
  rw [e9]
  rfl
set_option maxHeartbeats 1000000 in
theorem jm_lat (i : Nat) (hi : i < 5) : JM l yy_lat prog_16_method_154_code 1 (some .boolean) 1 30 [.ref (ρ (901 + i))] (PJ L D aT xs ρ) (some 1) := by
  refine jm_of (by decide) (Nat.le_of_ble_eq_true rfl) ?_
  intro p e R s mi below meth c lm hx hb hml hr hlocks hown hts hSt hfr hlo hl
  have hl : lv_has lm 1 [(0, .ref (ρ (901 + i)))] := hl
  have hS : va_S (fun _ => False) s.heap s.heap [] := va_S.rf
  have hSt' : sStat L D aT xs ρ (fun _ => False) s s.heap := hSt
  obtain ⟨v, g1, g2, g3, g4⟩ := hSt'.2.2.2.1 i hi
  refine va_gets hx hb hSt'.2.2.2.2.2.2.2.2.1 hS hown (hts _ jf_38) (fun _ h => h) dj_lat_0 ?_
  refine lv_if_eq (tgt := 17) hx hb dj_lat_3 (by decide) (fun z => absurd z (by decide)) (fun _ => ?_)
  refine lv_aload_n hx hb dj_lat_6 rfl (lv_at hl 0 rfl) ?_
  refine vk_getf hx hb g2 hS hown (hts _ jf_15) (fun _ h => h) dj_lat_7 ?_
  refine lv_if_ne (tgt := 17) hx hb dj_lat_10 (by decide) (fun z => absurd rfl z) (fun _ => ?_)
  refine lv_iconst (v := 1) hx hb dj_lat_13 (by decide) ?_
  refine lv_goto (tgt := 18) hx hb dj_lat_14 (by decide) ?_
  exact W.zret (v := 1) (ty := .boolean) hx hb hr (fit_b (x := 1) (Or.inr rfl)).1 (fun t ht hW => ⟨rfl, hS.F ht⟩) hS.2.2 dj_lat_18
set_option maxHeartbeats 1000000 in
theorem jm_cod (i : Nat) (hi : i < 5) : JM l yy_cod prog_16_method_152_code 1 (some .byte) 1 30 [.ref (ρ (901 + i))] (PJ L D aT xs ρ) (some 0) := by
  refine jm_of (by decide) (Nat.le_of_ble_eq_true rfl) ?_
  intro p e R s mi below meth c lm hx hb hml hr hlocks hown hts hSt hfr hlo hl
  have hl : lv_has lm 1 [(0, .ref (ρ (901 + i)))] := hl
  have hS : va_S (fun _ => False) s.heap s.heap [] := va_S.rf
  have hSt' : sStat L D aT xs ρ (fun _ => False) s s.heap := hSt
  obtain ⟨v, g1, g2, g3, g4⟩ := hSt'.2.2.2.1 i hi
  refine va_gets hx hb hSt'.2.2.2.2.2.2.2.2.1 hS hown (hts _ jf_38) (fun _ h => h) dj_cod_0 ?_
  refine lv_if_eq (tgt := 13) hx hb dj_cod_3 (by decide) (fun z => absurd z (by decide)) (fun _ => ?_)
  refine lv_aload_n hx hb dj_cod_6 rfl (lv_at hl 0 rfl) ?_
  refine vk_getf hx hb g2 hS hown (hts _ jf_15) (fun _ h => h) dj_cod_7 ?_
  refine lv_goto (tgt := 14) hx hb dj_cod_10 (by decide) ?_
  exact W.zret (v := 0) (ty := .byte) hx hb hr ((narrow_byte 0).trans (congrArg Value.int (by decide))) (fun t ht hW => ⟨rfl, hS.F ht⟩) hS.2.2 dj_cod_14
set_option maxHeartbeats 1000000 in
theorem jm_cat (i : Nat) (hi : i < 5) (j : Int) (h0 : 0 ≤ j) (h1 : j < ((strs.getD i []).length : Int)) : JM l yy_cat prog_16_method_56_code 2 (some .char) 4 120 [.ref (ρ (901 + i)), .int (Int32.ofInt j)] (PJ L D aT xs ρ) (some (Int32.ofInt ((strs.getD i []).getD j.toNat 0))) := by
  refine jm_of (by decide) (Nat.le_of_ble_eq_true rfl) ?_
  intro p e R s mi below meth c lm hx hb hml hr hlocks hown hts hSt hfr hlo hl
  have hl : lv_has lm 2 [(0, .ref (ρ (901 + i))), (1, .int (Int32.ofInt j))] := hl
  have hS : va_S (fun _ => False) s.heap s.heap [] := va_S.rf
  have hSt' : sStat L D aT xs ρ (fun _ => False) s s.heap := hSt
  obtain ⟨v, g1, g2, g3, g4⟩ := hSt'.2.2.2.1 i hi
  have hN := strs_len i
  have hcs := strs_at i j.toNat
  refine lv_aload_n hx hb dj_cat_0 rfl (lv_at hl 0 rfl) ?_
  refine j_call (A := fun _ => False) (va_runV (As := []) (rest := []) (b := ρ (901 + i)) (C := "java/lang/String") (n := 0) (cc := prog_16_method_56_code) (nL := 2) ⟨hx, hb, hml, hown, hts⟩ (jm_lat (L := L) (D := D) (aT := aT) (xs := xs) (ρ := ρ) i hi) ⟨j_cb hts jc_lat ji_lat jl_lat (by decide) (by decide +kernel) (by omega) (by omega), hts _ jw_lat, hts _ js_lat⟩ ⟨pj_blind, recv_O g1 hS, fun U hU hW => ⟨rfl, pj_at hSt' hS U hU hW⟩⟩ rfl rfl hl.1 rfl (lv_room (Nat.le_of_ble_eq_true rfl)) dj_cat_1 ⟨Nat.zero_le _, Nat.zero_le _⟩) hS (fun H1 locs1 _ hS1 => ?_)
  refine lv_if_eq (x := 1) (tgt := 16) hx hb dj_cat_4 (by decide) (fun z => absurd z (by decide)) (fun _ => ?_)
  refine lv_aload_n hx hb dj_cat_7 rfl (lv_at hl 0 rfl) ?_
  refine vk_getf hx hb g3 hS1 hown (hts _ jf_9) (fun _ h => h) dj_cat_8 ?_
  refine lv_iload_n hx hb dj_cat_11 rfl (lv_at hl 1 rfl) ?_
  refine j_call (A := fun _ => False) (va_runS (As := [.ref v, .int (Int32.ofInt j)]) (rest := []) (n := 2) (cc := prog_16_method_56_code) (nL := 2) ⟨hx, hb, hml, hown, hts⟩ (jm_l1c (L := L) (D := D) (aT := aT) (xs := xs) (ρ := ρ) (v := v) (f := fun k => (strs.getD i []).getD k 0) j hN h0 h1 hcs) ⟨j_cb hts jc_l1c ji_l1c jl_l1c (by decide) (by decide +kernel) (by omega) (by omega), hts _ js_l1c⟩ ⟨?_, fun U hU hW => ⟨rfl, pj_at hSt' hS1 U hU hW, ?_⟩⟩ rfl rfl hl.1 rfl (lv_room (Nat.le_of_ble_eq_true rfl)) dj_cat_12 ⟨Nat.zero_le _, Nat.zero_le _⟩) hS1 (fun H2 locs2 _ hS2 => ?_)
  · intro a U g mk q
    obtain ⟨q1, q2, q3⟩ := q
    have hal : U.vm.Alike (U.calling g mk a).vm := Vm.Alike.refl U.vm
    exact ⟨q1, sStat.call q2, va_T.moved hal q3⟩
  · rw [hU]
    exact (va_T.moved hW.alike g4).kept hS1.2.1
  · refine W.zret (v := Int32.ofInt ((strs.getD i []).getD j.toNat 0)) (ty := .char) hx hb hr ?_ (fun t ht hW => ⟨rfl, hS2.F ht⟩) hS2.2.2 dj_cat_15
    rw [← c255' hcs]
    exact sc_nar _
set_option maxHeartbeats 1000000 in
theorem jm_len (i : Nat) (hi : i < 5) : JM l yy_len prog_16_method_54_code 1 (some .int) 2 60 [.ref (ρ (901 + i))] (PJ L D aT xs ρ) (some (Int32.ofInt ((strs.getD i []).length : Int))) := by
  refine jm_of (by decide) (Nat.le_of_ble_eq_true rfl) ?_
  intro p e R s mi below meth c lm hx hb hml hr hlocks hown hts hSt hfr hlo hl
  have hl : lv_has lm 1 [(0, .ref (ρ (901 + i)))] := hl
  have hS : va_S (fun _ => False) s.heap s.heap [] := va_S.rf
  have hSt' : sStat L D aT xs ρ (fun _ => False) s s.heap := hSt
  obtain ⟨v, g1, g2, g3, g4⟩ := hSt'.2.2.2.1 i hi
  have hN := strs_len i
  refine lv_aload_n hx hb dj_len_0 rfl (lv_at hl 0 rfl) ?_
  refine vk_getf hx hb g3 hS hown (hts _ jf_9) (fun _ h => h) dj_len_1 ?_
  refine va_tlen hx hb g4 hS (v := Int32.ofNat (strs.getD i []).length) rfl dj_len_4 ?_
  refine lv_aload_n hx hb dj_len_5 rfl (lv_at hl 0 rfl) ?_
  refine j_call (A := fun _ => False) (va_runV (As := []) (rest := [.int (Int32.ofNat (strs.getD i []).length)]) (b := ρ (901 + i)) (C := "java/lang/String") (n := 0) (cc := prog_16_method_54_code) (nL := 1) ⟨hx, hb, hml, hown, hts⟩ (jm_cod (L := L) (D := D) (aT := aT) (xs := xs) (ρ := ρ) i hi) ⟨j_cb hts jc_cod ji_cod jl_cod (by decide) (by decide +kernel) (by omega) (by omega), hts _ jw_cod, hts _ js_cod⟩ ⟨pj_blind, recv_O g1 hS, fun U hU hW => ⟨rfl, pj_at hSt' hS U hU hW⟩⟩ rfl rfl hl.1 rfl (lv_room (Nat.le_of_ble_eq_true rfl)) dj_len_6 ⟨Nat.zero_le _, Nat.zero_le _⟩) hS (fun H1 locs1 _ hS1 => ?_)
  refine lv_ishr (x := Int32.ofNat (strs.getD i []).length) (y := 0) hx hb dj_len_9 ?_
  refine W.iret (v := Int32.ofNat (strs.getD i []).length >>> ((0 : Int32) &&& 31)) hx hb hr (fun t ht hW => ⟨?_, hS1.F ht⟩) hS1.2.2 dj_len_10
  have e9 : Int32.ofNat (strs.getD i []).length >>> ((0 : Int32) &&& 31) = Int32.ofInt ((strs.getD i []).length : Int) := (sc_shr0 (n := (strs.getD i []).length) (by omega)).trans (i_ofNat _)
  rw [e9]
  rfl
theorem sh28 {L a : Nat} (h : (sh L a).1 = 28) : ∃ i, i < 5 ∧ a = 901 + i := by
  unfold sh at h
  by_cases e9 : a = 900
  · rw [if_pos e9] at h; exact absurd h (show ¬ (27 : Nat) = 28 by decide)
  · rw [if_neg e9] at h
    by_cases h2 : 901 ≤ a ∧ a < 906
    · exact ⟨a - 901, by omega, by omega⟩
    · rw [if_neg h2, List.getD_eq_getElem?_getD] at h
      exfalso
      match hq : shl[a]? with
      | none => rw [hq] at h; exact absurd h (by decide)
      | some q =>
        rw [hq] at h
        have h3 : shl.all (fun q => decide (q.1 ≠ 28)) = true := by decide +kernel
        exact of_decide_eq_true (List.all_eq_true.mp h3 q (List.mem_of_getElem? hq)) h
theorem Iv.same {w : Wd} {H1 : Heap} {locs1 : List Loc} (I : Iv L D aT xs s A ρ w H locs) (hk : ∀ q : Nat, q < H.size → H1[q]? = H[q]?) (hS : va_S A s.heap H1 locs1) : Iv L D aT xs s A ρ w H1 locs1 := ⟨fun k q hq => (I.1 k q hq).kept (hk q.1 (I.1 k q hq).lt), I.2.1, hS, I.2.2.2⟩
end JDK
set_option maxHeartbeats 1000000 in
theorem str_open (l : Launch) (L : Nat) (D : va_G) (aT : Nat → ClassId) (xs : Nat → Int32) : StrOpen l L D aT xs := by
  intro m p e R s mi args below meth c A ρ H locs cells slots lm Q pc idx a k ls rest w m' q v C hd hr I hl ha h8 hf hlo hce hsl hq K
  obtain ⟨hx, hb, hml, hown, hts, hin, hA, hS0⟩ := id C
  have hlk := rM_mem hr
  obtain ⟨i, hi, rfl⟩ := sh28 ha
  obtain ⟨v0, g1, g2, g3, g4⟩ := hS0.2.2.2.1 i hi
  have hroom : ((rest.map (eV ρ)).map fun v => v.category).sum ≤ 8 := by rw [tcats_sum]; exact h8
  rw [show 901 + i - 901 = i by omega] at hq
  rcases hq with ⟨rfl, rfl, rfl⟩ | ⟨rfl, j, rfl, h0, h1, rfl⟩
  · obtain ⟨k1, k2, k3, k4⟩ := hlk
    refine W.eq (g2 := F0 mi pc lm (Value.ref (ρ (901 + i)) :: rest.map (eV ρ))) (by rw [List.nil_append, List.map_cons, eVa (by omega)]) ?_
    refine j_call (A := A) (va_runV (As := []) (rest := rest.map (eV ρ)) (b := ρ (901 + i)) (C := "java/lang/String") (n := 0) (cc := m.2.2.2.1) (nL := m.2.2.2.2.1) ⟨hx, hb, hml, hown, hts⟩ (jm_len (L := L) (D := D) (aT := aT) (xs := xs) (ρ := ρ) i hi) ⟨j_cb hts jc_len ji_len k1 (by decide) (by decide +kernel) (by omega) (by omega), hts _ jw_len, hts _ js_len⟩ ⟨pj_blind, recv_O g1 I.2.2.1, fun U hU hW => ⟨rfl, pj_at hS0 I.2.2.1 U hU hW⟩⟩ rfl rfl hl.1.1 rfl (lv_room hroom) hd ⟨hce, hsl⟩) I.2.2.1 (fun H1 locs1 hk hS1 => ?_)
    exact K H1 locs1 (I.same hk hS1)
  · obtain ⟨k1, k2, k3, k4⟩ := hlk
    refine W.eq (g2 := F0 mi pc lm (Value.int (Int32.ofInt j) :: Value.ref (ρ (901 + i)) :: rest.map (eV ρ))) (by rw [List.cons_append, List.nil_append, List.map_cons, List.map_cons, eVa (by omega)]; rfl) ?_
    refine j_call (A := A) (va_runV (As := [.int (Int32.ofInt j)]) (rest := rest.map (eV ρ)) (b := ρ (901 + i)) (C := "java/lang/String") (n := 1) (cc := m.2.2.2.1) (nL := m.2.2.2.2.1) ⟨hx, hb, hml, hown, hts⟩ (jm_cat (L := L) (D := D) (aT := aT) (xs := xs) (ρ := ρ) i hi j h0 h1) ⟨j_cb hts jc_cat ji_cat k1 (by decide) (by decide +kernel) (by omega) (by omega), hts _ jw_cat, hts _ js_cat⟩ ⟨pj_blind, recv_O g1 I.2.2.1, fun U hU hW => ⟨rfl, pj_at hS0 I.2.2.1 U hU hW⟩⟩ rfl rfl hl.1.1 rfl (lv_room hroom) hd ⟨hce, hsl⟩) I.2.2.1 (fun H1 locs1 hk hS1 => ?_)
    exact K H1 locs1 (I.same hk hS1)
