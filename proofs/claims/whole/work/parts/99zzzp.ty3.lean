/-! the law's start: what the Statement gives of it; the room -/
theorem sh_top {L a : Nat} (h : (sh L a).1 ≤ 26) : a ≤ 184 := by
  have h9 := sh_small h
  unfold sh at h
  rw [if_neg (by omega), if_neg (by omega)] at h
  by_cases h3 : a < 185
  · omega
  · rw [List.getD_eq_getElem?_getD, List.getElem?_eq_none (by show 185 ≤ a; omega)] at h
    exact absurd h (by decide)
theorem zmna_top {L : Nat} {m : Mth} {idx pc pc' : Nat} {ls ls' : Lo} {st st' : List TV} {w w' : Wd} (h : zmna L m idx pc ls w st = some (.inl (pc', ls', st', w'))) : w'.1 = w.1 ∨ w'.1 ≤ 184 := by
  unfold zmna at h
  split at h
  · rename_i k n r
    split at h
    · rename_i kd hr
      obtain ⟨⟨hkd, hn0, hk0, hn1, hk1, hs1, hs2⟩, h3⟩ := if_some h
      cases h3
      refine Or.inr ?_
      show w.1 + (n.toNat + 1) ≤ 184
      by_cases hz : n.toNat = 0
      · have := sh_top (L := L) (a := w.1 + 1) (by rw [hs1]; show kd ≤ 26; omega)
        omega
      · have e2 : sh L (w.1 + 2 + (n.toNat - 1)) = (kd - 5, k.toNat) := of_decide_eq_true (List.all_eq_true.mp hs2 (n.toNat - 1) (List.mem_range.mpr (by omega)))
        have := sh_top (L := L) (a := w.1 + 2 + (n.toNat - 1)) (by rw [e2]; show kd - 5 ≤ 26; omega)
        omega
    · cases h
  · cases h
set_option maxHeartbeats 4000000 in
theorem stp_top {L : Nat} {m : Mth} {pc pc' : Nat} {ls ls' : Lo} {st st' : List TV} {w w' : Wd} (h : stp L m pc ls st w = some (.inl (pc', ls', st', w'))) : w'.1 = w.1 ∨ w'.1 ≤ 184 := by
  unfold stp at h
  split at h
  · cases h
  · rename_i i len hd
    cases i <;> dsimp only at h <;> first | (cases h; done) | skip
    case invokevirtual idx => exact Or.inl (zinv_nc (if_some h).2)
    case invokestatic idx => exact Or.inl (zinv_nc (if_some h).2)
    case invokespecial idx => exact Or.inl (zinv_nc (if_some h).2)
    case new idx =>
      have h2 := (if_some h).2
      split at h2
      · rename_i ci hr
        obtain ⟨⟨hc, hsh⟩, h3⟩ := if_some h2
        cases h3
        exact Or.inr (sh_top (L := L) (a := w.1 + 1) (by rw [hsh]; show ci ≤ 26; omega))
      · cases h2
    case newarray ty =>
      have h2 := (if_some h).2
      split at h2
      · rename_i k rst
        obtain ⟨⟨hk0, hk1, hk2, hsh⟩, h3⟩ := if_some h2
        cases h3
        refine Or.inr (sh_top (L := L) (a := w.1 + 1) ?_)
        rw [hsh]
        show zatyp ty ≤ 26
        cases ty <;> simp [zatyp] at hk2 ⊢
      · cases h2
    case anewarray idx =>
      have h2 := (if_some h).2
      split at h2
      · rename_i k rst
        obtain ⟨⟨hk0, hk1, hk2, hsh⟩, h3⟩ := if_some h2
        cases h3
        exact Or.inr (sh_top (L := L) (a := w.1 + 1) (by rw [hsh]; show 24 ≤ 26; omega))
      · cases h2
    case multianewarray idx dm =>
      match dm, h with
      | 2, h => exact zmna_top (if_some h).2
      | 0, h => cases h
      | 1, h => cases h
      | k + 3, h => cases h
    all_goals (first
      | (have h2 := (if_some h).2; first
        | (cases h2; exact Or.inl rfl)
        | (obtain ⟨_, _, _, _, q⟩ := zii_inv h2; cases q; exact Or.inl rfl)
        | (obtain ⟨_, _, _, _, q⟩ := zll_inv h2; cases q; exact Or.inl rfl)
        | (obtain ⟨_, _, _, _, q⟩ := zli_inv h2; cases q; exact Or.inl rfl)
        | (obtain ⟨_, _, _, _, _, q⟩ := ziid_inv h2; cases q; exact Or.inl rfl)
        | (obtain ⟨_, _, _, _, _, q⟩ := zlld_inv h2; cases q; exact Or.inl rfl)
        | (obtain ⟨_, _, _, q⟩ := zi_inv h2; cases q; exact Or.inl rfl)
        | (obtain ⟨_, _, q, _⟩ := zld_inv h2; cases q; exact Or.inl rfl)
        | (obtain ⟨_, _, q⟩ := zgo_inv h2; cases q; exact Or.inl rfl)
        | (obtain ⟨_, _, _, _, _, _, _, q⟩ := zget_inv h2; cases q; exact Or.inl rfl)
        | (obtain ⟨_, _, _, _, _, _, _, _, _, _, q, _⟩ := zput_inv h2; cases q; exact Or.inl rfl)
        | (obtain ⟨_, _, _, _, _, _, _, q⟩ := zald_inv h2; cases q; exact Or.inl rfl)
        | (obtain ⟨_, _, _, _, _, _, _, _, q, _⟩ := zast_inv h2; cases q; exact Or.inl rfl)
        | (unfold zst at h2; split at h2 <;> first | (cases h2; done) | (have h3 := (if_some h2).2; cases h3; exact Or.inl rfl))
        | (unfold zif at h2; split at h2 <;> first | (cases h2; done) | (have h3 := (if_some h2).2; split at h3 <;> (cases h3; exact Or.inl rfl)))
        | (unfold zicmp at h2; split at h2 <;> first | (cases h2; done) | (have h3 := (if_some h2).2; split at h3 <;> (cases h3; exact Or.inl rfl)))
        | (unfold zalen at h2; split at h2 <;> first | (cases h2; done) | (have h3 := (if_some h2).2; cases h3; exact Or.inl rfl))
        | (unfold zdupR at h2; split at h2 <;> first | (cases h2; done) | (cases h2; exact Or.inl rfl))
        | (split at h2 <;> first | (cases h2; done) | (cases h2; exact Or.inl rfl) | (have h3 := (if_some h2).2; cases h3; exact Or.inl rfl) | (obtain ⟨_, _, q⟩ := zsw_l _ h2; cases q; exact Or.inl rfl) | (rcases zsw_t _ _ h2 with ⟨_, _, _, q⟩ | ⟨_, _, _, _, _, _, q⟩ <;> (cases q; exact Or.inl rfl))))
      | skip)
    all_goals (have h2 := (if_some h).2; split at h2 <;> first | (cases h2; done) | (cases h2; exact Or.inl rfl) | (have h3 := (if_some h2).2; cases h3; done) | (have h3 := (if_some h2).2; cases h3; exact Or.inl rfl))
theorem mrun_top (L : Nat) : ∀ (n d : Nat) (m : Mth) (pc : Nat) (ls : Lo) (st : List TV) (w : Wd) (r : Option TV) (w' : Wd), mrun L n d m pc ls st w = some (r, w') → w.1 ≤ 184 → w'.1 ≤ 184 := by
  intro n
  induction n with
  | zero => intro d m pc ls st w r w' h; cases h
  | succ n ih =>
    intro d m pc ls st w r w' h hw
    rw [mrun] at h
    match hs : stp L m pc ls st w with
    | none => rw [hs] at h; cases h
    | some (.inl (pc', ls', st', w1)) =>
      rw [hs] at h
      refine ih _ _ _ _ _ _ _ _ h ?_
      rcases stp_top hs with q | q <;> omega
    | some (.inr (.inl r')) => rw [hs] at h; cases h; exact hw
    | some (.inr (.inr (m', as, rest))) =>
      rw [hs] at h
      cases d with
      | zero => cases h
      | succ d =>
        dsimp only at h
        match hc : mrun L n d m' 0 (lentry m'.2.2.2.2.1 as) [] w with
        | none => rw [hc] at h; cases h
        | some (r1, w1) =>
          rw [hc] at h
          exact ih _ _ _ _ _ _ _ _ h (ih _ _ _ _ _ _ _ _ hc hw)
theorem ssum_L (L : Nat) : ∀ n, n ≤ 184 → ssum L n = ssum 0 n := by
  intro n
  induction n with
  | zero => intro _; rfl
  | succ n ih =>
    intro h
    show ssum L n + (sh L (n + 1)).2 = ssum 0 n + (sh 0 (n + 1)).2
    rw [ih (by omega)]
    unfold sh
    rw [if_neg (by omega), if_neg (by omega), if_neg (by omega)]
theorem ssum_room : ssum 0 184 ≤ 7302250 := by decide +kernel
theorem ssum_184 {L n : Nat} (h : n ≤ 184) : ssum L n ≤ 7302250 := by
  rw [ssum_L L n h]
  exact Nat.le_trans (ssum_le 0 h) ssum_room
/-! arrays of arrays: the word of the tables -/
theorem over_arr {args : Array Value} {s : State} {t : FieldType} (h : (Cond.arrayOver (.array t)).before args s = true) :
    ∃ comp cA k, s.vm.findClass (FieldType.array t).toString = some comp ∧ s.vm.classes[cA]? = some k ∧ k.kind = .array comp (.array t) ∧ s.vm.findClass ("[" ++ (FieldType.array t).toString) = some cA := by
  have hv := eq_of_beq (show (_ == some true) = true from h)
  obtain ⟨comp, h1, hv⟩ := Option.bind_eq_some_iff.mp hv
  obtain ⟨cA, h2, hv⟩ := Option.bind_eq_some_iff.mp hv
  obtain ⟨k, h3, hv⟩ := Option.map_eq_some_iff.mp hv
  obtain ⟨_, h4, _⟩ := Array.findIdx?_eq_some_iff_getElem.mp h2
  rw [(Array.getElem?_eq_some_iff.mp h3).2] at h4
  refine ⟨comp, cA, k, h1, h3, ?_⟩
  match k.kind, h4, hv with
  | .array component ty, h4, hv =>
    have e1 : component = comp := eq_of_beq h4
    rw [Bool.and_eq_true] at hv
    have e2 : ty = .array t := of_decide_eq_true hv.1
    exact ⟨by rw [e1, e2], of_decide_eq_true hv.2⟩
/-! the literals: the Statement's words of them -/
def litT (i : Nat) : Term := .string (strk.getD i ("", 0, "")).1 (strk.getD i ("", 0, "")).2.1
def litB (i : Nat) : List Int32 := (strs.getD i []).map Int32.ofInt
def litW (i : Nat) : List Cond := .exactly (litT i) "java/lang/String" :: .eq (.field (litT i) "java/lang/String" "coder" "B") (.int 0) :: .arrayOf (.field (litT i) "java/lang/String" "value" "[B") .byte :: .eq (.length (.field (litT i) "java/lang/String" "value" "[B")) (.int (Int32.ofNat (litB i).length)) :: (List.range (litB i).length).map (fun j => Cond.eq (.elem (.field (litT i) "java/lang/String" "value" "[B") (.int (Int32.ofNat j))) (.int ((litB i).getD j 0)))
theorem lit_at {i k n : Nat} (h : ((flatC (Jvm.Cond.and given_1 narrow_1)).drop k).take n = litW i) : ∀ w ∈ litW i, w ∈ flatC (Jvm.Cond.and given_1 narrow_1) := by
  intro w hw
  rw [← h] at hw
  exact List.mem_of_mem_drop (List.mem_of_mem_take hw)
theorem lit_0 : ((flatC (Jvm.Cond.and given_1 narrow_1)).drop 9).take 16 = litW 0 := by decide +kernel
theorem lit_1 : ((flatC (Jvm.Cond.and given_1 narrow_1)).drop 25).take 136 = litW 1 := by decide +kernel
theorem lit_2 : ((flatC (Jvm.Cond.and given_1 narrow_1)).drop 162).take 136 = litW 2 := by decide +kernel
theorem lit_3 : ((flatC (Jvm.Cond.and given_1 narrow_1)).drop 300).take 16 = litW 3 := by decide +kernel
theorem lit_4 : ((flatC (Jvm.Cond.and given_1 narrow_1)).drop 319).take 110 = litW 4 := by decide +kernel
theorem lit_all : ∀ i, i < 5 → ∀ w ∈ litW i, w ∈ flatC (Jvm.Cond.and given_1 narrow_1)
  | 0, _ => lit_at lit_0
  | 1, _ => lit_at lit_1
  | 2, _ => lit_at lit_2
  | 3, _ => lit_at lit_3
  | 4, _ => lit_at lit_4
  | n + 5, h => by omega
theorem litB_at (i j : Nat) : (litB i).getD j 0 = Int32.ofInt ((strs.getD i []).getD j 0) := by
  unfold litB
  rw [List.getD_eq_getElem?_getD, List.getElem?_map, List.getD_eq_getElem?_getD (l := strs.getD i [])]
  cases (strs.getD i [])[j]? <;> rfl
theorem litB_len (i : Nat) : (litB i).length = (strs.getD i []).length := List.length_map ..
theorem gv_4 : Cond.eq (.static "java/lang/String" "COMPACT_STRINGS" "Z") (.int 1) ∈ flatC (Jvm.Cond.and given_1 narrow_1) := List.mem_of_mem_drop (i := 4) (List.mem_of_mem_take (i := 1) (by decide +kernel))
theorem gv_5 : Cond.isRef (.static "jdk/internal/util/Preconditions" "SIOOBE_FORMATTER" "Ljava/util/function/BiFunction;") ∈ flatC (Jvm.Cond.and given_1 narrow_1) := List.mem_of_mem_drop (i := 5) (List.mem_of_mem_take (i := 1) (by decide +kernel))
theorem sr_all : ∀ (i : Nat) (q : String × Nat × String), strk[i]? = some q → Cond.stringRef q.1 q.2.1 q.2.2 ∈ lw_tbl
  | 0, q, h => by
    have e := Option.some.inj (show some (strk.getD 0 ("", 0, "")) = some q from h)
    rw [← e]
    exact tb_2 138 rfl
  | 1, q, h => by
    have e := Option.some.inj (show some (strk.getD 1 ("", 0, "")) = some q from h)
    rw [← e]
    exact tb_2 204 rfl
  | 2, q, h => by
    have e := Option.some.inj (show some (strk.getD 2 ("", 0, "")) = some q from h)
    rw [← e]
    exact tb_3 226 rfl
  | 3, q, h => by
    have e := Option.some.inj (show some (strk.getD 3 ("", 0, "")) = some q from h)
    rw [← e]
    exact tb_3 234 rfl
  | 4, q, h => by
    have e := Option.some.inj (show some (strk.getD 4 ("", 0, "")) = some q from h)
    rw [← e]
    exact tb_7 10 rfl
  | n + 5, q, h => by
    rw [List.getElem?_eq_none (by show 5 ≤ n + 5; omega)] at h
    cases h
theorem tw_20 : Cond.arrayClass .int ∈ lw_tbl := gd_tbl acl_int
theorem tw_24 : Cond.arrayOver (.object (cnm 1)) ∈ lw_tbl := tb_1 30 rfl
theorem tw_25 : Cond.arrayOver (.array .int) ∈ lw_tbl := tb_1 151 rfl
theorem tw_26 : Cond.arrayOver (.array .long) ∈ lw_tbl := tb_1 173 rfl
theorem tw_cs : Cond.laysStatic "java/lang/String" "COMPACT_STRINGS" "Z" ∈ lw_tbl := tb_2 148 rfl
theorem tw_sf : Cond.laysStatic "jdk/internal/util/Preconditions" "SIOOBE_FORMATTER" "Ljava/util/function/BiFunction;" ∈ lw_tbl := tb_2 164 rfl
section LIT
variable {s : State} {args : Array Value} {A : Nat → Prop}
theorem lit_of (hgv : (Jvm.Cond.and given_1 narrow_1).before args s = true) (hA : ∀ a : Nat, a < s.heap.size → ¬ A a) (i : Nat) (hi : i < 5) : ∃ q : Nat, (litT i).eval args s none [] s = some (.ref q) ∧ ∃ v : Nat, va_O "java/lang/String" q A s s.heap ∧ va_OF "java/lang/String" "coder" "B" (.int 0) q A s s.heap ∧ va_OF "java/lang/String" "value" "[B" (.ref v) q A s s.heap ∧ va_T .byte v (strs.getD i []).length (fun j => .int (Int32.ofInt ((strs.getD i []).getD j 0))) A s s.heap := by
  have hfl : ∀ w ∈ litW i, w.before args s = true := fun w hw => flat_of_before _ hgv w (lit_all i hi w hw)
  have hlen := strs_len i
  obtain ⟨adK, adV, hS, hev⟩ := vk_Sof (args := args) (s := s) (N := 1) (tm := fun _ => litT i) (len := [(litB i).length]) (byt := [litB i]) (A := A)
    (fun k hk => by
      have : k = 0 := by omega
      subst this
      show (litB i).length < 2 ^ 31
      rw [litB_len]
      omega)
    (fun k _ => hfl _ List.mem_cons_self)
    (fun k _ => hfl _ (List.mem_cons_of_mem _ List.mem_cons_self))
    (fun k _ => hfl _ (List.mem_cons_of_mem _ (List.mem_cons_of_mem _ List.mem_cons_self)))
    (fun k hk => by
      have : k = 0 := by omega
      subst this
      exact hfl _ (List.mem_cons_of_mem _ (List.mem_cons_of_mem _ (List.mem_cons_of_mem _ List.mem_cons_self))))
    (fun k hk j hj => by
      have : k = 0 := by omega
      subst this
      exact hfl _ (List.mem_cons_of_mem _ (List.mem_cons_of_mem _ (List.mem_cons_of_mem _ (List.mem_cons_of_mem _ (List.mem_map.mpr ⟨j, List.mem_range.mpr hj, rfl⟩))))))
    (fun k j hk hj hkj => absurd (show k = j by omega) hkj) hA
  obtain ⟨q1, q2, q3, q4⟩ := hS.1 0 (by omega)
  refine ⟨adK 0, hev 0 (by omega), adV 0, q1, q2, q3, ?_⟩
  have q5 : va_T .byte (adV 0) (litB i).length (fun j => .int ((litB i).getD j 0)) A s s.heap := q4
  have e : (fun j => Value.int ((litB i).getD j 0)) = fun j => Value.int (Int32.ofInt ((strs.getD i []).getD j 0)) := by
    funext j
    rw [litB_at]
  rw [litB_len, e] at q5
  exact q5
end LIT
set_option maxHeartbeats 2000000 in
theorem start_stat {s : State} {b L : Nat} {xs : Nat → Int32} (hts : ∀ w ∈ lw_tbl, w.before #[Value.ref b] s = true) (hX : va_X b L xs s s.heap) (hbl : b < s.heap.size) (hgv : (Jvm.Cond.and given_1 narrow_1).before #[Value.ref b] s = true) : ∃ (D : va_G) (aT : Nat → ClassId) (ρ : Nat → Nat), ρ 900 = b ∧ sStat L D aT xs ρ (fun q => s.heap.size ≤ q) s s.heap := by
  have hnA : ∀ a : Nat, a < s.heap.size → ¬ (fun q => s.heap.size ≤ q) a := fun a h => Nat.not_le.mpr h
  have htg : ∀ w ∈ Gd, w.before #[Value.ref b] s = true := fun w hw => hts w (gd_tbl hw)
  have hD : ∀ ci : Nat, ∃ q : ClassId × (Nat → Nat), ci < 12 → u_Kn s (cnm ci) (FTs ci) (fcount ci) q.1 q.2 := by
    intro ci
    by_cases h : ci < 12
    · obtain ⟨cC, iS, hK⟩ := u_known (C := cnm ci) (T := FTs ci) (N := fcount ci) (n := fcount ci) htg (uws_all ci h) (htg _ (ins_all ci h).1)
      exact ⟨(cC, iS), fun _ => hK⟩
    · exact ⟨(0, fun _ => 0), fun h2 => absurd h2 h⟩
  obtain ⟨fD, hfD⟩ := Classical.axiomOfChoice hD
  have hlit : ∀ i : Nat, ∃ q : Nat, i < 5 → (litT i).eval #[Value.ref b] s none [] s = some (.ref q) ∧ ∃ v : Nat, va_O "java/lang/String" q (fun q => s.heap.size ≤ q) s s.heap ∧ va_OF "java/lang/String" "coder" "B" (.int 0) q (fun q => s.heap.size ≤ q) s s.heap ∧ va_OF "java/lang/String" "value" "[B" (.ref v) q (fun q => s.heap.size ≤ q) s s.heap ∧ va_T .byte v (strs.getD i []).length (fun j => .int (Int32.ofInt ((strs.getD i []).getD j 0))) (fun q => s.heap.size ≤ q) s s.heap := by
    intro i
    by_cases h : i < 5
    · obtain ⟨q, hq⟩ := lit_of (A := fun q => s.heap.size ≤ q) hgv hnA i h
      exact ⟨q, fun _ => hq⟩
    · exact ⟨0, fun h2 => absurd h2 h⟩
  obtain ⟨fK, hfK⟩ := Classical.axiomOfChoice hlit
  obtain ⟨c20, k20, e20, f20, g20, t20⟩ := Cond.arrayClass_spec (htg _ acl_int)
  obtain ⟨c21, k21, e21, f21, g21, t21⟩ := Cond.arrayClass_spec (htg _ acl_long)
  obtain ⟨c22, k22, e22, f22, g22, t22⟩ := Cond.arrayClass_spec (htg _ acl_byte)
  obtain ⟨c23, k23, e23, f23, g23, t23⟩ := Cond.arrayClass_spec (htg _ acl_boolean)
  obtain ⟨e24, c24, k24, o24, _, g24, t24, f24⟩ := Cond.arrayOver_spec (hts _ tw_24)
  obtain ⟨e25, c25, k25, o25, g25, t25, f25⟩ := over_arr (hts _ tw_25)
  obtain ⟨e26, c26, k26, o26, g26, t26, f26⟩ := over_arr (hts _ tw_26)
  have h20 : e25 = c20 := Option.some.inj (o25.symm.trans f20)
  have h21 : e26 = c21 := Option.some.inj (o26.symm.trans f21)
  subst h20
  subst h21
  refine ⟨(fun ci => (fD ci).1, fun ci => (fD ci).2), fun k => if k = 20 then e25 else if k = 21 then e26 else if k = 22 then c22 else if k = 23 then c23 else if k = 24 then c24 else if k = 25 then c25 else c26, fun a => if a = 900 then b else fK (a - 901), rfl, ?_⟩
  refine ⟨⟨?_, ?_⟩, fun a i y h hw => va_Nw.of rfl (hts _ hw), ⟨va_AO.of (hts _ tw_24), ⟨k25, g25, t25⟩, ⟨k26, g26, t26⟩⟩, ?_, ?_, hX, hbl, hnA b hbl, va_Zof (hts _ tw_cs) (htg _ ji_len) (va_eqi (flat_of_before _ hgv _ gv_4)) hnA, va_Zqof (hts _ tw_sf) (htg _ ji_pre) (flat_of_before _ hgv _ gv_5) hnA⟩
  · intro ci q hq
    have hlt : ci < 12 := (List.getElem?_eq_some_iff.mp hq).1
    rw [cls_at ci hlt] at hq
    cases hq
    exact hfD ci hlt
  · intro k q hq
    match k, hq with
    | 0, hq => have e := Option.some.inj hq; subst e; exact ⟨fun n z => ⟨fun k h => (by cases h), k20, g20, e20, t20⟩, f20⟩
    | 1, hq => have e := Option.some.inj hq; subst e; exact ⟨fun n z => ⟨fun k h => (by cases h), k21, g21, e21, t21⟩, f21⟩
    | 2, hq => have e := Option.some.inj hq; subst e; exact ⟨fun n z => ⟨fun k h => (by cases h), k22, g22, e22, t22⟩, f22⟩
    | 3, hq => have e := Option.some.inj hq; subst e; exact ⟨fun n z => ⟨fun k h => (by cases h), k23, g23, e23, t23⟩, f23⟩
    | 4, hq => have e := Option.some.inj hq; subst e; exact ⟨fun n z => ⟨fun k h => (by cases h), k24, g24, e24, t24⟩, k24, e24, g24, t24, o24, f24⟩
    | 5, hq => have e := Option.some.inj hq; subst e; exact ⟨fun n z => ⟨fun k h => (by cases h), k25, g25, _, t25⟩, f25⟩
    | 6, hq => have e := Option.some.inj hq; subst e; exact ⟨fun n z => ⟨fun k h => (by cases h), k26, g26, _, t26⟩, f26⟩
    | k + 7, hq => rw [List.getElem?_eq_none (by show 7 ≤ k + 7; omega)] at hq; cases hq
  · intro i hi
    obtain ⟨v, hv⟩ := (hfK i hi).2
    refine ⟨v, ?_⟩
    show va_O _ (if 901 + i = 900 then b else fK (901 + i - 901)) _ s s.heap ∧ va_OF _ _ _ _ (if 901 + i = 900 then b else fK (901 + i - 901)) _ s s.heap ∧ va_OF _ _ _ _ (if 901 + i = 900 then b else fK (901 + i - 901)) _ s s.heap ∧ _
    rw [if_neg (by omega), show 901 + i - 901 = i by omega]
    exact hv
  · intro i q hq
    have hlt : i < 5 := (List.getElem?_eq_some_iff.mp hq).1
    have e1 := (hfK i hlt).1
    have e2 : litT i = .string q.1 q.2.1 := by
      unfold litT
      rw [List.getD_eq_getElem?_getD, hq]
      rfl
    rw [e2] at e1
    show vk_R q.1 q.2.1 q.2.2 (if 901 + i = 900 then b else fK (901 + i - 901)) s
    rw [if_neg (by omega), show 901 + i - 901 = i by omega]
    exact vk_R.of (hts _ (sr_all i q hq)) e1
