/-! THE SMALL MACHINE AND THE MACHINE: how values, cells and locals of the one stand for those of the other -/
def eV (ρ : Nat → Nat) : TV → Value
  | .inl x => .int (Int32.ofInt x)
  | .inr (.inl x) => .long (Int64.ofInt x)
  | .inr (.inr a) => if a = 0 then .null else .ref (ρ a)
def okV (nc : Nat) : TV → Prop
  | .inl x => -2147483648 ≤ x ∧ x < 2147483648
  | .inr (.inl x) => -9223372036854775808 ≤ x ∧ x < 9223372036854775808
  | .inr (.inr a) => a ≤ nc ∨ 900 ≤ a
/-- the type of a slot of an array -/
def aty (k : Nat) : Nat := if k = 21 then 1 else if k = 24 ∨ k = 25 ∨ k = 26 then 3 else 0
def eA (ρ : Nat → Nat) (k : Nat) (f : Nat → Int) : (Nat → Int32) ⊕ (Nat → Int64) ⊕ (Nat → UInt32) ⊕ (Nat → UInt64) ⊕ (Nat → Option Nat) :=
  if k = 21 then .inr (.inl (fun j => Int64.ofInt (f j))) else if k = 24 ∨ k = 25 ∨ k = 26 then .inr (.inr (.inr (.inr (fun j => if (f j).toNat = 0 then none else some (ρ (f j).toNat))))) else .inl (fun j => Int32.ofInt (f j))
def eC (L : Nat) (aT : Nat → ClassId) (ρ : Nat → Nat) (mem : Mem) (a : Nat) : va_E :=
  if (sh L a).1 < 12 then .inr ((sh L a).1, (List.range (fcount (sh L a).1)).map (fun k => eV ρ (ztyp (fty (sh L a).1 k) (mem a k)))) else .inl (aT (sh L a).1, (sh L a).2, eA ρ (sh L a).1 (mem a))
def eW (L : Nat) (aT : Nat → ClassId) (ρ : Nat → Nat) (w : Wd) : va_W := (List.range w.1).map (fun i => (ρ (i + 1), eC L aT ρ w.2 (i + 1)))
/-- every slot holds what its type may -/
def okM (L : Nat) (w : Wd) : Prop := ∀ a, 1 ≤ a → a ≤ w.1 → (((sh L a).1 < 12 → ∀ k, k < fcount (sh L a).1 → okV w.1 (ztyp (fty (sh L a).1 k) (w.2 a k))) ∧ (¬ (sh L a).1 < 12 → ∀ k, okV w.1 (ztyp (aty (sh L a).1) (w.2 a k))))
theorem w32_ofInt (x : Int) : Int32.ofInt (w32 x) = Int32.ofInt x := by
  apply Int32.toInt_inj.mp
  rw [Int32.toInt_ofInt, Int32.toInt_ofInt]
  show Int.bmod (Int.bmod x 4294967296) 4294967296 = Int.bmod x 4294967296
  exact Int.bmod_bmod
theorem w64_ofInt (x : Int) : Int64.ofInt (w64 x) = Int64.ofInt x := by
  apply Int64.toInt_inj.mp
  rw [Int64.toInt_ofInt, Int64.toInt_ofInt]
  show Int.bmod (Int.bmod x 18446744073709551616) 18446744073709551616 = Int.bmod x 18446744073709551616
  exact Int.bmod_bmod
theorem w32_ok (x : Int) : -2147483648 ≤ w32 x ∧ w32 x < 2147483648 := by
  unfold w32
  have h1 := Int.le_bmod (x := x) (m := 4294967296) (by decide)
  have h2 := Int.bmod_lt (x := x) (m := 4294967296) (by decide)
  constructor <;> omega
theorem w64_ok (x : Int) : -9223372036854775808 ≤ w64 x ∧ w64 x < 9223372036854775808 := by
  unfold w64
  have h1 := Int.le_bmod (x := x) (m := 18446744073709551616) (by decide)
  have h2 := Int.bmod_lt (x := x) (m := 18446744073709551616) (by decide)
  constructor <;> omega
theorem i32_toInt (v : Int32) : -2147483648 ≤ v.toInt ∧ v.toInt < 2147483648 := by
  have h1 := Int32.le_toInt v
  have h2 := Int32.toInt_lt v
  constructor <;> omega
theorem i64_toInt (v : Int64) : -9223372036854775808 ≤ v.toInt ∧ v.toInt < 9223372036854775808 := by
  have h1 := Int64.le_toInt v
  have h2 := Int64.toInt_lt v
  constructor <;> omega
theorem o32_toInt {x : Int} (h : -2147483648 ≤ x ∧ x < 2147483648) : (Int32.ofInt x).toInt = x := Int32.toInt_ofInt_of_le (by omega) (by omega)
theorem o64_toInt {x : Int} (h : -9223372036854775808 ≤ x ∧ x < 9223372036854775808) : (Int64.ofInt x).toInt = x := Int64.toInt_ofInt_of_le (by omega) (by omega)
theorem o32_inj {x y : Int} (hx : -2147483648 ≤ x ∧ x < 2147483648) (hy : -2147483648 ≤ y ∧ y < 2147483648) : Int32.ofInt x = Int32.ofInt y ↔ x = y := by
  rw [← Int32.toInt_inj, o32_toInt hx, o32_toInt hy]
theorem o32_lt {x y : Int} (hx : -2147483648 ≤ x ∧ x < 2147483648) (hy : -2147483648 ≤ y ∧ y < 2147483648) : Int32.ofInt x < Int32.ofInt y ↔ x < y := by
  rw [Int32.lt_iff_toInt_lt, o32_toInt hx, o32_toInt hy]
theorem o32_le {x y : Int} (hx : -2147483648 ≤ x ∧ x < 2147483648) (hy : -2147483648 ≤ y ∧ y < 2147483648) : Int32.ofInt x ≤ Int32.ofInt y ↔ x ≤ y := by
  rw [Int32.le_iff_toInt_le, o32_toInt hx, o32_toInt hy]
theorem o64_inj {x y : Int} (hx : -9223372036854775808 ≤ x ∧ x < 9223372036854775808) (hy : -9223372036854775808 ≤ y ∧ y < 9223372036854775808) : Int64.ofInt x = Int64.ofInt y ↔ x = y := by
  rw [← Int64.toInt_inj, o64_toInt hx, o64_toInt hy]
theorem o64_lt {x y : Int} (hx : -9223372036854775808 ≤ x ∧ x < 9223372036854775808) (hy : -9223372036854775808 ≤ y ∧ y < 9223372036854775808) : Int64.ofInt x < Int64.ofInt y ↔ x < y := by
  rw [Int64.lt_iff_toInt_lt, o64_toInt hx, o64_toInt hy]
theorem o32_of (f : Int32 → Int32 → Int32) (x y : Int) : Int32.ofInt (o32 f x y) = f (Int32.ofInt x) (Int32.ofInt y) := Int32.ofInt_toInt _
theorem o64_of (f : Int64 → Int64 → Int64) (x y : Int) : Int64.ofInt (o64 f x y) = f (Int64.ofInt x) (Int64.ofInt y) := Int64.ofInt_toInt _
theorem h64_of (f : Int64 → Int32 → Int64) (x y : Int) : Int64.ofInt (h64 f x y) = f (Int64.ofInt x) (Int32.ofInt y) := Int64.ofInt_toInt _
theorem i_add (x y : Int) : Int32.ofInt (w32 (x + y)) = Int32.ofInt x + Int32.ofInt y := by rw [w32_ofInt, Int32.ofInt_add]
theorem i_sub (x y : Int) : Int32.ofInt (w32 (x - y)) = Int32.ofInt x - Int32.ofInt y := by rw [w32_ofInt, Int32.ofInt_sub]
theorem i_mul (x y : Int) : Int32.ofInt (w32 (x * y)) = Int32.ofInt x * Int32.ofInt y := by rw [w32_ofInt, Int32.ofInt_mul]
theorem i_neg (x : Int) : Int32.ofInt (w32 (-x)) = -Int32.ofInt x := by rw [w32_ofInt, Int32.ofInt_neg]
theorem l_add (x y : Int) : Int64.ofInt (w64 (x + y)) = Int64.ofInt x + Int64.ofInt y := by rw [w64_ofInt, Int64.ofInt_add]
theorem l_sub (x y : Int) : Int64.ofInt (w64 (x - y)) = Int64.ofInt x - Int64.ofInt y := by rw [w64_ofInt, Int64.ofInt_sub]
theorem l_mul (x y : Int) : Int64.ofInt (w64 (x * y)) = Int64.ofInt x * Int64.ofInt y := by rw [w64_ofInt, Int64.ofInt_mul]
theorem l_neg (x : Int) : Int64.ofInt (w64 (-x)) = -Int64.ofInt x := by rw [w64_ofInt, Int64.ofInt_neg]
theorem i_div {x y : Int} (hx : -2147483648 ≤ x ∧ x < 2147483648) (hy : -2147483648 ≤ y ∧ y < 2147483648) : Int32.ofInt (w32 (x.tdiv y)) = Int32.ofInt x / Int32.ofInt y := by
  apply Int32.toInt_inj.mp
  rw [w32_ofInt, Int32.toInt_ofInt, Int32.toInt_div, o32_toInt hx, o32_toInt hy]
theorem l_div {x y : Int} (hx : -9223372036854775808 ≤ x ∧ x < 9223372036854775808) (hy : -9223372036854775808 ≤ y ∧ y < 9223372036854775808) : Int64.ofInt (w64 (x.tdiv y)) = Int64.ofInt x / Int64.ofInt y := by
  apply Int64.toInt_inj.mp
  rw [w64_ofInt, Int64.toInt_ofInt, Int64.toInt_div, o64_toInt hx, o64_toInt hy]
theorem i_rem {x y : Int} (hx : -2147483648 ≤ x ∧ x < 2147483648) (hy : -2147483648 ≤ y ∧ y < 2147483648) : Int32.ofInt (x.tmod y) = Int32.ofInt x - Int32.ofInt x / Int32.ofInt y * Int32.ofInt y := by
  rw [← i_div hx hy, ← i_mul, ← i_sub]
  apply Int32.toInt_inj.mp
  rw [w32_ofInt, Int32.toInt_ofInt, Int32.toInt_ofInt]
  have h : x.tmod y = x - x.tdiv y * y := by have := Int.tmod_add_tdiv_mul x y; omega
  rw [h]
  show Int.bmod _ 4294967296 = Int.bmod _ 4294967296
  unfold w32
  have e : ((x.tdiv y).bmod 4294967296 * y).bmod 4294967296 = (x.tdiv y * y).bmod 4294967296 := Int.bmod_mul_bmod
  rw [Int.sub_bmod_bmod]
  conv => rhs; rw [← Int.sub_bmod_bmod, e, Int.sub_bmod_bmod]
theorem l_rem {x y : Int} (hx : -9223372036854775808 ≤ x ∧ x < 9223372036854775808) (hy : -9223372036854775808 ≤ y ∧ y < 9223372036854775808) : Int64.ofInt (x.tmod y) = Int64.ofInt x - Int64.ofInt x / Int64.ofInt y * Int64.ofInt y := by
  rw [← l_div hx hy, ← l_mul, ← l_sub]
  apply Int64.toInt_inj.mp
  rw [w64_ofInt, Int64.toInt_ofInt, Int64.toInt_ofInt]
  have h : x.tmod y = x - x.tdiv y * y := by have := Int.tmod_add_tdiv_mul x y; omega
  rw [h]
  show Int.bmod _ 18446744073709551616 = Int.bmod _ 18446744073709551616
  unfold w64
  have e : ((x.tdiv y).bmod 18446744073709551616 * y).bmod 18446744073709551616 = (x.tdiv y * y).bmod 18446744073709551616 := Int.bmod_mul_bmod
  rw [Int.sub_bmod_bmod]
  conv => rhs; rw [← Int.sub_bmod_bmod, e, Int.sub_bmod_bmod]
theorem i_i2b {x : Int} (hx : -2147483648 ≤ x ∧ x < 2147483648) : (Int32.ofInt x).toInt8.toInt32 = Int32.ofInt (x.bmod 256) := by
  apply Int32.toInt_inj.mp
  have h1 := Int.le_bmod (x := x) (m := 256) (by decide)
  have h2 := Int.bmod_lt (x := x) (m := 256) (by decide)
  rw [o32_toInt (by omega), Int8.toInt_toInt32, Int32.toInt_toInt8, o32_toInt hx]
theorem i_i2s {x : Int} (hx : -2147483648 ≤ x ∧ x < 2147483648) : (Int32.ofInt x).toInt16.toInt32 = Int32.ofInt (x.bmod 65536) := by
  apply Int32.toInt_inj.mp
  have h1 := Int.le_bmod (x := x) (m := 65536) (by decide)
  have h2 := Int.bmod_lt (x := x) (m := 65536) (by decide)
  rw [o32_toInt (by omega), Int16.toInt_toInt32, Int32.toInt_toInt16, o32_toInt hx]
theorem i_i2l {x : Int} (hx : -2147483648 ≤ x ∧ x < 2147483648) : (Int32.ofInt x).toInt64 = Int64.ofInt x := by
  apply Int64.toInt_inj.mp
  rw [Int32.toInt_toInt64, o32_toInt hx, o64_toInt (by omega)]
theorem i_l2i {x : Int} (hx : -9223372036854775808 ≤ x ∧ x < 9223372036854775808) : (Int64.ofInt x).toInt32 = Int32.ofInt (w32 x) := by
  apply Int32.toInt_inj.mp
  rw [w32_ofInt, Int64.toInt_toInt32, o64_toInt hx, Int32.toInt_ofInt]
theorem i_clamp {x : Int} (hx : 0 ≤ x ∧ x < 2147483648) : (Int32.ofInt x).toNatClampNeg = x.toNat := by
  unfold Int32.toNatClampNeg
  rw [o32_toInt (by omega)]
theorem i_in {x : Int} {n : Nat} (hx : 0 ≤ x ∧ x < (n : Int)) (hn : n ≤ 2147483647) : vp_in (Int32.ofInt x) n := by
  rw [vp_in_iff, o32_toInt (by omega)]
  exact hx
theorem i_ofNat (n : Nat) : Int32.ofNat n = Int32.ofInt (n : Int) := by
  rfl
-- locals
/-- the locals that are known, as pairs -/
def lvl (ρ : Nat → Nat) (ls : Lo) : List (Nat × Value) := (List.range ls.length).filterMap (fun i => match ls[i]? with
  | some (some v) => some (i, eV ρ v)
  | _ => none)
theorem lvl_mem {ρ : Nat → Nat} {ls : Lo} {q : Nat × Value} : q ∈ lvl ρ ls ↔ ∃ v, ls[q.1]? = some (some v) ∧ q.2 = eV ρ v := by
  unfold lvl
  rw [List.mem_filterMap]
  constructor
  · rintro ⟨i, -, h⟩
    match hl : ls[i]? with
    | some (some v) => rw [hl] at h; cases h; exact ⟨v, hl, rfl⟩
    | some none => rw [hl] at h; cases h
    | none => rw [hl] at h; cases h
  · rintro ⟨v, h1, h2⟩
    refine ⟨q.1, List.mem_range.mpr (List.getElem?_eq_some_iff.mp h1).1, ?_⟩
    rw [h1]
    show some (q.1, eV ρ v) = some q
    rw [← h2]
theorem lv_mono {lm : Array Slot} {n : Nat} {l l' : List (Nat × Value)} (h : lv_has lm n l) (hs : ∀ q ∈ l', q ∈ l) : lv_has lm n l' := ⟨h.1, h.2.1, fun q hq => h.2.2 q (hs q hq)⟩
theorem lvl_at {ρ : Nat → Nat} {ls : Lo} {lm : Array Slot} {n i : Nat} {v : TV} (h : lv_has lm n (lvl ρ ls)) (hv : ls[i]? = some (some v)) : lm[i]? = some (.val (eV ρ v)) := h.2.2 (i, eV ρ v) (lvl_mem.mpr ⟨v, hv, rfl⟩)
theorem eV_cat (ρ : Nat → Nat) (v : TV) : (eV ρ v).category = tcat v := by
  match v with
  | .inl x => rfl
  | .inr (.inl x) => rfl
  | .inr (.inr a) => unfold eV tcat; by_cases h : a = 0 <;> simp [h, Value.category]
theorem lkill_len (ls : Lo) (i : Nat) : (lkill ls i).length = ls.length := by
  cases i with
  | zero => rfl
  | succ j => rw [lkill]; split
              · exact List.length_set
              · rfl
theorem lput1_len (ls : Lo) (i : Nat) (v : TV) : (lput1 ls i v).length = ls.length := by unfold lput1; rw [List.length_set, lkill_len]
theorem lput2_len (ls : Lo) (i : Nat) (v : TV) : (lput2 ls i v).length = ls.length := by unfold lput2; rw [List.length_set, List.length_set, lkill_len]
/-- what the killing leaves, was there, and is no long that ends at i -/
theorem lkill_get {ls : Lo} {i j : Nat} {u : TV} (h : (lkill ls i)[j]? = some (some u)) : ls[j]? = some (some u) ∧ ¬ (j + 1 = i ∧ tcat u = 2) := by
  cases i with
  | zero => exact ⟨h, fun q => by omega⟩
  | succ i =>
    rw [lkill] at h
    match hk : ls[i]? with
    | some (some (.inr (.inl x))) =>
      rw [hk] at h
      dsimp only at h
      by_cases e : j = i
      · subst e
        rw [List.getElem?_set_self (List.getElem?_eq_some_iff.mp hk).1] at h
        cases h
      · rw [List.getElem?_set_ne (Ne.symm e)] at h
        exact ⟨h, fun q => e (by omega)⟩
    | some (some (.inl x)) =>
      rw [hk] at h
      refine ⟨h, fun q => ?_⟩
      have e : j = i := by omega
      subst e
      have h2 := hk.symm.trans h
      cases h2
      exact absurd q.2 (by simp [tcat])
    | some (some (.inr (.inr x))) =>
      rw [hk] at h
      refine ⟨h, fun q => ?_⟩
      have e : j = i := by omega
      subst e
      have h2 := hk.symm.trans h
      cases h2
      exact absurd q.2 (by simp [tcat])
    | some none =>
      rw [hk] at h
      refine ⟨h, fun q => ?_⟩
      have e : j = i := by omega
      subst e
      have h2 := hk.symm.trans h
      cases h2
    | none =>
      rw [hk] at h
      refine ⟨h, fun q => ?_⟩
      have e : j = i := by omega
      subst e
      have h2 := hk.symm.trans h
      cases h2
theorem lput1_get {ls : Lo} {i j : Nat} {v u : TV} (h : (lput1 ls i v)[j]? = some (some u)) : (j = i ∧ u = v) ∨ (j ≠ i ∧ ls[j]? = some (some u) ∧ ¬ (j + 1 = i ∧ tcat u = 2)) := by
  unfold lput1 at h
  by_cases e : j = i
  · subst e
    have hl : j < (lkill ls j).length := by
      have := (List.getElem?_eq_some_iff.mp h).1
      rwa [List.length_set] at this
    rw [List.getElem?_set_self hl] at h
    cases h
    exact Or.inl ⟨rfl, rfl⟩
  · rw [List.getElem?_set_ne (Ne.symm e)] at h
    exact Or.inr ⟨e, lkill_get h⟩
theorem lput2_get {ls : Lo} {i j : Nat} {v u : TV} (h : (lput2 ls i v)[j]? = some (some u)) : (j = i ∧ u = v) ∨ (j ≠ i ∧ j ≠ i + 1 ∧ ls[j]? = some (some u) ∧ ¬ (j + 1 = i ∧ tcat u = 2)) := by
  unfold lput2 at h
  by_cases e2 : j = i + 1
  · subst e2
    by_cases hl : i + 1 < ((lkill ls i).set i (some v)).length
    · rw [List.getElem?_set_self hl] at h
      cases h
    · rw [List.getElem?_eq_none (by rw [List.length_set]; omega)] at h
      cases h
  · rw [List.getElem?_set_ne (Ne.symm e2)] at h
    rcases lput1_get (ls := ls) (i := i) (v := v) h with q | ⟨q1, q2, q3⟩
    · exact Or.inl q
    · exact Or.inr ⟨q1, e2, q2, q3⟩
theorem lvl_put1 {ρ : Nat → Nat} {ls : Lo} {i : Nat} {v : TV} : ∀ q ∈ lvl ρ (lput1 ls i v), q ∈ (i, eV ρ v) :: (lvl ρ ls).filter (fun q => !(q.1 == i) && !(q.1 + 1 == i && q.2.category == 2)) := by
  intro q hq
  obtain ⟨u, h1, h2⟩ := lvl_mem.mp hq
  rcases lput1_get h1 with ⟨e, rfl⟩ | ⟨e, h3, h4⟩
  · rw [List.mem_cons]
    left
    rw [← e, ← h2]
  · rw [List.mem_cons]
    right
    refine List.mem_filter.mpr ⟨lvl_mem.mpr ⟨u, h3, h2⟩, ?_⟩
    rw [h2, eV_cat]
    simp only [Bool.and_eq_true, Bool.not_eq_true', beq_eq_false_iff_ne, ne_eq, Bool.and_eq_false_imp, beq_iff_eq]
    exact ⟨e, fun a b => h4 ⟨a, b⟩⟩
theorem lvl_put2 {ρ : Nat → Nat} {ls : Lo} {i : Nat} {v : TV} : ∀ q ∈ lvl ρ (lput2 ls i v), q ∈ (i, eV ρ v) :: (lvl ρ ls).filter (fun q => !(q.1 == i) && (!(q.1 == i + 1) && !(q.1 + 1 == i && q.2.category == 2))) := by
  intro q hq
  obtain ⟨u, h1, h2⟩ := lvl_mem.mp hq
  rcases lput2_get h1 with ⟨e, rfl⟩ | ⟨e, e2, h3, h4⟩
  · rw [List.mem_cons]
    left
    rw [← e, ← h2]
  · rw [List.mem_cons]
    right
    refine List.mem_filter.mpr ⟨lvl_mem.mpr ⟨u, h3, h2⟩, ?_⟩
    rw [h2, eV_cat]
    simp only [Bool.and_eq_true, Bool.not_eq_true', beq_eq_false_iff_ne, ne_eq, Bool.and_eq_false_imp, beq_iff_eq]
    exact ⟨e, e2, fun a b => h4 ⟨a, b⟩⟩
/-- the locals at a method's entry -/
theorem lent_at (ρ : Nat → Nat) : ∀ (vs : List TV) (i j : Nat) (u : TV), (lent vs)[j]? = some (some u) → (i + j, eV ρ u) ∈ lv_args i (vs.map (eV ρ)) := by
  intro vs
  induction vs with
  | nil => intro i j u h; simp [lent] at h
  | cons v r ih =>
    intro i j u h
    unfold lent at h
    rw [List.map_cons]
    unfold lv_args
    rw [eV_cat]
    by_cases hc : tcat v = 2
    · rw [if_pos hc] at h ⊢
      match j with
      | 0 => cases h; exact List.mem_cons_self
      | 1 => simp at h
      | j + 2 =>
        have h2 : (lent r)[j]? = some (some u) := h
        have := ih (i + 2) j u h2
        rw [show i + (j + 2) = i + 2 + j by omega]
        exact List.mem_cons_of_mem _ this
    · rw [if_neg hc] at h ⊢
      match j with
      | 0 => cases h; exact List.mem_cons_self
      | j + 1 =>
        have h2 : (lent r)[j]? = some (some u) := h
        have := ih (i + 1) j u h2
        rw [show i + (j + 1) = i + 1 + j by omega]
        exact List.mem_cons_of_mem _ this
theorem lent_len (ρ : Nat → Nat) (vs : List TV) : (lg_sl (vs.map (eV ρ))).length = (lent vs).length := by
  induction vs with
  | nil => rfl
  | cons v r ih =>
    unfold lg_sl at ih ⊢
    rw [List.map_cons, List.flatMap_cons, List.length_append, ih, lent, eV_cat]
    by_cases hc : tcat v = 2
    · rw [if_pos hc, if_pos hc]; simp; omega
    · rw [if_neg hc, if_neg hc]; simp; omega
theorem lentry_len {n : Nat} {vs : List TV} (h : (lent vs).length ≤ n) : (lentry n vs).length = n := by
  unfold lentry
  rw [List.length_append, List.length_replicate]
  omega
theorem lentry_get {n j : Nat} {vs : List TV} {u : TV} (h : (lentry n vs)[j]? = some (some u)) : (lent vs)[j]? = some (some u) := by
  unfold lentry at h
  by_cases hj : j < (lent vs).length
  · rwa [List.getElem?_append_left hj] at h
  · rw [List.getElem?_append_right (by omega)] at h
    rw [List.getElem?_replicate] at h
    split at h <;> cases h
theorem lent_mem {vs : List TV} {j : Nat} {u : TV} (h : (lent vs)[j]? = some (some u)) : u ∈ vs := by
  induction vs generalizing j with
  | nil => simp [lent] at h
  | cons v r ih =>
    unfold lent at h
    by_cases hc : tcat v = 2
    · rw [if_pos hc] at h
      match j with
      | 0 => cases h; exact List.mem_cons_self
      | 1 => simp at h
      | j + 2 => exact List.mem_cons_of_mem _ (ih (j := j) h)
    · rw [if_neg hc] at h
      match j with
      | 0 => cases h; exact List.mem_cons_self
      | j + 1 => exact List.mem_cons_of_mem _ (ih (j := j) h)
theorem lentry_has (ρ : Nat → Nat) {n : Nat} {vs : List TV} (h : (lent vs).length ≤ n) : lv_has ((lg_sl (vs.map (eV ρ)) ++ List.replicate (n - (lg_sl (vs.map (eV ρ))).length) Slot.unset).toArray) n (lvl ρ (lentry n vs)) := by
  refine lv_mono (lv_entry (vs.map (eV ρ)) (n := n) (by rw [lent_len]; exact h)) ?_
  intro q hq
  obtain ⟨u, h1, h2⟩ := lvl_mem.mp hq
  have h3 := lent_at ρ vs 0 q.1 u (lentry_get h1)
  rw [Nat.zero_add, ← h2] at h3
  exact h3
