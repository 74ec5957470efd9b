/-! ONE STEP of the small machine is steps of the machine -/
def tysL (aT : Nat → ClassId) : List (ClassId × FieldType) := [(aT 20, .int), (aT 21, .long), (aT 22, .byte), (aT 23, .boolean), (aT 24, .object (cnm 1)), (aT 25, .array .int), (aT 26, .array .long)]
def sStr (ρ : Nat → Nat) (A : Nat → Prop) (U : State) (H : Heap) : Prop := ∀ i : Nat, i < 5 → ∃ v : Nat, va_O "java/lang/String" (ρ (901 + i)) A U H ∧ va_OF "java/lang/String" "coder" "B" (.int 0) (ρ (901 + i)) A U H ∧ va_OF "java/lang/String" "value" "[B" (.ref v) (ρ (901 + i)) A U H ∧ va_T .byte v (strs.getD i []).length (fun j => .int (Int32.ofInt ((strs.getD i []).getD j 0))) A U H
/-- arrays of Texts, and the components of int[][] and long[][] -/
def va_CK (aT : Nat → ClassId) (U : State) : Prop := va_AO (cnm 1) U ∧ (∃ k : Class, U.vm.classes[aT 25]? = some k ∧ k.kind = .array (aT 20) (.array .int)) ∧ (∃ k : Class, U.vm.classes[aT 26]? = some k ∧ k.kind = .array (aT 21) (.array .long))
theorem va_CK.moved {aT : Nat → ClassId} {u U : State} (hvm : u.vm.Alike U.vm) (h : va_CK aT u) : va_CK aT U := by
  obtain ⟨h1, ⟨k, h2, h3⟩, ⟨k', h4, h5⟩⟩ := h
  obtain ⟨j, q1, q2⟩ := hvm.2.2 _ _ h2
  obtain ⟨j', q3, q4⟩ := hvm.2.2 _ _ h4
  exact ⟨va_AO.moved hvm h1, ⟨j, q1, by rw [q2]; exact h3⟩, ⟨j', q3, by rw [q4]; exact h5⟩⟩
/-- what stays the same from a method's entry on -/
def sStat (L : Nat) (D : va_G) (aT : Nat → ClassId) (xs : Nat → Int32) (ρ : Nat → Nat) (A : Nat → Prop) (U : State) (H : Heap) : Prop :=
  va_K D cls_ (tysL aT) U ∧ (∀ a i y h, Cond.methodLinkNest a i y h ∈ lw_tbl → va_Nw (.methodLinkNest a i y h) U) ∧ va_CK aT U ∧ sStr ρ A U H ∧ (∀ i q, strk[i]? = some q → vk_R q.1 q.2.1 q.2.2 (ρ (901 + i)) U) ∧ va_X (ρ 900) L xs U H ∧ ρ 900 < H.size ∧ ¬ A (ρ 900) ∧ va_Z "java/lang/String" "COMPACT_STRINGS" "Z" (.int 1) A U H ∧ va_Zq "jdk/internal/util/Preconditions" "SIOOBE_FORMATTER" "Ljava/util/function/BiFunction;" A U H
def ssum (L : Nat) : Nat → Nat
  | 0 => 0
  | n + 1 => ssum L n + (sh L (n + 1)).2
section SIM
variable {l : Launch} {L : Nat} {D : va_G} {aT : Nat → ClassId} {xs : Nat → Int32} {m : Mth} {p : Program} {e : Env} {R : Room} {s : State} {mi : MethodId} {args : Array Value} {below : List Frame} {meth : Method} {c : Code} {A : Nat → Prop} {ρ : Nat → Nat} {H : Heap} {locs : List Loc} {cells slots : Nat} {Q : State → Prop}
/-- a method's activation -/
def Cx (L : Nat) (D : va_G) (aT : Nat → ClassId) (xs : Nat → Int32) (m : Mth) (p : Program) (s : State) (mi : MethodId) (args : Array Value) (meth : Method) (c : Code) (A : Nat → Prop) (ρ : Nat → Nat) : Prop :=
  p.tables.exec = Jvm.exec ∧ c.code = m.2.2.2.1 ∧ c.maxLocals = m.2.2.2.2.1 ∧ s.vm.findClass (cnm m.1) = some mi.cls ∧ (∀ w ∈ Gd, w.before args s = true) ∧ (zisInit m = true → meth.name = "<init>") ∧ (∀ q, s.heap.size ≤ q → A q) ∧ sStat L D aT xs ρ A s s.heap
def Iv (L : Nat) (D : va_G) (aT : Nat → ClassId) (xs : Nat → Int32) (s : State) (A : Nat → Prop) (ρ : Nat → Nat) (w : Wd) (H : Heap) (locs : List Loc) : Prop :=
  va_P D cls_ (eW L aT ρ w) H ∧ va_D A (eW L aT ρ w) ∧ va_S A s.heap H locs ∧ okM L w ∧ (∀ j, j < L → w.2 900 j = (xs j).toInt) ∧ w.1 < 900
def Lv (ρ : Nat → Nat) (lm : Array Slot) (ls : Lo) (n nc : Nat) : Prop := lv_has lm n (lvl ρ ls) ∧ ls.length = n ∧ ∀ v, some v ∈ ls → okV nc v
theorem Lv.at {lm : Array Slot} {ls : Lo} {n nc i : Nat} {v : TV} (h : Lv ρ lm ls n nc) (hv : ls[i]? = some (some v)) : lm[i]? = some (.val (eV ρ v)) ∧ okV nc v := ⟨lvl_at h.1 hv, h.2.2 v (List.mem_of_getElem? hv)⟩
theorem okc {nc : Nat} {a : TV} {r : List TV} (h : okV nc a) (hr : ∀ v ∈ r, okV nc v) : ∀ v ∈ a :: r, okV nc v := fun v hv => (List.mem_cons.mp hv).elim (fun q => q ▸ h) (hr v)
theorem okh {nc : Nat} {a : TV} {r : List TV} (h : ∀ v ∈ a :: r, okV nc v) : okV nc a := h a List.mem_cons_self
theorem okt {nc : Nat} {a : TV} {r : List TV} (h : ∀ v ∈ a :: r, okV nc v) : ∀ v ∈ r, okV nc v := fun v hv => h v (List.mem_cons_of_mem _ hv)
-- what a step was
theorem zii_inv {f : Int → Int → Int} {pc : Nat} {ls : Lo} {w : Wd} {st : List TV} {X : StR} (h : zii f pc ls w st = some X) : ∃ x y r, st = tI y :: tI x :: r ∧ X = .inl (pc + 1, ls, tI (f x y) :: r, w) := by
  unfold zii at h
  split at h
  · cases h; exact ⟨_, _, _, rfl, rfl⟩
  · cases h
theorem zll_inv {f : Int → Int → Int} {pc : Nat} {ls : Lo} {w : Wd} {st : List TV} {X : StR} (h : zll f pc ls w st = some X) : ∃ x y r, st = tL y :: tL x :: r ∧ X = .inl (pc + 1, ls, tL (f x y) :: r, w) := by
  unfold zll at h
  split at h
  · cases h; exact ⟨_, _, _, rfl, rfl⟩
  · cases h
theorem zli_inv {f : Int → Int → Int} {pc : Nat} {ls : Lo} {w : Wd} {st : List TV} {X : StR} (h : zli f pc ls w st = some X) : ∃ x y r, st = tI y :: tL x :: r ∧ X = .inl (pc + 1, ls, tL (f x y) :: r, w) := by
  unfold zli at h
  split at h
  · cases h; exact ⟨_, _, _, rfl, rfl⟩
  · cases h
theorem ziid_inv {f : Int → Int → Int} {pc : Nat} {ls : Lo} {w : Wd} {st : List TV} {X : StR} (h : ziid f pc ls w st = some X) : ∃ x y r, st = tI y :: tI x :: r ∧ y ≠ 0 ∧ X = .inl (pc + 1, ls, tI (f x y) :: r, w) := by
  unfold ziid at h
  split at h
  · split at h
    · cases h
    · cases h; exact ⟨_, _, _, rfl, by assumption, rfl⟩
  · cases h
theorem zlld_inv {f : Int → Int → Int} {pc : Nat} {ls : Lo} {w : Wd} {st : List TV} {X : StR} (h : zlld f pc ls w st = some X) : ∃ x y r, st = tL y :: tL x :: r ∧ y ≠ 0 ∧ X = .inl (pc + 1, ls, tL (f x y) :: r, w) := by
  unfold zlld at h
  split at h
  · split at h
    · cases h
    · cases h; exact ⟨_, _, _, rfl, by assumption, rfl⟩
  · cases h
theorem zi_inv {f : Int → Int} {pc : Nat} {ls : Lo} {w : Wd} {st : List TV} {X : StR} (h : zi f pc ls w st = some X) : ∃ x r, st = tI x :: r ∧ X = .inl (pc + 1, ls, tI (f x) :: r, w) := by
  unfold zi at h
  split at h
  · cases h; exact ⟨_, _, rfl, rfl⟩
  · cases h
theorem zgo_inv {pc : Nat} {off : Int} {ls : Lo} {st : List TV} {w : Wd} {X : StR} (h : zgo pc off ls st w = some X) : ∃ tgt : Nat, (pc : Int) + off = (tgt : Int) ∧ X = .inl (tgt, ls, st, w) := by
  unfold zgo at h
  split at h
  · cases h
    exact ⟨((pc : Int) + off).toNat, by omega, rfl⟩
  · cases h
theorem zld_inv {n i pc k : Nat} {ls : Lo} {st : List TV} {w : Wd} {X : StR} (h : zld n i pc ls st w k = some X) : ∃ v, ls[i]? = some (some v) ∧ X = .inl (pc + n, ls, v :: st, w) ∧ ((k = 0 ∧ ∃ x, v = tI x) ∨ (k = 1 ∧ ∃ x, v = tL x) ∨ (k = 2 ∧ ∃ a, v = tA a ∧ a ≠ 0)) := by
  unfold zld at h
  split at h
  · rename_i v hv
    refine ⟨v, hv, ?_⟩
    split at h
    · cases h; exact ⟨rfl, Or.inl ⟨rfl, _, rfl⟩⟩
    · cases h; exact ⟨rfl, Or.inr (Or.inl ⟨rfl, _, rfl⟩)⟩
    · split at h
      · cases h
      · cases h; exact ⟨rfl, Or.inr (Or.inr ⟨rfl, _, rfl, by assumption⟩)⟩
    · cases h
  · cases h
end SIM
