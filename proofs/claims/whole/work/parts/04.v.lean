/-! WHAT THE SMALL MACHINE COMES TO: a predicate of its goal, and a row for each instruction, as equations. -/
def VV (L d : Nat) (m : Mth) (pc : Nat) (ls : Lo) (st : List TV) (w : Wd) (Q : Option TV → Wd → Prop) : Prop := ∃ n r w', mrun L n d m pc ls st w = some (r, w') ∧ Q r w'
theorem mrun_mono (L : Nat) : ∀ (n d : Nat) (m : Mth) (pc : Nat) (ls : Lo) (st : List TV) (w : Wd) (x : Option TV × Wd), mrun L n d m pc ls st w = some x → mrun L (n + 1) d m pc ls st w = some x := by
  intro n
  induction n with
  | zero => intro d m pc ls st w x h; cases h
  | succ n ih =>
    intro d m pc ls st w x h
    rw [mrun] at h ⊢
    match hs : stp L m pc ls st w with
    | none => rw [hs] at h; cases h
    | some (.inl (pc', ls', st', w')) => rw [hs] at h; exact ih _ _ _ _ _ _ _ h
    | some (.inr (.inl r)) => rw [hs] at h; exact h
    | some (.inr (.inr (m', as, rest))) =>
      rw [hs] at h
      cases d with
      | zero => cases h
      | succ d =>
        dsimp only at h ⊢
        match hc : mrun L n d m' 0 (lentry m'.2.2.2.2.1 as) [] w with
        | none => rw [hc] at h; cases h
        | some (r, w') =>
          rw [hc] at h
          rw [ih _ _ _ _ _ _ _ hc]
          exact ih _ _ _ _ _ _ _ h
theorem mrun_le {L n n' d : Nat} {m : Mth} {pc : Nat} {ls : Lo} {st : List TV} {w : Wd} {x : Option TV × Wd} (hn : n ≤ n') (h : mrun L n d m pc ls st w = some x) : mrun L n' d m pc ls st w = some x := by
  induction hn with
  | refl => exact h
  | step _ ih => exact mrun_mono L _ _ _ _ _ _ _ _ ih
section VR
variable {L d : Nat} {m : Mth} {pc : Nat} {ls : Lo} {st : List TV} {w : Wd} {Q : Option TV → Wd → Prop}
theorem VV.imp {Q' : Option TV → Wd → Prop} (h : VV L d m pc ls st w Q) (hq : ∀ r w', Q r w' → Q' r w') : VV L d m pc ls st w Q' := by
  obtain ⟨n, r, w', h1, h2⟩ := h
  exact ⟨n, r, w', h1, hq r w' h2⟩
theorem VV_no (h : stp L m pc ls st w = none) : VV L d m pc ls st w Q = False := by
  refine propext ⟨fun ⟨n, r, w', h1, _⟩ => ?_, fun h => h.elim⟩
  cases n with
  | zero => cases h1
  | succ n => rw [mrun, h] at h1; cases h1
theorem VV_c {pc' : Nat} {ls' : Lo} {st' : List TV} {w' : Wd} (h : stp L m pc ls st w = some (.inl (pc', ls', st', w'))) : VV L d m pc ls st w Q = VV L d m pc' ls' st' w' Q := by
  refine propext ⟨fun ⟨n, r, u, h1, h2⟩ => ?_, fun ⟨n, r, u, h1, h2⟩ => ⟨n + 1, r, u, ?_, h2⟩⟩
  · cases n with
    | zero => cases h1
    | succ n => rw [mrun, h] at h1; exact ⟨n, r, u, h1, h2⟩
  · rw [mrun, h]; exact h1
theorem VV_r {r : Option TV} (h : stp L m pc ls st w = some (.inr (.inl r))) : VV L d m pc ls st w Q = Q r w := by
  refine propext ⟨fun ⟨n, r', u, h1, h2⟩ => ?_, fun hq => ⟨1, r, w, ?_, hq⟩⟩
  · cases n with
    | zero => cases h1
    | succ n => rw [mrun, h] at h1; cases h1; exact h2
  · rw [mrun, h]
theorem VV_k {m' : Mth} {as rest : List TV} (h : stp L m pc ls st w = some (.inr (.inr (m', as, rest)))) : VV L (d + 1) m pc ls st w Q = VV L d m' 0 (lentry m'.2.2.2.2.1 as) [] w (fun r w' => VV L (d + 1) m (pc + 3) ls (r.toList ++ rest) w' Q) := by
  refine propext ⟨fun ⟨n, r, u, h1, h2⟩ => ?_, fun ⟨n, r, w', h1, n2, r2, u, h2, h3⟩ => ?_⟩
  · cases n with
    | zero => cases h1
    | succ n =>
      rw [mrun, h] at h1
      dsimp only at h1
      match hc : mrun L n d m' 0 (lentry m'.2.2.2.2.1 as) [] w with
      | none => rw [hc] at h1; cases h1
      | some (r', w') =>
        rw [hc] at h1
        exact ⟨n, r', w', hc, n, r, u, h1, h2⟩
  · refine ⟨max n n2 + 1, r2, u, ?_, h3⟩
    rw [mrun, h]
    dsimp only
    rw [mrun_le (Nat.le_max_left n n2) h1]
    exact mrun_le (Nat.le_max_right n n2) h2
theorem VV_if {c : Prop} [Decidable c] {pa pb : Nat} {lsa lsb : Lo} {sta stb : List TV} {wa wb : Wd} (h : stp L m pc ls st w = if c then some (.inl (pa, lsa, sta, wa)) else some (.inl (pb, lsb, stb, wb))) : VV L d m pc ls st w Q = if c then VV L d m pa lsa sta wa Q else VV L d m pb lsb stb wb Q := by
  by_cases hc : c
  · rw [if_pos hc] at h ⊢; exact VV_c h
  · rw [if_neg hc] at h ⊢; exact VV_c h
theorem VV_as {c : Prop} [Decidable c] {pa : Nat} {lsa : Lo} {sta : List TV} {wa : Wd} (h : stp L m pc ls st w = if c then some (.inl (pa, lsa, sta, wa)) else none) : VV L d m pc ls st w Q = (c ∧ VV L d m pa lsa sta wa Q) := by
  by_cases hc : c
  · rw [if_pos hc] at h; rw [VV_c h]; exact propext ⟨fun h => ⟨hc, h⟩, fun h => h.2⟩
  · rw [if_neg hc] at h; rw [VV_no h]; exact propext ⟨fun h => h.elim, fun h => (hc h.1).elim⟩
-- constants
theorem V_iconst {n v : Int} (h : decode m.2.2.2.1 pc = .ok (.iconst n, 1)) (hv : w32 n = v) : VV L d m pc ls st w Q = VV L d m (pc + 1) ls (tI v :: st) w Q := by subst hv; exact VV_c (by unfold stp; rw [h]; rfl)
theorem V_bipush {n v : Int} (h : decode m.2.2.2.1 pc = .ok (.bipush n, 2)) (hv : n.bmod 256 = v) : VV L d m pc ls st w Q = VV L d m (pc + 2) ls (tI v :: st) w Q := by subst hv; exact VV_c (by unfold stp; rw [h]; rfl)
theorem V_sipush {n v : Int} (h : decode m.2.2.2.1 pc = .ok (.sipush n, 3)) (hv : n.bmod 65536 = v) : VV L d m pc ls st w Q = VV L d m (pc + 3) ls (tI v :: st) w Q := by subst hv; exact VV_c (by unfold stp; rw [h]; rfl)
theorem V_lconst {n : Fin 2} {v : Int} (h : decode m.2.2.2.1 pc = .ok (.lconst n, 1)) (hv : ((n : Nat) : Int) = v) : VV L d m pc ls st w Q = VV L d m (pc + 1) ls (tL v :: st) w Q := by subst hv; exact VV_c (by unfold stp; rw [h]; rfl)
theorem V_ldcI {idx : Nat} {v : Int} (h : decode m.2.2.2.1 pc = .ok (.ldc idx, 2)) (hk : rK m.1 idx = some (0, v)) : VV L d m pc ls st w Q = VV L d m (pc + 2) ls (tI v :: st) w Q := VV_c (by unfold stp; rw [h]; simp [hk, zc])
theorem V_ldcS {idx a : Nat} (h : decode m.2.2.2.1 pc = .ok (.ldc idx, 2)) (hk : rK m.1 idx = some (2, (a : Int))) : VV L d m pc ls st w Q = VV L d m (pc + 2) ls (tA a :: st) w Q := VV_c (by unfold stp; rw [h]; simp [hk, zc])
theorem V_ldcL {idx : Nat} {v : Int} (h : decode m.2.2.2.1 pc = .ok (.ldc2_w idx, 3)) (hk : rK m.1 idx = some (1, v)) : VV L d m pc ls st w Q = VV L d m (pc + 3) ls (tL v :: st) w Q := VV_c (by unfold stp; rw [h]; simp [hk, zc])
-- locals
theorem V_iload {i : Nat} {x : Int} (h : decode m.2.2.2.1 pc = .ok (.iload i, 2)) (hl : ls[i]? = some (some (tI x))) : VV L d m pc ls st w Q = VV L d m (pc + 2) ls (tI x :: st) w Q := VV_c (by unfold stp; rw [h]; simp [zld, hl, zc])
theorem V_iload_n {i : Fin 4} {x : Int} (h : decode m.2.2.2.1 pc = .ok (.iload_n i, 1)) (hl : ls[(i : Nat)]? = some (some (tI x))) : VV L d m pc ls st w Q = VV L d m (pc + 1) ls (tI x :: st) w Q := VV_c (by unfold stp; rw [h]; simp only [if_true, zld, hl, zc])
theorem V_lload {i : Nat} {x : Int} (h : decode m.2.2.2.1 pc = .ok (.lload i, 2)) (hl : ls[i]? = some (some (tL x))) : VV L d m pc ls st w Q = VV L d m (pc + 2) ls (tL x :: st) w Q := VV_c (by unfold stp; rw [h]; simp [zld, hl, zc])
theorem V_lload_n {i : Fin 4} {x : Int} (h : decode m.2.2.2.1 pc = .ok (.lload_n i, 1)) (hl : ls[(i : Nat)]? = some (some (tL x))) : VV L d m pc ls st w Q = VV L d m (pc + 1) ls (tL x :: st) w Q := VV_c (by unfold stp; rw [h]; simp only [if_true, zld, hl, zc])
theorem V_aload {i a : Nat} (h : decode m.2.2.2.1 pc = .ok (.aload i, 2)) (hl : ls[i]? = some (some (tA a))) : VV L d m pc ls st w Q = (a ≠ 0 ∧ VV L d m (pc + 2) ls (tA a :: st) w Q) := VV_as (by unfold stp; rw [h]; simp only [if_true, zld, hl, zc]; by_cases ha : a = 0 <;> simp [ha])
theorem V_aload_n {i : Fin 4} {a : Nat} (h : decode m.2.2.2.1 pc = .ok (.aload_n i, 1)) (hl : ls[(i : Nat)]? = some (some (tA a))) : VV L d m pc ls st w Q = (a ≠ 0 ∧ VV L d m (pc + 1) ls (tA a :: st) w Q) := VV_as (by unfold stp; rw [h]; simp only [if_true, zld, hl, zc]; by_cases ha : a = 0 <;> simp [ha])
theorem V_istore {i : Nat} {x : Int} {ls' : Lo} (h : decode m.2.2.2.1 pc = .ok (.istore i, 2)) (hi : i < ls.length) (hl : lput1 ls i (tI x) = ls') : VV L d m pc ls (tI x :: st) w Q = VV L d m (pc + 2) ls' st w Q := by subst hl; exact VV_c (by unfold stp; rw [h]; simp [zst, hi, zc])
theorem V_istore_n {i : Fin 4} {x : Int} {ls' : Lo} (h : decode m.2.2.2.1 pc = .ok (.istore_n i, 1)) (hi : (i : Nat) < ls.length) (hl : lput1 ls i (tI x) = ls') : VV L d m pc ls (tI x :: st) w Q = VV L d m (pc + 1) ls' st w Q := by subst hl; exact VV_c (by unfold stp; rw [h]; simp [zst, hi, zc])
theorem V_lstore {i : Nat} {x : Int} {ls' : Lo} (h : decode m.2.2.2.1 pc = .ok (.lstore i, 2)) (hi : i + 1 < ls.length) (hl : lput2 ls i (tL x) = ls') : VV L d m pc ls (tL x :: st) w Q = VV L d m (pc + 2) ls' st w Q := by subst hl; exact VV_c (by unfold stp; rw [h]; simp [zst, hi, zc])
theorem V_lstore_n {i : Fin 4} {x : Int} {ls' : Lo} (h : decode m.2.2.2.1 pc = .ok (.lstore_n i, 1)) (hi : (i : Nat) + 1 < ls.length) (hl : lput2 ls i (tL x) = ls') : VV L d m pc ls (tL x :: st) w Q = VV L d m (pc + 1) ls' st w Q := by subst hl; exact VV_c (by unfold stp; rw [h]; simp [zst, hi, zc])
theorem V_astore {i a : Nat} {ls' : Lo} (h : decode m.2.2.2.1 pc = .ok (.astore i, 2)) (hi : i < ls.length) (hl : lput1 ls i (tA a) = ls') : VV L d m pc ls (tA a :: st) w Q = (a ≠ 0 ∧ VV L d m (pc + 2) ls' st w Q) := by subst hl; exact VV_as (by unfold stp; rw [h]; simp [zst, hi, zc])
theorem V_astore_n {i : Fin 4} {a : Nat} {ls' : Lo} (h : decode m.2.2.2.1 pc = .ok (.astore_n i, 1)) (hi : (i : Nat) < ls.length) (hl : lput1 ls i (tA a) = ls') : VV L d m pc ls (tA a :: st) w Q = (a ≠ 0 ∧ VV L d m (pc + 1) ls' st w Q) := by subst hl; exact VV_as (by unfold stp; rw [h]; simp [zst, hi, zc])
theorem V_iinc {i : Nat} {n x : Int} {ls' : Lo} (h : decode m.2.2.2.1 pc = .ok (.iinc i n, 3)) (hi : i < ls.length) (hx : ls[i]? = some (some (tI x))) (hl : lput1 ls i (tI (w32 (x + n))) = ls') : VV L d m pc ls st w Q = VV L d m (pc + 3) ls' st w Q := by subst hl; exact VV_c (by unfold stp; rw [h]; simp only [hi, hx, and_self, if_true]; rfl)
-- arithmetic
theorem V_iadd {x y : Int} (h : decode m.2.2.2.1 pc = .ok (.iadd, 1)) : VV L d m pc ls (tI y :: tI x :: st) w Q = VV L d m (pc + 1) ls (tI (w32 (x + y)) :: st) w Q := VV_c (by unfold stp; rw [h]; rfl)
theorem V_isub {x y : Int} (h : decode m.2.2.2.1 pc = .ok (.isub, 1)) : VV L d m pc ls (tI y :: tI x :: st) w Q = VV L d m (pc + 1) ls (tI (w32 (x - y)) :: st) w Q := VV_c (by unfold stp; rw [h]; rfl)
theorem V_imul {x y : Int} (h : decode m.2.2.2.1 pc = .ok (.imul, 1)) : VV L d m pc ls (tI y :: tI x :: st) w Q = VV L d m (pc + 1) ls (tI (w32 (x * y)) :: st) w Q := VV_c (by unfold stp; rw [h]; rfl)
theorem V_iand {x y : Int} (h : decode m.2.2.2.1 pc = .ok (.iand, 1)) : VV L d m pc ls (tI y :: tI x :: st) w Q = VV L d m (pc + 1) ls (tI (o32 (fun x y => x &&& y) x y) :: st) w Q := VV_c (by unfold stp; rw [h]; rfl)
theorem V_ior {x y : Int} (h : decode m.2.2.2.1 pc = .ok (.ior, 1)) : VV L d m pc ls (tI y :: tI x :: st) w Q = VV L d m (pc + 1) ls (tI (o32 (fun x y => x ||| y) x y) :: st) w Q := VV_c (by unfold stp; rw [h]; rfl)
theorem V_ixor {x y : Int} (h : decode m.2.2.2.1 pc = .ok (.ixor, 1)) : VV L d m pc ls (tI y :: tI x :: st) w Q = VV L d m (pc + 1) ls (tI (o32 (fun x y => x ^^^ y) x y) :: st) w Q := VV_c (by unfold stp; rw [h]; rfl)
theorem V_ishl {x y : Int} (h : decode m.2.2.2.1 pc = .ok (.ishl, 1)) : VV L d m pc ls (tI y :: tI x :: st) w Q = VV L d m (pc + 1) ls (tI (o32 (fun x y => x <<< (y &&& 31)) x y) :: st) w Q := VV_c (by unfold stp; rw [h]; rfl)
theorem V_ishr {x y : Int} (h : decode m.2.2.2.1 pc = .ok (.ishr, 1)) : VV L d m pc ls (tI y :: tI x :: st) w Q = VV L d m (pc + 1) ls (tI (o32 (fun x y => x >>> (y &&& 31)) x y) :: st) w Q := VV_c (by unfold stp; rw [h]; rfl)
theorem V_idiv {x y : Int} (h : decode m.2.2.2.1 pc = .ok (.idiv, 1)) : VV L d m pc ls (tI y :: tI x :: st) w Q = (y ≠ 0 ∧ VV L d m (pc + 1) ls (tI (w32 (x.tdiv y)) :: st) w Q) := VV_as (by unfold stp; rw [h]; by_cases hy : y = 0 <;> simp [ziid, hy, zc])
theorem V_irem {x y : Int} (h : decode m.2.2.2.1 pc = .ok (.irem, 1)) : VV L d m pc ls (tI y :: tI x :: st) w Q = (y ≠ 0 ∧ VV L d m (pc + 1) ls (tI (x.tmod y) :: st) w Q) := VV_as (by unfold stp; rw [h]; by_cases hy : y = 0 <;> simp [ziid, hy, zc])
theorem V_ineg {x : Int} (h : decode m.2.2.2.1 pc = .ok (.ineg, 1)) : VV L d m pc ls (tI x :: st) w Q = VV L d m (pc + 1) ls (tI (w32 (-x)) :: st) w Q := VV_c (by unfold stp; rw [h]; rfl)
theorem V_i2b {x : Int} (h : decode m.2.2.2.1 pc = .ok (.i2b, 1)) : VV L d m pc ls (tI x :: st) w Q = VV L d m (pc + 1) ls (tI (x.bmod 256) :: st) w Q := VV_c (by unfold stp; rw [h]; rfl)
theorem V_i2s {x : Int} (h : decode m.2.2.2.1 pc = .ok (.i2s, 1)) : VV L d m pc ls (tI x :: st) w Q = VV L d m (pc + 1) ls (tI (x.bmod 65536) :: st) w Q := VV_c (by unfold stp; rw [h]; rfl)
theorem V_i2c {x : Int} (h : decode m.2.2.2.1 pc = .ok (.i2c, 1)) : VV L d m pc ls (tI x :: st) w Q = VV L d m (pc + 1) ls (tI (x % 65536) :: st) w Q := VV_c (by unfold stp; rw [h]; rfl)
theorem V_i2l {x : Int} (h : decode m.2.2.2.1 pc = .ok (.i2l, 1)) : VV L d m pc ls (tI x :: st) w Q = VV L d m (pc + 1) ls (tL x :: st) w Q := VV_c (by unfold stp; rw [h]; rfl)
theorem V_l2i {x : Int} (h : decode m.2.2.2.1 pc = .ok (.l2i, 1)) : VV L d m pc ls (tL x :: st) w Q = VV L d m (pc + 1) ls (tI (w32 x) :: st) w Q := VV_c (by unfold stp; rw [h]; rfl)
theorem V_ladd {x y : Int} (h : decode m.2.2.2.1 pc = .ok (.ladd, 1)) : VV L d m pc ls (tL y :: tL x :: st) w Q = VV L d m (pc + 1) ls (tL (w64 (x + y)) :: st) w Q := VV_c (by unfold stp; rw [h]; rfl)
theorem V_lsub {x y : Int} (h : decode m.2.2.2.1 pc = .ok (.lsub, 1)) : VV L d m pc ls (tL y :: tL x :: st) w Q = VV L d m (pc + 1) ls (tL (w64 (x - y)) :: st) w Q := VV_c (by unfold stp; rw [h]; rfl)
theorem V_lmul {x y : Int} (h : decode m.2.2.2.1 pc = .ok (.lmul, 1)) : VV L d m pc ls (tL y :: tL x :: st) w Q = VV L d m (pc + 1) ls (tL (w64 (x * y)) :: st) w Q := VV_c (by unfold stp; rw [h]; rfl)
theorem V_land {x y : Int} (h : decode m.2.2.2.1 pc = .ok (.land, 1)) : VV L d m pc ls (tL y :: tL x :: st) w Q = VV L d m (pc + 1) ls (tL (o64 (fun x y => x &&& y) x y) :: st) w Q := VV_c (by unfold stp; rw [h]; rfl)
theorem V_lor {x y : Int} (h : decode m.2.2.2.1 pc = .ok (.lor, 1)) : VV L d m pc ls (tL y :: tL x :: st) w Q = VV L d m (pc + 1) ls (tL (o64 (fun x y => x ||| y) x y) :: st) w Q := VV_c (by unfold stp; rw [h]; rfl)
theorem V_lxor {x y : Int} (h : decode m.2.2.2.1 pc = .ok (.lxor, 1)) : VV L d m pc ls (tL y :: tL x :: st) w Q = VV L d m (pc + 1) ls (tL (o64 (fun x y => x ^^^ y) x y) :: st) w Q := VV_c (by unfold stp; rw [h]; rfl)
theorem V_lshl {x y : Int} (h : decode m.2.2.2.1 pc = .ok (.lshl, 1)) : VV L d m pc ls (tI y :: tL x :: st) w Q = VV L d m (pc + 1) ls (tL (h64 (fun x y => x <<< (y.toInt64 &&& 63)) x y) :: st) w Q := VV_c (by unfold stp; rw [h]; rfl)
theorem V_lshr {x y : Int} (h : decode m.2.2.2.1 pc = .ok (.lshr, 1)) : VV L d m pc ls (tI y :: tL x :: st) w Q = VV L d m (pc + 1) ls (tL (h64 (fun x y => x >>> (y.toInt64 &&& 63)) x y) :: st) w Q := VV_c (by unfold stp; rw [h]; rfl)
theorem V_lushr {x y : Int} (h : decode m.2.2.2.1 pc = .ok (.lushr, 1)) : VV L d m pc ls (tI y :: tL x :: st) w Q = VV L d m (pc + 1) ls (tL (h64 (fun x y => (x.toUInt64 >>> (y.toInt64.toUInt64 &&& Int64.toUInt64 63)).toInt64) x y) :: st) w Q := VV_c (by unfold stp; rw [h]; rfl)
theorem V_ldiv {x y : Int} (h : decode m.2.2.2.1 pc = .ok (.ldiv, 1)) : VV L d m pc ls (tL y :: tL x :: st) w Q = (y ≠ 0 ∧ VV L d m (pc + 1) ls (tL (w64 (x.tdiv y)) :: st) w Q) := VV_as (by unfold stp; rw [h]; by_cases hy : y = 0 <;> simp [zlld, hy, zc])
theorem V_lrem {x y : Int} (h : decode m.2.2.2.1 pc = .ok (.lrem, 1)) : VV L d m pc ls (tL y :: tL x :: st) w Q = (y ≠ 0 ∧ VV L d m (pc + 1) ls (tL (x.tmod y) :: st) w Q) := VV_as (by unfold stp; rw [h]; by_cases hy : y = 0 <;> simp [zlld, hy, zc])
theorem V_lneg {x : Int} (h : decode m.2.2.2.1 pc = .ok (.lneg, 1)) : VV L d m pc ls (tL x :: st) w Q = VV L d m (pc + 1) ls (tL (w64 (-x)) :: st) w Q := VV_c (by unfold stp; rw [h]; rfl)
theorem V_lcmp {x y : Int} (h : decode m.2.2.2.1 pc = .ok (.lcmp, 1)) : VV L d m pc ls (tL y :: tL x :: st) w Q = VV L d m (pc + 1) ls (tI (zlcmp x y) :: st) w Q := VV_c (by unfold stp; rw [h]; rfl)
-- the stack
theorem V_dup {a : TV} (h : decode m.2.2.2.1 pc = .ok (.dup, 1)) (h1 : tcat a = 1) : VV L d m pc ls (a :: st) w Q = VV L d m (pc + 1) ls (a :: a :: st) w Q := VV_c (by unfold stp; rw [h]; simp [zdupR, zdup, h1, zc])
theorem V_dup_x1 {a b : TV} (h : decode m.2.2.2.1 pc = .ok (.dup_x1, 1)) (h1 : tcat a = 1) (h2 : tcat b = 1) : VV L d m pc ls (a :: b :: st) w Q = VV L d m (pc + 1) ls (a :: b :: a :: st) w Q := VV_c (by unfold stp; rw [h]; simp [zdupR, zdup, h1, h2, zc])
theorem V_dup_x2 {a b c : TV} (h : decode m.2.2.2.1 pc = .ok (.dup_x2, 1)) (h1 : tcat a = 1) (h2 : tcat b = 1) (h3 : tcat c = 1) : VV L d m pc ls (a :: b :: c :: st) w Q = VV L d m (pc + 1) ls (a :: b :: c :: a :: st) w Q := VV_c (by unfold stp; rw [h]; simp [zdupR, zdup, h1, h2, h3, zc])
theorem V_dup2 {a b : TV} (h : decode m.2.2.2.1 pc = .ok (.dup2, 1)) (h1 : tcat a = 1) (h2 : tcat b = 1) : VV L d m pc ls (a :: b :: st) w Q = VV L d m (pc + 1) ls (a :: b :: a :: b :: st) w Q := VV_c (by unfold stp; rw [h]; simp [zdupR, zdup, h1, h2, zc])
end VR
