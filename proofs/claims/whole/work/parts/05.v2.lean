/-! rows of the small machine: branches, fields, arrays, calls, ends -/
section VR2
variable {L d : Nat} {m : Mth} {pc : Nat} {ls : Lo} {st : List TV} {w : Wd} {Q : Option TV → Wd → Prop}
theorem zgo_of {tgt : Nat} {off : Int} (ht : (pc : Int) + off = (tgt : Int)) : zgo pc off ls st w = some (.inl (tgt, ls, st, w)) := by
  unfold zgo zc
  rw [ht]
  simp
theorem V_goto {off : Int} {tgt : Nat} (h : decode m.2.2.2.1 pc = .ok (.goto off, 3)) (ht : (pc : Int) + off = (tgt : Int)) : VV L d m pc ls st w Q = VV L d m tgt ls st w Q := VV_c (by unfold stp; rw [h]; simp only [if_true]; exact zgo_of ht)
theorem V_ifeq {off x : Int} {tgt : Nat} (h : decode m.2.2.2.1 pc = .ok (.ifCond .eq off, 3)) (ht : (pc : Int) + off = (tgt : Int)) : VV L d m pc ls (tI x :: st) w Q = if x = 0 then VV L d m tgt ls st w Q else VV L d m (pc + 3) ls st w Q := VV_if (by unfold stp; rw [h]; simp [zif, zcnd, ht, zc])
theorem V_ifne {off x : Int} {tgt : Nat} (h : decode m.2.2.2.1 pc = .ok (.ifCond .ne off, 3)) (ht : (pc : Int) + off = (tgt : Int)) : VV L d m pc ls (tI x :: st) w Q = if x = 0 then VV L d m (pc + 3) ls st w Q else VV L d m tgt ls st w Q := VV_if (by unfold stp; rw [h]; by_cases hx : x = 0 <;> simp [zif, zcnd, ht, zc, hx])
theorem V_iflt {off x : Int} {tgt : Nat} (h : decode m.2.2.2.1 pc = .ok (.ifCond .lt off, 3)) (ht : (pc : Int) + off = (tgt : Int)) : VV L d m pc ls (tI x :: st) w Q = if x < 0 then VV L d m tgt ls st w Q else VV L d m (pc + 3) ls st w Q := VV_if (by unfold stp; rw [h]; simp [zif, zcnd, ht, zc])
theorem V_ifge {off x : Int} {tgt : Nat} (h : decode m.2.2.2.1 pc = .ok (.ifCond .ge off, 3)) (ht : (pc : Int) + off = (tgt : Int)) : VV L d m pc ls (tI x :: st) w Q = if 0 ≤ x then VV L d m tgt ls st w Q else VV L d m (pc + 3) ls st w Q := VV_if (by unfold stp; rw [h]; simp [zif, zcnd, ht, zc])
theorem V_ifgt {off x : Int} {tgt : Nat} (h : decode m.2.2.2.1 pc = .ok (.ifCond .gt off, 3)) (ht : (pc : Int) + off = (tgt : Int)) : VV L d m pc ls (tI x :: st) w Q = if 0 < x then VV L d m tgt ls st w Q else VV L d m (pc + 3) ls st w Q := VV_if (by unfold stp; rw [h]; simp [zif, zcnd, ht, zc])
theorem V_ifle {off x : Int} {tgt : Nat} (h : decode m.2.2.2.1 pc = .ok (.ifCond .le off, 3)) (ht : (pc : Int) + off = (tgt : Int)) : VV L d m pc ls (tI x :: st) w Q = if x ≤ 0 then VV L d m tgt ls st w Q else VV L d m (pc + 3) ls st w Q := VV_if (by unfold stp; rw [h]; simp [zif, zcnd, ht, zc])
theorem V_icmpeq {off x y : Int} {tgt : Nat} (h : decode m.2.2.2.1 pc = .ok (.if_icmp .eq off, 3)) (ht : (pc : Int) + off = (tgt : Int)) : VV L d m pc ls (tI y :: tI x :: st) w Q = if x = y then VV L d m tgt ls st w Q else VV L d m (pc + 3) ls st w Q := VV_if (by unfold stp; rw [h]; simp [zicmp, zcnd, ht, zc])
theorem V_icmpne {off x y : Int} {tgt : Nat} (h : decode m.2.2.2.1 pc = .ok (.if_icmp .ne off, 3)) (ht : (pc : Int) + off = (tgt : Int)) : VV L d m pc ls (tI y :: tI x :: st) w Q = if x = y then VV L d m (pc + 3) ls st w Q else VV L d m tgt ls st w Q := VV_if (by unfold stp; rw [h]; by_cases hx : x = y <;> simp [zicmp, zcnd, ht, zc, hx])
theorem V_icmplt {off x y : Int} {tgt : Nat} (h : decode m.2.2.2.1 pc = .ok (.if_icmp .lt off, 3)) (ht : (pc : Int) + off = (tgt : Int)) : VV L d m pc ls (tI y :: tI x :: st) w Q = if x < y then VV L d m tgt ls st w Q else VV L d m (pc + 3) ls st w Q := VV_if (by unfold stp; rw [h]; simp [zicmp, zcnd, ht, zc])
theorem V_icmpge {off x y : Int} {tgt : Nat} (h : decode m.2.2.2.1 pc = .ok (.if_icmp .ge off, 3)) (ht : (pc : Int) + off = (tgt : Int)) : VV L d m pc ls (tI y :: tI x :: st) w Q = if y ≤ x then VV L d m tgt ls st w Q else VV L d m (pc + 3) ls st w Q := VV_if (by unfold stp; rw [h]; simp [zicmp, zcnd, ht, zc])
theorem V_icmpgt {off x y : Int} {tgt : Nat} (h : decode m.2.2.2.1 pc = .ok (.if_icmp .gt off, 3)) (ht : (pc : Int) + off = (tgt : Int)) : VV L d m pc ls (tI y :: tI x :: st) w Q = if y < x then VV L d m tgt ls st w Q else VV L d m (pc + 3) ls st w Q := VV_if (by unfold stp; rw [h]; simp [zicmp, zcnd, ht, zc])
theorem V_icmple {off x y : Int} {tgt : Nat} (h : decode m.2.2.2.1 pc = .ok (.if_icmp .le off, 3)) (ht : (pc : Int) + off = (tgt : Int)) : VV L d m pc ls (tI y :: tI x :: st) w Q = if x ≤ y then VV L d m tgt ls st w Q else VV L d m (pc + 3) ls st w Q := VV_if (by unfold stp; rw [h]; simp [zicmp, zcnd, ht, zc])
/-- a switch, as a chain of tests -/
def vsw (L d : Nat) (m : Mth) (pc : Nat) (ls : Lo) (st : List TV) (w : Wd) (Q : Option TV → Wd → Prop) (x df : Int) : List (Int × Int) → Prop
  | [] => VV L d m ((pc : Int) + df).toNat ls st w Q
  | (k, o) :: r => if x = k then VV L d m ((pc : Int) + o).toNat ls st w Q else vsw L d m pc ls st w Q x df r
theorem zgo_nn {off : Int} (h : 0 ≤ (pc : Int) + off) : zgo pc off ls st w = some (.inl (((pc : Int) + off).toNat, ls, st, w)) := by
  unfold zgo zc
  rw [if_pos h]
theorem V_lsw {df x : Int} {ps : Array (Int × Int)} {len : Nat} (h : decode m.2.2.2.1 pc = .ok (.lookupswitch df ps, len)) (hp : (ps.toList.zip (ps.toList.drop 1)).all (fun (a, next) => a.1 < next.1) = true) (h0 : 0 ≤ (pc : Int) + df) (hps : ∀ q ∈ ps.toList, 0 ≤ (pc : Int) + q.2) : VV L d m pc ls (tI x :: st) w Q = vsw L d m pc ls st w Q x df ps.toList := by
  have hs : stp L m pc ls (tI x :: st) w = zlsw pc ls st w x df ps.toList := by unfold stp; rw [h]; simp only [hp, if_true]
  clear h hp
  generalize ps.toList = l at hs hps ⊢
  suffices ∀ (l : List (Int × Int)) (pc1 : Nat) (ls1 : Lo) (st1 : List TV), (∀ q ∈ l, 0 ≤ (pc : Int) + q.2) → stp L m pc1 ls1 st1 w = zlsw pc ls st w x df l → VV L d m pc1 ls1 st1 w Q = vsw L d m pc ls st w Q x df l from this l _ _ _ hps hs
  intro l
  induction l with
  | nil => intro pc1 ls1 st1 _ hs; unfold zlsw at hs; rw [zgo_nn h0] at hs; exact VV_c hs
  | cons q r ih =>
    intro pc1 ls1 st1 hq hs
    obtain ⟨k, o⟩ := q
    unfold zlsw at hs
    unfold vsw
    by_cases hx : x = k
    · rw [if_pos hx] at hs ⊢
      rw [zgo_nn (hq (k, o) List.mem_cons_self)] at hs
      exact VV_c hs
    · rw [if_neg hx] at hs ⊢
      exact ih _ _ _ (fun q h => hq q (List.mem_cons_of_mem _ h)) hs
/-- the pairs of a tableswitch -/
def tswl : Int → List Int → List (Int × Int)
  | _, [] => []
  | lo, o :: os => (lo, o) :: tswl (lo + 1) os
theorem V_tsw {df lo hi x : Int} {offs : Array Int} {len : Nat} (h : decode m.2.2.2.1 pc = .ok (.tableswitch df lo hi offs, len)) (hn : hi + 1 - lo = (offs.size : Int)) (h0 : 0 ≤ (pc : Int) + df) (hps : ∀ q ∈ offs.toList, 0 ≤ (pc : Int) + q) : VV L d m pc ls (tI x :: st) w Q = vsw L d m pc ls st w Q x df (tswl lo offs.toList) := by
  have hs : stp L m pc ls (tI x :: st) w = ztsw pc ls st w x df lo offs.toList := by unfold stp; rw [h]; simp only [hn, if_true]
  clear h hn
  generalize offs.toList = l at hs hps ⊢
  suffices ∀ (l : List Int) (lo : Int) (pc1 : Nat) (ls1 : Lo) (st1 : List TV), (∀ q ∈ l, 0 ≤ (pc : Int) + q) → stp L m pc1 ls1 st1 w = ztsw pc ls st w x df lo l → VV L d m pc1 ls1 st1 w Q = vsw L d m pc ls st w Q x df (tswl lo l) from this l lo _ _ _ hps hs
  intro l
  induction l with
  | nil => intro lo pc1 ls1 st1 _ hs; unfold ztsw at hs; rw [zgo_nn h0] at hs; exact VV_c hs
  | cons o r ih =>
    intro lo pc1 ls1 st1 hq hs
    unfold ztsw at hs
    unfold tswl vsw
    by_cases hx : x = lo
    · rw [if_pos hx] at hs ⊢
      rw [zgo_nn (hq o List.mem_cons_self)] at hs
      exact VV_c hs
    · rw [if_neg hx] at hs ⊢
      exact ih _ _ _ _ (fun q h => hq q (List.mem_cons_of_mem _ h)) hs
-- fields
theorem V_getI {idx ci k a : Nat} (h : decode m.2.2.2.1 pc = .ok (.getfield idx, 3)) (hr : rF m.1 idx = some (ci, k)) (ht : fty ci k = 0 ∨ fty ci k = 2) : VV L d m pc ls (tA a :: st) w Q = ((sh L a).1 = ci ∧ VV L d m (pc + 3) ls (tI (w.2 a k) :: st) w Q) := VV_as (by unfold stp; rw [h]; rcases ht with ht | ht <;> simp [zget, hr, ht, ztyp, zc])
theorem V_getL {idx ci k a : Nat} (h : decode m.2.2.2.1 pc = .ok (.getfield idx, 3)) (hr : rF m.1 idx = some (ci, k)) (ht : fty ci k = 1) : VV L d m pc ls (tA a :: st) w Q = ((sh L a).1 = ci ∧ VV L d m (pc + 3) ls (tL (w.2 a k) :: st) w Q) := VV_as (by unfold stp; rw [h]; simp [zget, hr, ht, ztyp, zc])
theorem V_getA {idx ci k a : Nat} (h : decode m.2.2.2.1 pc = .ok (.getfield idx, 3)) (hr : rF m.1 idx = some (ci, k)) (ht : fty ci k = 3) : VV L d m pc ls (tA a :: st) w Q = ((sh L a).1 = ci ∧ VV L d m (pc + 3) ls (tA (w.2 a k).toNat :: st) w Q) := VV_as (by unfold stp; rw [h]; simp [zget, hr, ht, ztyp, zc])
theorem V_putI {idx ci k a : Nat} {x : Int} (h : decode m.2.2.2.1 pc = .ok (.putfield idx, 3)) (hr : rF m.1 idx = some (ci, k)) (ht : fty ci k = 0) (hf : ffin ci k = true → (zisInit m = true ∧ m.1 = ci)) : VV L d m pc ls (tI x :: tA a :: st) w Q = ((sh L a).1 = ci ∧ VV L d m (pc + 3) ls st (w.1, mset w.2 a k x) Q) := VV_as (by unfold stp; rw [h]; simp only [if_true, zput, hr, ht, eq_true hf, and_true]; by_cases hc : (sh L a).1 = ci <;> simp [hc, zc])
theorem V_putZ {idx ci k a : Nat} {x : Int} (h : decode m.2.2.2.1 pc = .ok (.putfield idx, 3)) (hr : rF m.1 idx = some (ci, k)) (ht : fty ci k = 2) (hf : ffin ci k = true → (zisInit m = true ∧ m.1 = ci)) : VV L d m pc ls (tI x :: tA a :: st) w Q = (((sh L a).1 = ci ∧ (x = 0 ∨ x = 1)) ∧ VV L d m (pc + 3) ls st (w.1, mset w.2 a k x) Q) := VV_as (by unfold stp; rw [h]; simp only [if_true, zput, hr, ht, eq_true hf, and_true]; by_cases hc : (sh L a).1 = ci <;> simp [hc, zc])
theorem V_putL {idx ci k a : Nat} {x : Int} (h : decode m.2.2.2.1 pc = .ok (.putfield idx, 3)) (hr : rF m.1 idx = some (ci, k)) (ht : fty ci k = 1) (hf : ffin ci k = true → (zisInit m = true ∧ m.1 = ci)) : VV L d m pc ls (tL x :: tA a :: st) w Q = ((sh L a).1 = ci ∧ VV L d m (pc + 3) ls st (w.1, mset w.2 a k x) Q) := VV_as (by unfold stp; rw [h]; simp only [if_true, zput, hr, ht, eq_true hf, and_true]; by_cases hc : (sh L a).1 = ci <;> simp [hc, zc])
theorem V_putA {idx ci k a b : Nat} (h : decode m.2.2.2.1 pc = .ok (.putfield idx, 3)) (hr : rF m.1 idx = some (ci, k)) (ht : fty ci k = 3) (hf : ffin ci k = true → (zisInit m = true ∧ m.1 = ci)) : VV L d m pc ls (tA b :: tA a :: st) w Q = (((sh L a).1 = ci ∧ b ≠ 0) ∧ VV L d m (pc + 3) ls st (w.1, mset w.2 a k b) Q) := VV_as (by unfold stp; rw [h]; simp only [if_true, zput, hr, ht, eq_true hf, and_true]; by_cases hc : (sh L a).1 = ci <;> by_cases hb : b = 0 <;> simp [hc, hb, zc])
-- arrays
theorem V_iald {a : Nat} {i : Int} (h : decode m.2.2.2.1 pc = .ok (.iaload, 1)) : VV L d m pc ls (tI i :: tA a :: st) w Q = ((((sh L a).1 = 20 ∨ (sh L a).1 = 27) ∧ 0 ≤ i ∧ i < ((sh L a).2 : Int)) ∧ VV L d m (pc + 1) ls (tI (w.2 a i.toNat) :: st) w Q) := VV_as (by unfold stp; rw [h]; simp [zald, ztyp, zc])
theorem V_lald {a : Nat} {i : Int} (h : decode m.2.2.2.1 pc = .ok (.laload, 1)) : VV L d m pc ls (tI i :: tA a :: st) w Q = (((sh L a).1 = 21 ∧ 0 ≤ i ∧ i < ((sh L a).2 : Int)) ∧ VV L d m (pc + 1) ls (tL (w.2 a i.toNat) :: st) w Q) := VV_as (by unfold stp; rw [h]; simp [zald, ztyp, zc])
theorem V_bald {a : Nat} {i : Int} (h : decode m.2.2.2.1 pc = .ok (.baload, 1)) : VV L d m pc ls (tI i :: tA a :: st) w Q = ((((sh L a).1 = 22 ∨ (sh L a).1 = 23) ∧ 0 ≤ i ∧ i < ((sh L a).2 : Int)) ∧ VV L d m (pc + 1) ls (tI (w.2 a i.toNat) :: st) w Q) := VV_as (by unfold stp; rw [h]; simp [zald, ztyp, zc])
theorem V_aald {a : Nat} {i : Int} (h : decode m.2.2.2.1 pc = .ok (.aaload, 1)) : VV L d m pc ls (tI i :: tA a :: st) w Q = ((((sh L a).1 = 24 ∨ (sh L a).1 = 25 ∨ (sh L a).1 = 26) ∧ 0 ≤ i ∧ i < ((sh L a).2 : Int)) ∧ VV L d m (pc + 1) ls (tA (w.2 a i.toNat).toNat :: st) w Q) := VV_as (by unfold stp; rw [h]; simp [zald, ztyp, zc])
theorem V_iast {a : Nat} {i x : Int} (h : decode m.2.2.2.1 pc = .ok (.iastore, 1)) : VV L d m pc ls (tI x :: tI i :: tA a :: st) w Q = (((sh L a).1 = 20 ∧ 0 ≤ i ∧ i < ((sh L a).2 : Int)) ∧ VV L d m (pc + 1) ls st (w.1, mset w.2 a i.toNat x) Q) := VV_as (by unfold stp; rw [h]; simp only [if_true, zast, zc]; by_cases h1 : (sh L a).1 = 20 <;> by_cases h2 : 0 ≤ i ∧ i < ((sh L a).2 : Int) <;> simp [h1, h2])
theorem V_bast {a : Nat} {i x : Int} (h : decode m.2.2.2.1 pc = .ok (.bastore, 1)) (hk : (sh L a).1 = 22) : VV L d m pc ls (tI x :: tI i :: tA a :: st) w Q = ((0 ≤ i ∧ i < ((sh L a).2 : Int)) ∧ VV L d m (pc + 1) ls st (w.1, mset w.2 a i.toNat (x.bmod 256)) Q) := VV_as (by unfold stp; rw [h]; simp only [if_true, zast, zc]; by_cases h2 : 0 ≤ i ∧ i < ((sh L a).2 : Int) <;> simp [hk, h2])
theorem V_zast {a : Nat} {i x : Int} (h : decode m.2.2.2.1 pc = .ok (.bastore, 1)) (hk : (sh L a).1 = 23) : VV L d m pc ls (tI x :: tI i :: tA a :: st) w Q = (((0 ≤ i ∧ i < ((sh L a).2 : Int)) ∧ (x = 0 ∨ x = 1)) ∧ VV L d m (pc + 1) ls st (w.1, mset w.2 a i.toNat x) Q) := VV_as (by unfold stp; rw [h]; simp only [if_true, zast, zc]; by_cases h2 : 0 ≤ i ∧ i < ((sh L a).2 : Int) <;> simp [hk, h2])
theorem V_last {a : Nat} {i x : Int} (h : decode m.2.2.2.1 pc = .ok (.lastore, 1)) : VV L d m pc ls (tL x :: tI i :: tA a :: st) w Q = (((sh L a).1 = 21 ∧ 0 ≤ i ∧ i < ((sh L a).2 : Int)) ∧ VV L d m (pc + 1) ls st (w.1, mset w.2 a i.toNat x) Q) := VV_as (by unfold stp; rw [h]; simp [zast, zc])
theorem V_aast {a v : Nat} {i : Int} (h : decode m.2.2.2.1 pc = .ok (.aastore, 1)) : VV L d m pc ls (tA v :: tI i :: tA a :: st) w Q = (((sh L a).1 = 24 ∧ (sh L v).1 = 1 ∧ 0 ≤ i ∧ i < ((sh L a).2 : Int)) ∧ VV L d m (pc + 1) ls st (w.1, mset w.2 a i.toNat v) Q) := VV_as (by unfold stp; rw [h]; simp [zast, zc])
theorem V_alen {a : Nat} (h : decode m.2.2.2.1 pc = .ok (.arraylength, 1)) : VV L d m pc ls (tA a :: st) w Q = ((20 ≤ (sh L a).1 ∧ (sh L a).1 ≤ 27) ∧ VV L d m (pc + 1) ls (tI ((sh L a).2 : Int) :: st) w Q) := VV_as (by unfold stp; rw [h]; simp [zalen, zc])
-- calls
theorem zargs_app (as r : List TV) : zargs as.length (as.reverse ++ r) = some (as, r) := by
  unfold zargs
  rw [if_pos (by simp)]
  simp [List.take_append_of_le_length, List.drop_append_of_le_length, List.take_of_length_le, List.drop_of_length_le]
theorem zcall_of {m' : Mth} {as r : List TV} (hn : as.length = m'.2.1) (h40 : m'.2.2.2.2.1 ≤ 40) (hle : (lent as).length ≤ m'.2.2.2.2.1) : zcall m' (as.reverse ++ r) = if tcats r ≤ 8 then some (.inr (.inr (m', as, r))) else none := by
  unfold zcall
  rw [← hn, zargs_app]
  simp [h40, hle]
theorem VV_ka {c : Prop} [Decidable c] {m' : Mth} {as rest : List TV} (h : stp L m pc ls st w = if c then some (.inr (.inr (m', as, rest))) else none) : VV L (d + 1) m pc ls st w Q = (c ∧ VV L d m' 0 (lentry m'.2.2.2.2.1 as) [] w (fun r w' => VV L (d + 1) m (pc + 3) ls (r.toList ++ rest) w' Q)) := by
  by_cases hc : c
  · rw [if_pos hc] at h; rw [VV_k h]; exact propext ⟨fun h => ⟨hc, h⟩, fun h => h.2⟩
  · rw [if_neg hc] at h; rw [VV_no h]; exact propext ⟨fun h => h.elim, fun h => (hc h.1).elim⟩
theorem V_inv {idx a : Nat} {m' : Mth} {as r : List TV} {ls' : Lo} (h : decode m.2.2.2.1 pc = .ok (.invokevirtual idx, 3)) (hr : rM m.1 idx = some (0, m')) (h12 : m'.1 < 12) (hn : (tA a :: as).length = m'.2.1) (h40 : m'.2.2.2.2.1 ≤ 40) (hle : (lent (tA a :: as)).length ≤ m'.2.2.2.2.1) (hst : (tA a :: as).reverse ++ r = st) (hls : lentry m'.2.2.2.2.1 (tA a :: as) = ls') : VV L (d + 1) m pc ls st w Q = (((sh L a).1 = m'.1 ∧ tcats r ≤ 8) ∧ VV L d m' 0 ls' [] w (fun r' w' => VV L (d + 1) m (pc + 3) ls (r'.toList ++ r) w' Q)) := by
  subst hst; subst hls
  refine VV_ka ?_
  unfold stp
  rw [h]
  simp only [if_true, zinv, hr]
  have hz : zrecv L m' ((tA a :: as).reverse ++ r) = decide ((sh L a).1 = m'.1) := by
    unfold zrecv
    rw [← hn, List.take_append_of_le_length (by simp), List.take_of_length_le (by simp), List.reverse_reverse]
    simp only [h12, and_true]
  rw [hz, zcall_of hn h40 hle]
  by_cases h1 : (sh L a).1 = m'.1 <;> by_cases h2 : tcats r ≤ 8 <;> simp [h1, h2]
theorem V_invS {idx k : Nat} {m' : Mth} {as r : List TV} {ls' : Lo} (h : decode m.2.2.2.1 pc = .ok (.invokestatic idx, 3)) (hr : rM m.1 idx = some (k, m')) (hk : k = 1 ∨ k = 3) (hn : as.length = m'.2.1) (h40 : m'.2.2.2.2.1 ≤ 40) (hle : (lent as).length ≤ m'.2.2.2.2.1) (hst : as.reverse ++ r = st) (hls : lentry m'.2.2.2.2.1 as = ls') : VV L (d + 1) m pc ls st w Q = (tcats r ≤ 8 ∧ VV L d m' 0 ls' [] w (fun r' w' => VV L (d + 1) m (pc + 3) ls (r'.toList ++ r) w' Q)) := by
  subst hst; subst hls
  refine VV_ka ?_
  unfold stp
  rw [h]
  simp only [if_true, zinv, hr]
  rw [zcall_of hn h40 hle]
  rcases hk with hk | hk <;> simp [hk]
theorem V_invI {idx k a : Nat} {m' : Mth} {as r : List TV} {ls' : Lo} (h : decode m.2.2.2.1 pc = .ok (.invokespecial idx, 3)) (hr : rM m.1 idx = some (k, m')) (hk : k = 2 ∨ k = 4 ∨ k = 5) (hn : (tA a :: as).length = m'.2.1) (h40 : m'.2.2.2.2.1 ≤ 40) (hle : (lent (tA a :: as)).length ≤ m'.2.2.2.2.1) (hst : (tA a :: as).reverse ++ r = st) (hls : lentry m'.2.2.2.2.1 (tA a :: as) = ls') : VV L (d + 1) m pc ls st w Q = ((a ≠ 0 ∧ tcats r ≤ 8) ∧ VV L d m' 0 ls' [] w (fun r' w' => VV L (d + 1) m (pc + 3) ls (r'.toList ++ r) w' Q)) := by
  subst hst; subst hls
  refine VV_ka ?_
  unfold stp
  rw [h]
  simp only [if_true, zinv, hr]
  have hz : (((tA a :: as).reverse ++ r).take m'.2.1).reverse = tA a :: as := by
    rw [← hn, List.take_append_of_le_length (by simp), List.take_of_length_le (by simp), List.reverse_reverse]
  rw [hz, zcall_of hn h40 hle]
  rcases hk with hk | hk | hk <;> by_cases h1 : a = 0 <;> simp [hk, h1]
theorem V_slen {idx a : Nat} (h : decode m.2.2.2.1 pc = .ok (.invokevirtual idx, 3)) (hr : rM m.1 idx = some (6, m_none)) : VV L d m pc ls (tA a :: st) w Q = (((sh L a).1 = 28 ∧ tcats st ≤ 8) ∧ VV L d m (pc + 3) ls (tI ((strs.getD (a - 901) []).length : Int) :: st) w Q) := VV_as (by unfold stp; rw [h]; simp [zinv, hr, zc])
theorem V_schar {idx a : Nat} {i : Int} (h : decode m.2.2.2.1 pc = .ok (.invokevirtual idx, 3)) (hr : rM m.1 idx = some (7, m_none)) : VV L d m pc ls (tI i :: tA a :: st) w Q = (((sh L a).1 = 28 ∧ tcats st ≤ 8 ∧ 0 ≤ i ∧ i < ((strs.getD (a - 901) []).length : Int)) ∧ VV L d m (pc + 3) ls (tI ((strs.getD (a - 901) []).getD i.toNat 0) :: st) w Q) := VV_as (by unfold stp; rw [h]; simp [zinv, hr, zc])
theorem V_acopy {idx s t : Nat} {n dp sp : Int} (h : decode m.2.2.2.1 pc = .ok (.invokestatic idx, 3)) (hr : rM m.1 idx = some (8, m_none)) : VV L d m pc ls (tI n :: tI dp :: tA t :: tI sp :: tA s :: st) w Q = ((tcats st ≤ 8 ∧ (sh L s).1 = 21 ∧ (sh L t).1 = 21 ∧ 0 ≤ n ∧ 0 ≤ dp ∧ 0 ≤ sp ∧ sp + n ≤ ((sh L s).2 : Int) ∧ dp + n ≤ ((sh L t).2 : Int)) ∧ VV L d m (pc + 3) ls st (w.1, zcopy w.2 s sp.toNat t dp.toNat n.toNat) Q) := VV_as (by unfold stp; rw [h]; simp [zinv, hr, zc])
theorem V_max {idx : Nat} {x y : Int} (h : decode m.2.2.2.1 pc = .ok (.invokestatic idx, 3)) (hr : rM m.1 idx = some (9, m_none)) : VV L d m pc ls (tI y :: tI x :: st) w Q = (tcats st ≤ 8 ∧ VV L d m (pc + 3) ls (tI (if x < y then y else x) :: st) w Q) := VV_as (by unfold stp; rw [h]; simp [zinv, hr, zc])
theorem V_min {idx : Nat} {x y : Int} (h : decode m.2.2.2.1 pc = .ok (.invokestatic idx, 3)) (hr : rM m.1 idx = some (10, m_none)) : VV L d m pc ls (tI y :: tI x :: st) w Q = (tcats st ≤ 8 ∧ VV L d m (pc + 3) ls (tI (if y < x then y else x) :: st) w Q) := VV_as (by unfold stp; rw [h]; simp [zinv, hr, zc])
-- makings
theorem V_new {idx ci : Nat} (h : decode m.2.2.2.1 pc = .ok (.new idx, 3)) (hr : rC m.1 idx = some ci) (hc : ci < 12) : VV L d m pc ls st w Q = (sh L (w.1 + 1) = (ci, fcount ci) ∧ VV L d m (pc + 3) ls (tA (w.1 + 1) :: st) (znew w 1 (fun _ _ => 0)) Q) := VV_as (by unfold stp; rw [h]; simp [hr, hc, zc])
theorem V_newarray {ty : ArrayType} {n : Int} (h : decode m.2.2.2.1 pc = .ok (.newarray ty, 2)) (hk : zatyp ty < 30) : VV L d m pc ls (tI n :: st) w Q = ((0 ≤ n ∧ n ≤ 100000 ∧ sh L (w.1 + 1) = (zatyp ty, n.toNat)) ∧ VV L d m (pc + 2) ls (tA (w.1 + 1) :: st) (znew w 1 (fun _ _ => 0)) Q) := VV_as (by unfold stp; rw [h]; simp [hk, zc])
theorem V_anew {idx : Nat} {n : Int} (h : decode m.2.2.2.1 pc = .ok (.anewarray idx, 3)) (hr : rC m.1 idx = some 1) : VV L d m pc ls (tI n :: st) w Q = ((0 ≤ n ∧ n ≤ 100000 ∧ sh L (w.1 + 1) = (24, n.toNat)) ∧ VV L d m (pc + 3) ls (tA (w.1 + 1) :: st) (znew w 1 (fun _ _ => 0)) Q) := VV_as (by unfold stp; rw [h]; simp [hr, zc])
theorem V_mna {idx kd : Nat} {n k : Int} (h : decode m.2.2.2.1 pc = .ok (.multianewarray idx 2, 4)) (hr : rC m.1 idx = some kd) (hk : kd = 25 ∨ kd = 26) : VV L d m pc ls (tI k :: tI n :: st) w Q = ((0 ≤ n ∧ 0 ≤ k ∧ n ≤ 1000 ∧ k ≤ 1000 ∧ sh L (w.1 + 1) = (kd, n.toNat) ∧ ((List.range n.toNat).all fun i => decide (sh L (w.1 + 2 + i) = (kd - 5, k.toNat))) = true) ∧ VV L d m (pc + 4) ls (tA (w.1 + 1) :: st) (znew w (n.toNat + 1) (fun i j => if i = 1 ∧ j < n.toNat then ((w.1 + 2 + j : Nat) : Int) else 0)) Q) := VV_as (by unfold stp; rw [h]; simp only [if_true, zmna, hr, hk, true_and, zc])
-- ends
theorem V_iret {x : Int} (h : decode m.2.2.2.1 pc = .ok (.ireturn, 1)) (hr : m.2.2.2.2.2 = some .int) : VV L d m pc ls [tI x] w Q = Q (some (tI x)) w := VV_r (by unfold stp; rw [h]; simp [hr])
theorem V_zret {x : Int} (h : decode m.2.2.2.1 pc = .ok (.ireturn, 1)) (hr : m.2.2.2.2.2 = some .boolean) : VV L d m pc ls [tI x] w Q = ((x = 0 ∨ x = 1) ∧ Q (some (tI x)) w) := by
  by_cases hc : x = 0 ∨ x = 1
  · rw [VV_r (r := some (tI x)) (by unfold stp; rw [h]; simp [hr, hc])]
    exact propext ⟨fun h => ⟨hc, h⟩, fun h => h.2⟩
  · rw [VV_no (by unfold stp; rw [h]; simp [hr, hc])]
    exact propext ⟨fun h => h.elim, fun h => (hc h.1).elim⟩
theorem V_lret {x : Int} (h : decode m.2.2.2.1 pc = .ok (.lreturn, 1)) (hr : m.2.2.2.2.2 = some .long) : VV L d m pc ls [tL x] w Q = Q (some (tL x)) w := VV_r (by unfold stp; rw [h]; simp [hr])
theorem V_aret {a : Nat} (h : decode m.2.2.2.1 pc = .ok (.areturn, 1)) (hr : m.2.2.2.2.2 = some (.object "ThereAndBack$Text")) : VV L d m pc ls [tA a] w Q = (a ≠ 0 ∧ Q (some (tA a)) w) := by
  by_cases hc : a = 0
  · rw [VV_no (by unfold stp; rw [h]; simp [hr, hc])]
    exact propext ⟨fun h => h.elim, fun h => (h.1 hc).elim⟩
  · rw [VV_r (r := some (tA a)) (by unfold stp; rw [h]; simp [hr, hc])]
    exact propext ⟨fun h => ⟨hc, h⟩, fun h => h.2⟩
theorem V_ret (h : decode m.2.2.2.1 pc = .ok (.return_, 1)) (hr : m.2.2.2.2.2 = none) : VV L d m pc ls [] w Q = Q none w := VV_r (by unfold stp; rw [h]; simp [hr])
end VR2
