/-! cells of the small machine as cells of the heap -/
section WO
variable {L : Nat} {aT : Nat → ClassId} {ρ : Nat → Nat} {w : Wd}
theorem eW_cell {a : Nat} (h1 : 1 ≤ a) (h2 : a ≤ w.1) : (eW L aT ρ w)[a - 1]? = some (ρ a, eC L aT ρ w.2 a) := by
  unfold eW
  rw [List.getElem?_map, List.getElem?_range (by omega)]
  simp only [Option.map_some]
  rw [show a - 1 + 1 = a by omega]
theorem eW_len : (eW L aT ρ w).length = w.1 := by unfold eW; simp
theorem eC_obj {mem : Mem} {a : Nat} (h : (sh L a).1 < 12) : eC L aT ρ mem a = .inr ((sh L a).1, (List.range (fcount (sh L a).1)).map (fun k => eV ρ (ztyp (fty (sh L a).1 k) (mem a k)))) := by unfold eC; rw [if_pos h]
theorem eC_arr {mem : Mem} {a : Nat} (h : ¬ (sh L a).1 < 12) : eC L aT ρ mem a = .inl (aT (sh L a).1, (sh L a).2, eA ρ (sh L a).1 (mem a)) := by unfold eC; rw [if_neg h]
theorem mset_ne {mem : Mem} {a k b : Nat} {v : Int} (h : b ≠ a) : mset mem a k v b = mem b := by
  funext j
  unfold mset
  rw [if_neg (fun q => h q.1)]
theorem mset_same {mem : Mem} {a k : Nat} {v : Int} : mset mem a k v a k = v := by unfold mset; rw [if_pos ⟨rfl, rfl⟩]
theorem mset_off {mem : Mem} {a k j : Nat} {v : Int} (h : j ≠ k) : mset mem a k v a j = mem a j := by unfold mset; rw [if_neg (fun q => h q.2)]
theorem eC_congr {mem mem' : Mem} {b : Nat} (h : mem' b = mem b) : eC L aT ρ mem' b = eC L aT ρ mem b := by unfold eC; rw [h]
/-- one cell changes -/
theorem eW_set {mem' : Mem} {a : Nat} (h1 : 1 ≤ a) (hoth : ∀ b, b ≠ a → mem' b = w.2 b) : eW L aT ρ (w.1, mem') = (eW L aT ρ w).set (a - 1) (ρ a, eC L aT ρ mem' a) := by
  apply List.ext_getElem?
  intro i
  by_cases hi : i < w.1
  · rw [show i = (i + 1) - 1 by omega, eW_cell (w := (w.1, mem')) (by omega) (by show i + 1 ≤ w.1; omega)]
    by_cases e : i + 1 = a
    · subst e
      rw [List.getElem?_set_self (by rw [eW_len]; omega)]
    · rw [List.getElem?_set_ne (by omega), eW_cell (by omega) (by omega)]
      rw [eC_congr (hoth _ e)]
  · rw [List.getElem?_eq_none (by rw [eW_len]; omega), List.getElem?_eq_none (by rw [List.length_set, eW_len]; omega)]
theorem eC_setO {mem : Mem} {a k : Nat} {v : Int} (h : (sh L a).1 < 12) : eC L aT ρ (mset mem a k v) a = .inr ((sh L a).1, ((List.range (fcount (sh L a).1)).map (fun k => eV ρ (ztyp (fty (sh L a).1 k) (mem a k)))).set k (eV ρ (ztyp (fty (sh L a).1 k) v))) := by
  rw [eC_obj h]
  congr 2
  apply List.ext_getElem?
  intro j
  by_cases hj : j < fcount (sh L a).1
  · by_cases e : j = k
    · subst e
      rw [List.getElem?_set_self (by simp; omega), List.getElem?_map, List.getElem?_range hj]
      simp only [Option.map_some, mset_same]
    · rw [List.getElem?_set_ne (Ne.symm e), List.getElem?_map, List.getElem?_map, List.getElem?_range hj]
      simp only [Option.map_some, mset_off e]
  · rw [List.getElem?_eq_none (by simp; omega), List.getElem?_eq_none (by simp; omega)]
theorem eA_i {k : Nat} {f : Nat → Int} (h1 : k ≠ 21) (h2 : ¬ (k = 24 ∨ k = 25 ∨ k = 26)) : eA ρ k f = .inl (fun j => Int32.ofInt (f j)) := by unfold eA; rw [if_neg h1, if_neg h2]
theorem eA_l {f : Nat → Int} : eA ρ 21 f = .inr (.inl (fun j => Int64.ofInt (f j))) := by unfold eA; rw [if_pos rfl]
theorem eA_q {k : Nat} {f : Nat → Int} (h2 : k = 24 ∨ k = 25 ∨ k = 26) : eA ρ k f = .inr (.inr (.inr (.inr (fun j => if (f j).toNat = 0 then none else some (ρ (f j).toNat))))) := by unfold eA; rw [if_neg (by omega), if_pos h2]
theorem upd_i {mem : Mem} {a k : Nat} {v : Int} : (fun j => Int32.ofInt (mset mem a k v a j)) = upd (fun j => Int32.ofInt (mem a j)) k (Int32.ofInt v) := by
  funext j
  unfold upd
  by_cases e : j = k
  · subst e; rw [if_pos rfl, mset_same]
  · rw [if_neg e, mset_off e]
theorem upd_l {mem : Mem} {a k : Nat} {v : Int} : (fun j => Int64.ofInt (mset mem a k v a j)) = vp_updL (fun j => Int64.ofInt (mem a j)) k (Int64.ofInt v) := by
  funext j
  unfold vp_updL
  by_cases e : j = k
  · subst e; rw [if_pos rfl, mset_same]
  · rw [if_neg e, mset_off e]
theorem upd_q {mem : Mem} {a k v : Nat} (hv : v ≠ 0) : (fun j => if (mset mem a k (v : Int) a j).toNat = 0 then none else some (ρ (mset mem a k (v : Int) a j).toNat)) = va_up (fun j => if (mem a j).toNat = 0 then none else some (ρ (mem a j).toNat)) k (some (ρ v)) := by
  funext j
  unfold va_up
  by_cases e : j = k
  · subst e; rw [if_pos rfl, mset_same, Int.toNat_natCast, if_neg hv]
  · rw [if_neg e, mset_off e]
-- ranges
theorem okV_mono {nc nc' : Nat} (h : nc ≤ nc') {v : TV} (hv : okV nc v) : okV nc' v := by
  match v with
  | .inl x => exact hv
  | .inr (.inl x) => exact hv
  | .inr (.inr a) => exact Or.imp (fun q => Nat.le_trans q h) id hv
theorem okM_get {a k : Nat} (h : okM L w) (h1 : 1 ≤ a) (h2 : a ≤ w.1) (hk : (sh L a).1 < 12) (hf : k < fcount (sh L a).1) : okV w.1 (ztyp (fty (sh L a).1 k) (w.2 a k)) := (h a h1 h2).1 hk k hf
theorem okM_arr {a k : Nat} (h : okM L w) (h1 : 1 ≤ a) (h2 : a ≤ w.1) (hk : ¬ (sh L a).1 < 12) : okV w.1 (ztyp (aty (sh L a).1) (w.2 a k)) := (h a h1 h2).2 hk k
theorem okM_setO {a k : Nat} {v : Int} (h : okM L w) (hk : (sh L a).1 < 12) (hv : okV w.1 (ztyp (fty (sh L a).1 k) v)) : okM L (w.1, mset w.2 a k v) := by
  intro b h1 h2
  refine ⟨fun hb j hj => ?_, fun hb j => ?_⟩
  · by_cases e : b = a
    · subst e
      by_cases e2 : j = k
      · subst e2; show okV w.1 (ztyp _ (mset w.2 b j v b j)); rw [mset_same]; exact hv
      · show okV w.1 (ztyp _ (mset w.2 b k v b j)); rw [mset_off e2]; exact (h b h1 h2).1 hb j hj
    · show okV w.1 (ztyp _ (mset w.2 a k v b j)); rw [mset_ne e]; exact (h b h1 h2).1 hb j hj
  · by_cases e : b = a
    · subst e; exact absurd hk hb
    · show okV w.1 (ztyp _ (mset w.2 a k v b j)); rw [mset_ne e]; exact (h b h1 h2).2 hb j
theorem okM_setA {a k : Nat} {v : Int} (h : okM L w) (hk : ¬ (sh L a).1 < 12) (hv : okV w.1 (ztyp (aty (sh L a).1) v)) : okM L (w.1, mset w.2 a k v) := by
  intro b h1 h2
  refine ⟨fun hb j hj => ?_, fun hb j => ?_⟩
  · by_cases e : b = a
    · subst e; exact absurd hb hk
    · show okV w.1 (ztyp _ (mset w.2 a k v b j)); rw [mset_ne e]; exact (h b h1 h2).1 hb j hj
  · by_cases e : b = a
    · subst e
      by_cases e2 : j = k
      · subst e2; show okV w.1 (ztyp _ (mset w.2 b j v b j)); rw [mset_same]; exact hv
      · show okV w.1 (ztyp _ (mset w.2 b k v b j)); rw [mset_off e2]; exact (h b h1 h2).2 hb j
    · show okV w.1 (ztyp _ (mset w.2 a k v b j)); rw [mset_ne e]; exact (h b h1 h2).2 hb j
-- new cells
/-- two maps of cells that agree on what is there -/
def agr (ρ ρ' : Nat → Nat) (nc : Nat) : Prop := ∀ a, (a ≤ nc ∨ 900 ≤ a) → ρ' a = ρ a
theorem agr.rf {ρ : Nat → Nat} {nc : Nat} : agr ρ ρ nc := fun _ _ => rfl
theorem agr.tr {ρ ρ' ρ'' : Nat → Nat} {nc nc' : Nat} (h : agr ρ ρ' nc) (h' : agr ρ' ρ'' nc') (hn : nc ≤ nc') : agr ρ ρ'' nc := fun a ha => (h' a (by omega)).trans (h a ha)
theorem eV_agr {ρ ρ' : Nat → Nat} {nc : Nat} (h : agr ρ ρ' nc) {v : TV} (hv : okV nc v) : eV ρ' v = eV ρ v := by
  match v with
  | .inl x => rfl
  | .inr (.inl x) => rfl
  | .inr (.inr a) => show (if a = 0 then Value.null else Value.ref (ρ' a)) = (if a = 0 then Value.null else Value.ref (ρ a)); rw [h a hv]
theorem eC_agr {ρ ρ' : Nat → Nat} (h : agr ρ ρ' w.1) (hM : okM L w) {a : Nat} (h1 : 1 ≤ a) (h2 : a ≤ w.1) : eC L aT ρ' w.2 a = eC L aT ρ w.2 a := by
  by_cases hk : (sh L a).1 < 12
  · rw [eC_obj hk, eC_obj hk]
    congr 2
    apply List.map_congr_left
    intro k hk2
    exact eV_agr h (okM_get hM h1 h2 hk (List.mem_range.mp hk2))
  · rw [eC_arr hk, eC_arr hk]
    congr 3
    unfold eA
    by_cases e1 : (sh L a).1 = 21
    · rw [if_pos e1, if_pos e1]
    · rw [if_neg e1, if_neg e1]
      by_cases e2 : (sh L a).1 = 24 ∨ (sh L a).1 = 25 ∨ (sh L a).1 = 26
      · rw [if_pos e2, if_pos e2]
        congr 4
        funext j
        have := okM_arr (k := j) hM h1 h2 hk
        unfold aty at this
        rw [if_neg e1, if_pos e2] at this
        have h3 : (w.2 a j).toNat ≤ w.1 ∨ 900 ≤ (w.2 a j).toNat := this
        rw [h _ h3]
      · rw [if_neg e2, if_neg e2]
theorem eW_agr {ρ ρ' : Nat → Nat} (h : agr ρ ρ' w.1) (hM : okM L w) : eW L aT ρ' w = eW L aT ρ w := by
  unfold eW
  apply List.map_congr_left
  intro i hi
  have := List.mem_range.mp hi
  rw [h (i + 1) (by omega), eC_agr h hM (by omega) (by omega)]
theorem lvl_agr {ρ ρ' : Nat → Nat} {nc : Nat} {ls : Lo} (h : agr ρ ρ' nc) (hv : ∀ v, some v ∈ ls → okV nc v) : lvl ρ' ls = lvl ρ ls := by
  unfold lvl
  congr 1
  funext i
  match hl : ls[i]? with
  | some (some v) => simp only []; rw [eV_agr h (hv v (List.mem_of_getElem? hl))]
  | some none => rfl
  | none => rfl
theorem map_agr {ρ ρ' : Nat → Nat} {nc : Nat} {st : List TV} (h : agr ρ ρ' nc) (hv : ∀ v ∈ st, okV nc v) : st.map (eV ρ') = st.map (eV ρ) := List.map_congr_left fun v hm => eV_agr h (hv v hm)
theorem znew_old {n a : Nat} {f : Nat → Nat → Int} (h : a ≤ w.1) : (znew w n f).2 a = w.2 a := by
  funext k
  unfold znew
  simp only []
  rw [if_neg (by omega)]
theorem okM_new {n : Nat} {f : Nat → Nat → Int} (h : okM L w) (hf : ∀ i k, 1 ≤ i → i ≤ n → (((sh L (w.1 + i)).1 < 12 → k < fcount (sh L (w.1 + i)).1 → okV (w.1 + n) (ztyp (fty (sh L (w.1 + i)).1 k) (f i k))) ∧ (¬ (sh L (w.1 + i)).1 < 12 → okV (w.1 + n) (ztyp (aty (sh L (w.1 + i)).1) (f i k))))) : okM L (znew w n f) := by
  intro a h1 h2
  have h2' : a ≤ w.1 + n := h2
  by_cases ha : a ≤ w.1
  · rw [znew_old ha]
    exact ⟨fun q k hk => okV_mono (by show w.1 ≤ w.1 + n; omega) ((h a h1 ha).1 q k hk), fun q k => okV_mono (by show w.1 ≤ w.1 + n; omega) ((h a h1 ha).2 q k)⟩
  · have e : a = w.1 + (a - w.1) := by omega
    have hz : ∀ k, (znew w n f).2 a k = f (a - w.1) k := by
      intro k
      unfold znew
      simp only []
      rw [if_pos (by omega)]
    refine ⟨fun q k hk => ?_, fun q k => ?_⟩
    · rw [hz]
      have := (hf (a - w.1) k (by omega) (by omega)).1
      rw [← e] at this
      exact this q hk
    · rw [hz]
      have := (hf (a - w.1) k (by omega) (by omega)).2
      rw [← e] at this
      exact this q
end WO
