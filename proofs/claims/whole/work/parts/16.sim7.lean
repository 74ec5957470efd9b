/-! a call of the small machine is a call of the machine -/
theorem zcall_inv {m' : Mth} {st : List TV} {X : StR} (h : zcall m' st = some X) : ∃ as r, X = .inr (.inr (m', as, r)) ∧ as.length = m'.2.1 ∧ as = (st.take m'.2.1).reverse ∧ st = as.reverse ++ r ∧ tcats r ≤ 8 ∧ m'.2.2.2.2.1 ≤ 40 ∧ (lent as).length ≤ m'.2.2.2.2.1 := by
  unfold zcall zargs at h
  by_cases hn : m'.2.1 ≤ st.length
  · rw [if_pos hn] at h
    dsimp only at h
    obtain ⟨⟨h1, h2, h3⟩, h4⟩ := if_some h
    cases h4
    refine ⟨_, _, rfl, ?_, rfl, ?_, h1, h2, h3⟩
    · rw [List.length_reverse, List.length_take]; omega
    · rw [List.reverse_reverse, List.take_append_drop]
  · rw [if_neg hn] at h
    cases h
theorem tcats_sum (ρ : Nat → Nat) (st : List TV) : ((st.map (eV ρ)).map fun v => v.category).sum = tcats st := by
  induction st with
  | nil => rfl
  | cons v r ih => rw [List.map_cons, List.map_cons, List.sum_cons, ih, eV_cat]; rfl
theorem zinv_call {L : Nat} {m m' : Mth} {idx pc o : Nat} {ls : Lo} {st as rest : List TV} {w : Wd} (h : zinv L m idx pc ls st w o = some (.inr (.inr (m', as, rest)))) : ∃ k, rM m.1 idx = some (k, m') ∧ as.length = m'.2.1 ∧ st = as.reverse ++ rest ∧ tcats rest ≤ 8 ∧ m'.2.2.2.2.1 ≤ 40 ∧ (lent as).length ≤ m'.2.2.2.2.1 ∧ ((o = 0 ∧ k = 0 ∧ ∃ a as', as = tA a :: as' ∧ (sh L a).1 = m'.1 ∧ m'.1 < 12) ∨ (o = 1 ∧ (k = 1 ∨ k = 3)) ∨ (o = 2 ∧ (k = 2 ∨ k = 4 ∨ k = 5) ∧ ∃ a as', as = tA a :: as' ∧ a ≠ 0)) := by
  unfold zinv at h
  split at h
  · cases h
  · rename_i k m2 hr
    split at h
    · rename_i ho
      obtain ⟨h1, h2⟩ := if_some h
      obtain ⟨as2, r2, e1, e2, e3, e4, e5, e6, e7⟩ := zcall_inv h2
      cases e1
      refine ⟨k, hr, e2, e4, e5, e6, e7, Or.inl ⟨ho.1, ho.2, ?_⟩⟩
      unfold zrecv at h1
      rw [← e3] at h1
      match as, h1 with
      | .inr (.inr a) :: r, h1 => exact ⟨a, r, rfl, (of_decide_eq_true h1).1, (of_decide_eq_true h1).2⟩
    · split at h
      · rename_i ho
        obtain ⟨as2, r2, e1, e2, e3, e4, e5, e6, e7⟩ := zcall_inv h
        cases e1
        exact ⟨k, hr, e2, e4, e5, e6, e7, Or.inr (Or.inl ho)⟩
      · split at h
        · rename_i ho
          split at h
          · rename_i a r ha
            split at h
            · cases h
            · rename_i ha0
              obtain ⟨as2, r2, e1, e2, e3, e4, e5, e6, e7⟩ := zcall_inv h
              cases e1
              exact ⟨k, hr, e2, e4, e5, e6, e7, Or.inr (Or.inr ⟨ho.1, ho.2, a, r, e3.trans ha, ha0⟩)⟩
          · cases h
        · exfalso
          repeat' (first | (cases h; done) | split at h)
section SIM
variable {l : Launch} {L : Nat} {D : va_G} {aT : Nat → ClassId} {xs : Nat → Int32} {m : Mth} {p : Program} {e : Env} {R : Room} {s : State} {mi : MethodId} {args : Array Value} {below : List Frame} {meth : Method} {c : Code} {A : Nat → Prop} {ρ : Nat → Nat} {H : Heap} {locs : List Loc} {cells slots : Nat} {Q : State → Prop}
theorem my_call {pc mc ms : Nat} {lm : Array Slot} {st0 rest : List Value} {w w' : Wd} {r : Option TV} {A1 : Nat → Prop} {a : Array Value} (hr : va_Run p l e R s mi args below meth c H locs cells slots mc ms (F0 mi pc lm st0) rest (QB L D aT xs ρ w w' r A1 a) A1) (hS : va_S A s.heap H locs) (hA1 : ∀ q, A1 q → A q)
    (kk : ∀ ρ' H1 locs1, agr ρ ρ' w.1 → va_P D cls_ (eW L aT ρ' w') H1 → va_D A (eW L aT ρ' w') → va_S A s.heap H1 locs1 → (okW L xs w' ∧ ∀ v ∈ r.toList, okV w'.1 v) → W p l e R s mi args below meth c H1 locs1 (cells + mc) (slots + ms) Q (F0 mi (pc + 3) lm ((r.map (eV ρ')).toList ++ rest))) : W p l e R s mi args below meth c H locs cells slots Q (F0 mi pc lm st0) := by
  intro T hT X
  obtain ⟨v, st₀, t, T', Lc, h0, X', hL, e1, e2, ⟨ρ', hag, hv, hP, hD, hoK, hz, hk⟩, st⟩ := hr T hT X
  have hv' : v = r.map (eV ρ') := by injection hv
  subst hv'
  rw [h0] at hz hk
  obtain ⟨t2, a1, b1⟩ := kk ρ' T'.heap (locs ++ Lc) hag (by rw [e1]; exact hP) (hD.weaken (fun _ q _ h => hA1 q.1 h)) ⟨Nat.le_trans hS.1 (by rw [e1]; exact hz), fun q h1 h2 => by rw [e1, hk q (Nat.lt_of_lt_of_le h1 hS.1) (fun z => h2 (hA1 q z))]; exact hS.2.1 q h1 h2, fun q hq => by
      rcases List.mem_append.mp hq with h | h
      · exact hS.2.2 q h
      · exact hA1 _ (hL q h)⟩ hoK T' rfl X'
  exact ⟨t2, st t2 a1, b1⟩
-- the places of the two words are printed by a program: they change with the tables
theorem obj_i : Cond.instanceMethod Lib.objectInit ∈ Gd := gd_1 27 rfl rfl
theorem obj_c : Cond.code Lib.objectInit ⟨#[0xb1]⟩ 1 none ∈ Gd := gd_1 28 rfl rfl
set_option maxRecDepth 100000 in
set_option maxHeartbeats 2000000 in
theorem sim_call {n d pc idx o : Nat} {ls : Lo} {st as rest : List TV} {w w1 : Wd} {r : Option TV} {m' : Mth} {lm : Array Slot} {i : Instr} (hSim : SimN l L D aT xs n) (C : Cx L D aT xs m p s mi args meth c A ρ) (hd : decode m.2.2.2.1 pc = .ok (i, 3)) (hi : (i = .invokevirtual idx ∧ o = 0) ∨ (i = .invokestatic idx ∧ o = 1) ∨ (i = .invokespecial idx ∧ o = 2))
    (h : zinv L m idx pc ls st w o = some (.inr (.inr (m', as, rest)))) (hrun : mrun L n d m' 0 (lentry m'.2.2.2.2.1 as) [] w = some (r, w1))
    (I : Iv L D aT xs s A ρ w H locs) (hl : Lv ρ lm ls m.2.2.2.2.1 w.1) (hst : ∀ v ∈ st, okV w.1 v) (hfr : d + 1 + 8 ≤ R.frames) (hlo : 64 * (d + 1) + 600 ≤ R.locals) (hce : cells + (w1.1 - w.1) ≤ R.cells) (hsl : slots + (ssum L w1.1 - ssum L w.1) ≤ R.slots)
    (K : ∀ ρ' H1 locs1, agr ρ ρ' w.1 → va_P D cls_ (eW L aT ρ' w1) H1 → va_D A (eW L aT ρ' w1) → va_S A s.heap H1 locs1 → (okW L xs w1 ∧ ∀ v ∈ r.toList, okV w1.1 v) → W p l e R s mi args below meth c H1 locs1 (cells + (w1.1 - w.1)) (slots + (ssum L w1.1 - ssum L w.1)) Q (F0 mi (pc + 3) lm ((r.map (eV ρ')).toList ++ rest.map (eV ρ)))) :
    W p l e R s mi args below meth c H locs cells slots Q (F0 mi pc lm (st.map (eV ρ))) := by
  obtain ⟨hx, hb, hml, hown, hts, hin, hA, hS0⟩ := id C
  obtain ⟨k, hr, hn, hstk, h8, h40, hle, hcase⟩ := zinv_call h
  have hlk := rM_mem hr
  have has : ∀ v ∈ as, okV w.1 v := fun v hv => hst v (by rw [hstk]; exact List.mem_append_left _ (List.mem_reverse.mpr hv))
  have hfree : ∀ q, va_A (eW L aT ρ w) H.size q → A q := va_free (wc := eW L aT ρ w) I.2.1 I.2.2.1 hA (List.range w.1) (by
    apply List.ext_getElem?
    intro j
    rw [List.getElem?_map, List.getElem?_map]
    by_cases hj : j < w.1
    · rw [List.getElem?_range hj]
      show some ((eW L aT ρ w)[j]?) = _
      rw [show j = (j + 1) - 1 by omega, eW_cell (by omega) (by omega)]
      rfl
    · rw [List.getElem?_eq_none (by simp; omega), List.getElem?_eq_none (by rw [eW_len]; omega)]
      rfl)
  have hpre : ∀ U : State, U.heap = H → s.WarmedH U.vm → PreB L D aT xs ρ w H.size U := fun U hU hW => ⟨by rw [hU], by rw [hU]; exact I.1, I.2.1.weaken (fun _ _ _ _ => trivial), hS0.move I.2.2.1 hfree hU hW⟩
  have hblind : FrameBlind (va_Pc (as.map (eV ρ)) (PreB L D aT xs ρ w H.size)) := by
    intro a U g mk q
    obtain ⟨q0, q1, q2, q3, q4⟩ := q
    exact ⟨q0, q1, q2, q3, q4.call⟩
  have hlv : lm.size = m.2.2.2.2.1 := hl.1.1
  have hroom : 2 * (F0 mi pc lm (st.map (eV ρ))).monitorRoom + ((rest.map (eV ρ)).map fun v => v.category).sum ≤ 8 := lv_room (by rw [tcats_sum]; exact h8)
  have hgood : okMm m' → ∀ w ∈ (Cond.code m'.2.2.1 m'.2.2.2.1 m'.2.2.2.2.1 m'.2.2.2.2.2 :: Gd), ∀ (a' : Array Value) (U : State), s.WarmedH U.vm → w.before a' U = true := by
    intro hok w hw a' U hW
    have hw' : w ∈ Gd := by
      rcases List.mem_cons.mp hw with q | q
      · rw [q]; exact hok.1
      · exact q
    exact word_at hW (good_of_word (gd_good hw')) (hts w hw')
  have hCB : ∀ (np : Nat), okMm m' → npar m'.2.2.1 = some np → Cond.methodLink (cnm m.1) idx m'.2.2.1 ∈ Gd → CallB R s args (cnm m.1) idx m'.2.2.1 m'.2.2.2.1 m'.2.2.2.2.1 m'.2.2.2.2.2 (Cond.code m'.2.2.1 m'.2.2.2.1 m'.2.2.2.2.1 m'.2.2.2.2.2 :: Gd) { frames := d + 8, cells := w1.1 - w.1, slots := ssum L w1.1 - ssum L w.1, locals := 64 * d + 600 } (w1.1 - w.1) (ssum L w1.1 - ssum L w.1) np := by
    intro np hok hnp hlink
    refine ⟨rfl, rfl, by show d + 8 + 1 ≤ R.frames; omega, by show 8 + (m'.2.2.2.2.1 + 11) + (64 * d + 600) ≤ R.locals; omega, hgood hok, List.mem_cons_self, hts _ hok.1, hts _ hok.2.1, hok.2.2.2.1, ?_, hts _ hlink⟩
    intro sig hsig
    unfold npar at hnp
    rw [hsig] at hnp
    exact (Option.some.inj hnp).symm
  have hCN : ∀ (np : Nat), okMm m' → npar m'.2.2.1 = some np → Cond.methodLinkNest (cnm m.1) idx m'.2.2.1 "ThereAndBack" ∈ lw_tbl → va_CN R s args (cnm m.1) idx m'.2.2.1 "ThereAndBack" m'.2.2.2.1 m'.2.2.2.2.1 m'.2.2.2.2.2 (Cond.code m'.2.2.1 m'.2.2.2.1 m'.2.2.2.2.1 m'.2.2.2.2.2 :: Gd) { frames := d + 8, cells := w1.1 - w.1, slots := ssum L w1.1 - ssum L w.1, locals := 64 * d + 600 } (w1.1 - w.1) (ssum L w1.1 - ssum L w.1) np := by
    intro np hok hnp hlink
    refine ⟨⟨rfl, rfl, by show d + 8 + 1 ≤ R.frames; omega, by show 8 + (m'.2.2.2.2.1 + 11) + (64 * d + 600) ≤ R.locals; omega, hgood hok, List.mem_cons_self⟩, hts _ hok.1, hts _ hok.2.1, hok.2.2.2.1, ?_, va_Nw.use rfl (hS0.2.1 _ _ _ _ hlink)⟩
    intro sig hsig
    unfold npar at hnp
    rw [hsig] at hnp
    exact (Option.some.inj hnp).symm
  have hmet : okMm m' → _ := fun hok => met_of (ρ := ρ) (sz := H.size) hSim hrun hok hle has ⟨I.2.2.2.1, I.2.2.2.2.1, I.2.2.2.2.2⟩
  have hfx : CallFix p mi c m.2.2.2.1 m.2.2.2.2.1 s args Gd (cnm m.1) := ⟨hx, hb, hml, hown, hts⟩
  rcases hcase with ⟨rfl, rfl, a, as', rfl, hsha, h12⟩ | ⟨rfl, hk⟩ | ⟨rfl, hk, a, as', rfl, ha0⟩
  · have ei : i = .invokevirtual idx := by rcases hi with ⟨q, z⟩ | ⟨q, z⟩ | ⟨q, z⟩ <;> first | exact q | omega
    subst ei
    obtain ⟨k1, k2, k3, k4, k5, hok⟩ := hlk
    obtain ⟨a1, a2⟩ := in_w (L := L) (okh has) (by omega)
    have hcell := eW_cell (L := L) (aT := aT) (ρ := ρ) a1 a2
    rw [eC_obj (by omega), hsha] at hcell
    refine my_call (va_runV (As := as'.map (eV ρ)) (rest := rest.map (eV ρ)) (b := ρ a) (C := cnm m'.1) (n := m'.2.1 - 1) hfx (hmet hok) ⟨hCB _ hok k4 k1, hts _ k2, hts _ k3⟩ ⟨hblind, va_recv hS0.1 I.1 (cls_at _ h12) hcell, fun U hU hW => ⟨?_, hpre U hU hW⟩⟩ rfl ?_ hlv ?_ hroom hd ⟨hce, hsl⟩) I.2.2.1 hfree K
    · rw [List.map_cons, eVa (by omega)]
    · rw [List.length_map]; rw [List.length_cons] at hn; omega
    · show st.map (eV ρ) = _
      rw [hstk, List.map_append, List.map_reverse, List.map_cons, eVa (by omega), List.reverse_cons, List.append_assoc]
      rfl
  · have ei : i = .invokestatic idx := by rcases hi with ⟨q, z⟩ | ⟨q, z⟩ | ⟨q, z⟩ <;> first | exact q | omega
    subst ei
    have hstk2 : (F0 mi pc lm (st.map (eV ρ))).stack = (as.map (eV ρ)).reverse ++ rest.map (eV ρ) := by
      show st.map (eV ρ) = _
      rw [hstk, List.map_append, List.map_reverse]
    rcases hk with rfl | rfl
    · obtain ⟨k1, k2, k3, hok⟩ := hlk
      exact my_call (va_runS (As := as.map (eV ρ)) (rest := rest.map (eV ρ)) (n := m'.2.1) hfx (hmet hok) ⟨hCB _ hok k3 k1, hts _ k2⟩ ⟨hblind, fun U hU hW => ⟨rfl, hpre U hU hW⟩⟩ rfl (by rw [List.length_map]; exact hn) hlv hstk2 hroom hd ⟨hce, hsl⟩) I.2.2.1 hfree K
    · obtain ⟨k1, k2, k3, hok⟩ := hlk
      exact my_call (va_runSN (As := as.map (eV ρ)) (rest := rest.map (eV ρ)) (n := m'.2.1) hfx (hmet hok) ⟨hCN _ hok k3 k1, hts _ k2, trivial⟩ ⟨hblind, fun U hU hW => ⟨rfl, hpre U hU hW⟩⟩ rfl (by rw [List.length_map]; exact hn) hlv hstk2 hroom hd ⟨hce, hsl⟩) I.2.2.1 hfree K
  · have ei : i = .invokespecial idx := by rcases hi with ⟨q, z⟩ | ⟨q, z⟩ | ⟨q, z⟩ <;> first | exact q | omega
    subst ei
    have hstk2 : (F0 mi pc lm (st.map (eV ρ))).stack = (as'.map (eV ρ)).reverse ++ .ref (ρ a) :: rest.map (eV ρ) := by
      show st.map (eV ρ) = _
      rw [hstk, List.map_append, List.map_reverse, List.map_cons, eVa ha0, List.reverse_cons, List.append_assoc]
      rfl
    have harr : ((Value.ref (ρ a) :: as'.map (eV ρ)).toArray) = ((tA a :: as').map (eV ρ)).toArray := by rw [List.map_cons, eVa ha0]
    rcases hk with rfl | rfl | rfl
    · obtain ⟨k1, k2, k3, k4, k5, k6, hok⟩ := hlk
      have hcb := hCB _ hok k3 k1
      rw [k6] at hcb
      have hm := hmet hok
      rw [k6] at hm
      exact my_call (va_runI (As := as'.map (eV ρ)) (rest := rest.map (eV ρ)) (b := ρ a) (n := m'.2.1 - 1) hfx hm ⟨hcb, k5, hts _ k2⟩ ⟨hblind, fun U hU hW => ⟨harr, hpre U hU hW⟩⟩ rfl (by rw [List.length_map]; rw [List.length_cons] at hn; omega) hlv hstk2 hroom hd ⟨hce, hsl⟩) I.2.2.1 hfree K
    · obtain ⟨k1, k2, k3, k4, k5, k6, hok⟩ := hlk
      have hcb := hCN _ hok k3 k1
      rw [k6] at hcb
      have hm := hmet hok
      rw [k6] at hm
      exact my_call (va_runIN (As := as'.map (eV ρ)) (rest := rest.map (eV ρ)) (b := ρ a) (n := m'.2.1 - 1) hfx hm ⟨hcb, k5, hts _ k2⟩ ⟨hblind, fun U hU hW => ⟨harr, hpre U hU hW⟩⟩ rfl (by rw [List.length_map]; rw [List.length_cons] at hn; omega) hlv hstk2 hroom hd ⟨hce, hsl⟩) I.2.2.1 hfree K
    · obtain ⟨k1, rfl⟩ := hlk
      have e0 : as' = [] := by
        have : (tA a :: as').length = 1 := hn
        rw [List.length_cons] at this
        exact List.length_eq_zero_iff.mp (by omega)
      subst e0
      have hrw : r = none ∧ w1 = w := by
        cases n with
        | zero => cases hrun
        | succ n =>
          rw [mrun, show stp L m_JObj_init 0 (lentry m_JObj_init.2.2.2.2.1 [tA a]) [] w = some (.inr (.inl none)) from by
            unfold stp
            rw [show decode m_JObj_init.2.2.2.1 0 = .ok (.return_, 1) by decide +kernel]
            rfl] at hrun
          cases hrun
          exact ⟨rfl, rfl⟩
      obtain ⟨rfl, rfl⟩ := hrw
      refine W.objInit hx hb hown (hts _ k1) (hts _ obj_i) (hts _ obj_c) rfl (hlv.trans hml.symm) hstk2 hd (by omega) (by omega) ?_
      have hk := K ρ H locs agr.rf I.1 I.2.1 I.2.2.1 ⟨I.2.2.2, fun v hv => by cases hv⟩
      rw [Nat.sub_self, Nat.sub_self, Nat.add_zero, Nat.add_zero] at hk
      exact hk
end SIM
