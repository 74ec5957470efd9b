/-! what is done without a frame of its own: Math.max, Math.min, System.arraycopy; the literals' length() and charAt() are still a hypothesis -/
def StrOpen (l : Launch) (L : Nat) (D : va_G) (aT : Nat → ClassId) (xs : Nat → Int32) : Prop := ∀ (m : Mth) (p : Program) (e : Env) (R : Room) (s : State) (mi : MethodId) (args : Array Value) (below : List Frame) (meth : Method) (c : Code) (A : Nat → Prop) (ρ : Nat → Nat) (H : Heap) (locs : List Loc) (cells slots : Nat) (lm : Array Slot) (Q : State → Prop) (pc idx a k : Nat) (ls : Lo) (rest : List TV) (w : Wd) (m' : Mth) (q : List TV) (v : Int),
  Cx L D aT xs m p s mi args meth c A ρ → decode m.2.2.2.1 pc = .ok (.invokevirtual idx, 3) → rM m.1 idx = some (k, m') → Iv L D aT xs s A ρ w H locs → Lv ρ lm ls m.2.2.2.2.1 w.1 → (sh L a).1 = 28 → tcats rest ≤ 8 → 8 ≤ R.frames → 600 ≤ R.locals → cells ≤ R.cells → slots ≤ R.slots →
  ((k = 6 ∧ q = [] ∧ v = ((strs.getD (a - 901) []).length : Int)) ∨ (k = 7 ∧ ∃ i : Int, q = [tI i] ∧ 0 ≤ i ∧ i < ((strs.getD (a - 901) []).length : Int) ∧ v = (strs.getD (a - 901) []).getD i.toNat 0)) →
  (∀ H' locs', Iv L D aT xs s A ρ w H' locs' → W p l e R s mi args below meth c H' locs' cells slots Q (F0 mi (pc + 3) lm (.int (Int32.ofInt v) :: rest.map (eV ρ)))) →
  W p l e R s mi args below meth c H locs cells slots Q (F0 mi pc lm ((q ++ tA a :: rest).map (eV ρ)))
theorem strs_small : strs.all (fun l => l.all (fun v => decide (0 ≤ v ∧ v < 256)) && decide (l.length < 1000)) = true := by decide +kernel
theorem strs_len (i : Nat) : (strs.getD i []).length < 1000 := by
  rw [List.getD_eq_getElem?_getD]
  match h : strs[i]? with
  | none => show (0 : Nat) < 1000; omega
  | some q =>
    have := List.all_eq_true.mp strs_small q (List.mem_of_getElem? h)
    rw [Bool.and_eq_true] at this
    exact of_decide_eq_true this.2
theorem strs_at (i j : Nat) : 0 ≤ (strs.getD i []).getD j 0 ∧ (strs.getD i []).getD j 0 < 256 := by
  rw [List.getD_eq_getElem?_getD (l := strs)]
  match h : strs[i]? with
  | none => show (0 : Int) ≤ 0 ∧ (0 : Int) < 256; omega
  | some q =>
    show 0 ≤ q.getD j 0 ∧ q.getD j 0 < 256
    have := List.all_eq_true.mp strs_small q (List.mem_of_getElem? h)
    rw [Bool.and_eq_true] at this
    rw [List.getD_eq_getElem?_getD]
    match h2 : q[j]? with
    | none => show (0 : Int) ≤ 0 ∧ (0 : Int) < 256; omega
    | some x => exact of_decide_eq_true (List.all_eq_true.mp this.1 x (List.mem_of_getElem? h2))
theorem zcopy_ne {mem : Mem} {s sp d dp n b : Nat} (h : b ≠ d) : zcopy mem s sp d dp n b = mem b := by
  funext k
  unfold zcopy
  rw [if_neg (fun q => h q.1)]
theorem okM_copy {L : Nat} {w : Wd} {s sp d dp n : Nat} (h : okM L w) (hd : (sh L d).1 = 21) (hs : (sh L s).1 = 21) (s1 : 1 ≤ s) (s2 : s ≤ w.1) : okM L (w.1, zcopy w.2 s sp d dp n) := by
  intro b h1 h2
  by_cases e : b = d
  · subst e
    refine ⟨fun q => by omega, fun q j => ?_⟩
    show okV w.1 (ztyp (aty (sh L b).1) (zcopy w.2 s sp b dp n b j))
    unfold zcopy
    by_cases hc : b = b ∧ dp ≤ j ∧ j < dp + n
    · rw [if_pos hc]
      have := (h s s1 s2).2 (by omega) (sp + (j - dp))
      rw [hs] at this
      rw [hd]
      exact this
    · rw [if_neg hc]
      exact (h b h1 h2).2 q j
  · refine ⟨fun q j hj => ?_, fun q j => ?_⟩
    · show okV w.1 (ztyp _ (zcopy w.2 s sp d dp n b j)); rw [zcopy_ne e]; exact (h b h1 h2).1 q j hj
    · show okV w.1 (ztyp _ (zcopy w.2 s sp d dp n b j)); rw [zcopy_ne e]; exact (h b h1 h2).2 q j
set_option maxRecDepth 100000 in
set_option maxHeartbeats 2000000 in
theorem intr_of (l : Launch) (L : Nat) (D : va_G) (aT : Nat → ClassId) (xs : Nat → Int32) (hStr : StrOpen l L D aT xs) : IntrOpen l L D aT xs := by
  intro m p e R s mi args below meth c A ρ H locs cells slots lm Q pc pc' idx o ls ls' st st' w w' i C hd hio h I hl hst hf hlo hce hsl K
  obtain ⟨hx, hb, hml, hown, hts, hin, hA, hS0⟩ := id C
  have hmz : c.maxLocals = lm.size := hml.trans hl.1.1.symm
  unfold zinv at h
  split at h
  · cases h
  · rename_i k m' hr
    have hlk := rM_mem hr
    split at h
    · exact (zcall_no (if_some h).2).elim
    · split at h
      · exact (zcall_no h).elim
      · split at h
        · split at h
          · split at h
            · cases h
            · exact (zcall_no h).elim
          · cases h
        · split at h
          · rename_i ho
            obtain ⟨rfl, rfl⟩ := ho
            have ei : i = .invokevirtual idx := by rcases hio with ⟨q, z⟩ | ⟨q, z⟩ | ⟨q, z⟩ <;> first | exact q | omega
            subst ei
            split at h
            · rename_i a r
              obtain ⟨⟨h1, h2⟩, h3⟩ := if_some h
              cases h3
              refine hStr m p e R s mi args below meth c A ρ H locs cells slots lm Q pc idx a 6 ls r w m' [] _ C hd hr I hl h1 h2 hf hlo hce hsl (Or.inl ⟨rfl, rfl, rfl⟩) (fun H' locs' I' => K rfl rfl (okc ?_ (okt hst)) H' locs' I')
              have := strs_len (a - 901)
              show -2147483648 ≤ ((strs.getD (a - 901) []).length : Int) ∧ ((strs.getD (a - 901) []).length : Int) < 2147483648
              omega
            · cases h
          · split at h
            · rename_i ho
              obtain ⟨rfl, rfl⟩ := ho
              have ei : i = .invokevirtual idx := by rcases hio with ⟨q, z⟩ | ⟨q, z⟩ | ⟨q, z⟩ <;> first | exact q | omega
              subst ei
              split at h
              · rename_i j a r
                obtain ⟨⟨h1, h2, h4, h5⟩, h3⟩ := if_some h
                cases h3
                refine hStr m p e R s mi args below meth c A ρ H locs cells slots lm Q pc idx a 7 ls r w m' [tI j] _ C hd hr I hl h1 h2 hf hlo hce hsl (Or.inr ⟨rfl, j, rfl, h4, h5, rfl⟩) (fun H' locs' I' => K rfl rfl (okc ?_ (okt (okt hst))) H' locs' I')
                have := strs_at (a - 901) j.toNat
                show -2147483648 ≤ (strs.getD (a - 901) []).getD j.toNat 0 ∧ (strs.getD (a - 901) []).getD j.toNat 0 < 2147483648
                omega
              · cases h
            · split at h
              · rename_i ho
                obtain ⟨rfl, rfl⟩ := ho
                have ei : i = .invokestatic idx := by rcases hio with ⟨q, z⟩ | ⟨q, z⟩ | ⟨q, z⟩ <;> first | exact q | omega
                subst ei
                split at h
                · rename_i n dp d sp s0 r
                  obtain ⟨⟨h8, h1, h2, h3, h4, h5, h6, h7⟩, h9⟩ := if_some h
                  cases h9
                  obtain ⟨k1, k2, k3, k4⟩ := hlk
                  obtain ⟨a1, a2⟩ := in_w (L := L) (okh (okt (okt (okt (okt hst))))) (by omega)
                  obtain ⟨b1, b2⟩ := in_w (L := L) (okh (okt (okt hst))) (by omega)
                  have z1 := sh_size (L := L) (a := s0) (by omega)
                  have z2 := sh_size (L := L) (a := d) (by omega)
                  have hca := eW_cell (L := L) (aT := aT) (ρ := ρ) a1 a2
                  have hcb := eW_cell (L := L) (aT := aT) (ρ := ρ) b1 b2
                  rw [eC_arr (by omega), h1, eA_l] at hca
                  rw [eC_arr (by omega), h2, eA_l] at hcb
                  have e1 : (Int32.ofInt n).toNatClampNeg = n.toNat := i_clamp (by omega)
                  have e2 : (Int32.ofInt dp).toNatClampNeg = dp.toNat := i_clamp (by omega)
                  have e3 : (Int32.ofInt sp).toNatClampNeg = sp.toNat := i_clamp (by omega)
                  have hneg : ∀ x : Int, 0 ≤ x → x < 2147483648 → ¬ Int32.ofInt x < 0 := by
                    intro x q1 q2
                    show ¬ Int32.ofInt x < Int32.ofInt 0
                    rw [o32_lt (by omega) (by decide)]
                    omega
                  have hnw : nativeFrameWords "java/lang/System" "arraycopy" 5 ≤ 100 := by decide +kernel
                  have hmem : eC L aT ρ (zcopy w.2 s0 sp.toNat d dp.toNat n.toNat) d = .inl (aT 21, (sh L d).2, .inr (.inl (va_cpy (fun j => Int64.ofInt (w.2 s0 j)) (fun j => Int64.ofInt (w.2 d j)) sp.toNat dp.toNat n.toNat))) := by
                    rw [eC_arr (by omega), h2, eA_l]
                    congr 5
                    funext j
                    unfold va_cpy zcopy
                    by_cases hc : dp.toNat ≤ j ∧ j < dp.toNat + n.toNat
                    · rw [if_pos hc, if_pos ⟨rfl, hc⟩]
                    · rw [if_neg hc, if_neg (fun q => hc q.2)]
                  simp only [List.map_cons]
                  rw [eVa (show d ≠ 0 by omega), eVa (show s0 ≠ 0 by omega)]
                  refine va_copyl (ty := .long) hx hb hmz hown (hts _ k1) (hts _ k2) (hts _ k3) (hts _ k4) hS0.1 I.1 I.2.1 I.2.2.1 (s0 - 1) (d - 1) 1 1 hca hcb rfl rfl rfl (hneg sp h5 (by omega)) (hneg dp h4 (by omega)) (hneg n h3 (by omega)) (by rw [e1, e3]; omega) (by rw [e1, e2]; omega) (fun _ _ => rfl) (by omega) (by rw [tcats_sum]; omega) hd (fun H1 locs1 q1 q2 q3 => ?_)
                  rw [e1, e2, e3, ← hmem] at q1 q2
                  exact K rfl rfl (okt (okt (okt (okt (okt hst))))) H1 locs1 (I.put b1 (sh_small (L := L) (a := d) (by omega)).2 (fun b hb => zcopy_ne hb) (okM_copy I.2.2.2.1 h2 h1 a1 a2) q1 q2 q3)
                · cases h
              · split at h
                · rename_i ho
                  obtain ⟨rfl, rfl⟩ := ho
                  have ei : i = .invokestatic idx := by rcases hio with ⟨q, z⟩ | ⟨q, z⟩ | ⟨q, z⟩ <;> first | exact q | omega
                  subst ei
                  split at h
                  · rename_i y x r
                    obtain ⟨h8, h9⟩ := if_some h
                    cases h9
                    obtain ⟨k1, k2, k3, k4⟩ := hlk
                    have oy : -2147483648 ≤ y ∧ y < 2147483648 := okh hst
                    have ox : -2147483648 ≤ x ∧ x < 2147483648 := okh (okt hst)
                    refine va_mmax hx hb hmz hown (hts _ k1) (hts _ k2) (hts _ k3) (hts _ k4) (by omega) (by rw [tcats_sum]; omega) hce hsl hd ?_
                    have ee : (if Int32.ofInt x < Int32.ofInt y then Int32.ofInt y else Int32.ofInt x) = Int32.ofInt (if x < y then y else x) := by
                      by_cases q : x < y
                      · rw [if_pos ((o32_lt ox oy).mpr q), if_pos q]
                      · rw [if_neg (fun z => q ((o32_lt ox oy).mp z)), if_neg q]
                    rw [ee]
                    refine K rfl rfl (okc ?_ (okt (okt hst))) H locs I
                    show -2147483648 ≤ (if x < y then y else x) ∧ (if x < y then y else x) < 2147483648
                    split <;> assumption
                  · cases h
                · split at h
                  · rename_i ho
                    obtain ⟨rfl, rfl⟩ := ho
                    have ei : i = .invokestatic idx := by rcases hio with ⟨q, z⟩ | ⟨q, z⟩ | ⟨q, z⟩ <;> first | exact q | omega
                    subst ei
                    split at h
                    · rename_i y x r
                      obtain ⟨h8, h9⟩ := if_some h
                      cases h9
                      obtain ⟨k1, k2, k3, k4⟩ := hlk
                      have oy : -2147483648 ≤ y ∧ y < 2147483648 := okh hst
                      have ox : -2147483648 ≤ x ∧ x < 2147483648 := okh (okt hst)
                      refine va_mmin hx hb hmz hown (hts _ k1) (hts _ k2) (hts _ k3) (hts _ k4) (by omega) (by rw [tcats_sum]; omega) hce hsl hd ?_
                      have ee : (if Int32.ofInt y < Int32.ofInt x then Int32.ofInt y else Int32.ofInt x) = Int32.ofInt (if y < x then y else x) := by
                        by_cases q : y < x
                        · rw [if_pos ((o32_lt oy ox).mpr q), if_pos q]
                        · rw [if_neg (fun z => q ((o32_lt oy ox).mp z)), if_neg q]
                      rw [ee]
                      refine K rfl rfl (okc ?_ (okt (okt hst))) H locs I
                      show -2147483648 ≤ (if y < x then y else x) ∧ (if y < x then y else x) < 2147483648
                      split <;> assumption
                    · cases h
                  · cases h
