/-! turn, the reference: when and while -/
theorem q_60 {cn : Int} (h : kName cn = true) : ¬ cn = 45 := by unfold kName at h; simp at h; omega
section
variable {L d r len c : Nat} {f t g : Mem} {T : Int → Int} {Q : Option TV → Wd → Prop} {i j cn dp fr to : Int} {P : List (Int × Int)}
theorem s_M_em1 {v x y : Int} (hx : eSl 0 v = x) (hy : whc v = y) (h : P.length < 1600) : VV L d m_M_emit 0 [some (tA 156), some (tI x), some (tI y)] [] (WW f t (emM g P)) Q = Q none (WW f t (emM g (P ++ pqL 0 [v]))) := by
  rw [s_M_emM h]
  show _ = Q none (WW f t (emM g (P ++ [(eSl 0 v, whc v)])))
  rw [hx, hy]
theorem s_M_sg1 {v : Int} (hx : eSl 0 v = 7) (hy : whc v = v) (h : P.length < 1600) : VV L (d + 1) m_M_emitSign 0 [some (tA 156), some (tI v)] [] (WW f t (emM g P)) Q = Q none (WW f t (emM g (P ++ pqL 0 [v]))) := by
  rw [s_M_emS h]
  show _ = Q none (WW f t (emM g (P ++ [(eSl 0 v, whc v)])))
  rw [hx, hy]
end

theorem pq_Whn {cn : Int} {E A B : List Int} (hcn : kName cn = true) : pqL 0 (kWhn cn E A B) = pqL 0 (200 :: [cn, 61]) ++ pqL 0 (40 :: (E ++ [61, -1, 41])) ++ pqL 0 (59 :: []) ++ pqL 0 (208 :: []) ++ pqL 0 (40 :: [cn, 61, -1, 41]) ++ pqL 0 (123 :: []) ++ pqL 0 A ++ pqL 0 (125 :: [209, 123]) ++ pqL 0 B ++ pqL 0 (125 :: []) ++ pqL 0 (210 :: []) ++ pqL 0 (40 :: [cn, 61, -1, 41]) ++ pqL 0 (59 :: []) ++ pqL 0 (202 :: [cn, 86, 59]) ++ pqL 0 (201 :: [cn, 61, -1, 59]) := by
  have n45 := q_60 hcn
  have ea : kWhn cn E A B = ((200 :: [cn, 61]) ++ ((40 :: (E ++ [61, -1, 41])) ++ ((59 :: []) ++ ((208 :: []) ++ ((40 :: [cn, 61, -1, 41]) ++ ((123 :: []) ++ (A ++ ((125 :: [209, 123]) ++ (B ++ ((125 :: []) ++ ((210 :: []) ++ ((40 :: [cn, 61, -1, 41]) ++ ((59 :: []) ++ ((202 :: [cn, 86, 59]) ++ (201 :: [cn, 61, -1, 59]))))))))))))))) := by simp [kWhn]
  rw [ea, pqL_a (l := (200 :: [cn, 61])) (show ¬ (40 : Int) = 45 by decide), pqL_a (l := (40 :: (E ++ [61, -1, 41]))) (show ¬ (59 : Int) = 45 by decide), pqL_a (l := (59 :: [])) (show ¬ (208 : Int) = 45 by decide), pqL_a (l := (208 :: [])) (show ¬ (40 : Int) = 45 by decide), pqL_a (l := (40 :: [cn, 61, -1, 41])) (show ¬ (123 : Int) = 45 by decide), pqL_j (l := (123 :: [])) (Or.inr (show kEnd 123 = false by decide)), pqL_a (l := A) (show ¬ (125 : Int) = 45 by decide), pqL_j (l := (125 :: [209, 123])) (Or.inr (show kEnd 123 = false by decide)), pqL_a (l := B) (show ¬ (125 : Int) = 45 by decide), pqL_a (l := (125 :: [])) (show ¬ (210 : Int) = 45 by decide), pqL_a (l := (210 :: [])) (show ¬ (40 : Int) = 45 by decide), pqL_a (l := (40 :: [cn, 61, -1, 41])) (show ¬ (59 : Int) = 45 by decide), pqL_a (l := (59 :: [])) (show ¬ (202 : Int) = 45 by decide), pqL_1 (l := (202 :: [cn, 86, 59])) (show ¬ (201 : Int) = 45 by decide)]
  simp only [List.append_assoc]
theorem pq_Whl {cn : Int} {E A : List Int} (hcn : kName cn = true) : pqL 0 (kWhl cn E A) = pqL 0 (200 :: [cn, 61]) ++ pqL 0 (-1 :: []) ++ pqL 0 (59 :: []) ++ pqL 0 (211 :: []) ++ pqL 0 (40 :: [cn, 61, -1, 41]) ++ pqL 0 (123 :: []) ++ pqL 0 (125 :: []) ++ pqL 0 (212 :: []) ++ pqL 0 (123 :: []) ++ pqL 0 A ++ pqL 0 (cn :: []) ++ pqL 0 (128 :: []) ++ pqL 0 (-2 :: []) ++ pqL 0 (59 :: []) ++ pqL 0 (125 :: []) ++ pqL 0 (213 :: []) ++ pqL 0 (40 :: (E ++ [61, -1, 41])) ++ pqL 0 (59 :: []) ++ pqL 0 (202 :: [cn, 86, 59]) ++ pqL 0 (201 :: [cn, 61, -1, 59]) := by
  have n45 := q_60 hcn
  have ea : kWhl cn E A = ((200 :: [cn, 61]) ++ ((-1 :: []) ++ ((59 :: []) ++ ((211 :: []) ++ ((40 :: [cn, 61, -1, 41]) ++ ((123 :: []) ++ ((125 :: []) ++ ((212 :: []) ++ ((123 :: []) ++ (A ++ ((cn :: []) ++ ((128 :: []) ++ ((-2 :: []) ++ ((59 :: []) ++ ((125 :: []) ++ ((213 :: []) ++ ((40 :: (E ++ [61, -1, 41])) ++ ((59 :: []) ++ ((202 :: [cn, 86, 59]) ++ (201 :: [cn, 61, -1, 59])))))))))))))))))))) := by simp [kWhl]
  rw [ea, pqL_a (l := (200 :: [cn, 61])) (show ¬ (-1 : Int) = 45 by decide), pqL_a (l := (-1 :: [])) (show ¬ (59 : Int) = 45 by decide), pqL_a (l := (59 :: [])) (show ¬ (211 : Int) = 45 by decide), pqL_a (l := (211 :: [])) (show ¬ (40 : Int) = 45 by decide), pqL_a (l := (40 :: [cn, 61, -1, 41])) (show ¬ (123 : Int) = 45 by decide), pqL_a (l := (123 :: [])) (show ¬ (125 : Int) = 45 by decide), pqL_a (l := (125 :: [])) (show ¬ (212 : Int) = 45 by decide), pqL_a (l := (212 :: [])) (show ¬ (123 : Int) = 45 by decide), pqL_j (l := (123 :: [])) (Or.inr (show kEnd 123 = false by decide)), pqL_a (l := A) n45, pqL_a (l := (cn :: [])) (show ¬ (128 : Int) = 45 by decide), pqL_a (l := (128 :: [])) (show ¬ (-2 : Int) = 45 by decide), pqL_a (l := (-2 :: [])) (show ¬ (59 : Int) = 45 by decide), pqL_a (l := (59 :: [])) (show ¬ (125 : Int) = 45 by decide), pqL_a (l := (125 :: [])) (show ¬ (213 : Int) = 45 by decide), pqL_a (l := (213 :: [])) (show ¬ (40 : Int) = 45 by decide), pqL_a (l := (40 :: (E ++ [61, -1, 41]))) (show ¬ (59 : Int) = 45 by decide), pqL_a (l := (59 :: [])) (show ¬ (202 : Int) = 45 by decide), pqL_1 (l := (202 :: [cn, 86, 59])) (show ¬ (201 : Int) = 45 by decide)]
  simp only [List.append_assoc]
section
variable {L d r len c : Nat} {f t g : Mem} {T : Int → Int} {Q : Option TV → Wd → Prop} {i j cn dp fr to : Int} {P : List (Int × Int)} {u7 u8 u9 u10 : Option TV} {Y : Type} {kb : Y → List Int} {wb : Y → Prop} {ku : Y → List Int}
/-- what turns does with a block -/
def TRok (L D r len : Nat) (T : Int → Int) (f t g : Mem) {Y : Type} (kb : Y → List Int) (wb : Y → Prop) (ku : Y → List Int) (dp : Int) : Prop := ∀ (x : Y), wb x → ∀ (i j : Int) (P : List (Int × Int)) (Q : Option TV → Wd → Prop), 0 ≤ i → j ≤ (len : Int) → seg T i j (kb x) → P.length + (ku x).length ≤ 1600 → VV L D m_M_turns 0 [some (tA 156), some (tI r), some (tI i), some (tI j), some (tI dp), none, none, none, none, none, none] [] (WW f t (emM g P)) Q = Q none (WW f t (emM g (P ++ pqL 0 (ku x))))
theorem ar_tw {i a aE bE z len dp : Int} (h0 : 0 ≤ i) (h1 : i < a) (h2 : a < aE) (h3 : aE < bE) (h4 : bE < z) (h5 : z < len) (h6 : len ≤ 1002) (hd : 0 ≤ dp ∧ dp ≤ 7) : w32 (i + 1) = i + 1 ∧ w32 (a + 1) = a + 1 ∧ w32 (aE + 2) = aE + 1 + 1 ∧ w32 (aE + 3) = aE + 1 + 1 + 1 ∧ w32 (dp + 1) = dp + 1 := by
  refine ⟨?_, ?_, ?_, ?_, ?_⟩ <;> rw [w32_id (by omega) (by omega)] <;> omega

theorem s_M_twhen (h : RT g r T len) (hb : ∀ x, wb x → ∀ p, 0 < p → Wl brc p (kb x) p) (hR : TRok L (d + 4) r len T f t g kb wb ku (dp + 1)) (e : EE c) (x y : Y) (he : wX e) (hx : wb x) (hy : wb y) (hcn : kName cn = true) (hcd : cn - 97 = 24 - dp) (hd : 0 ≤ dp ∧ dp ≤ 7) (h0 : 0 ≤ i) (hj : j ≤ len) (hsE : ∀ P Q, VV L (d + 4) m_M_stepEnd 0 [some (tA 156), some (tI r), some (tI i), none] [] (WW f t (emM g P)) Q = Q (some (tI j)) (WW f t (emM g P))) (hs : seg T i j (216 :: (kX e ++ 123 :: (kb x ++ 125 :: 209 :: 123 :: (kb y ++ [125, 59]))))) (hlen : P.length + (kWhn cn (kX e) (ku x) (ku y)).length ≤ 1600) : ∃ v7 v8 v9 v10, ∀ Q, VV L (d + 5) m_M_turns 10 [some (tA 156), some (tI r), some (tI fr), some (tI to), some (tI dp), some (tI (cn - 97)), some (tI i), u7, u8, u9, u10] [] (WW f t (emM g P)) Q = (if to ≤ i then VV L (d + 5) m_M_turns 346 [some (tA 156), some (tI r), some (tI fr), some (tI to), some (tI dp), some (tI (cn - 97)), some (tI i), u7, u8, u9, u10] [] (WW f t (emM g P)) Q else VV L (d + 5) m_M_turns 10 [some (tA 156), some (tI r), some (tI fr), some (tI to), some (tI dp), some (tI (cn - 97)), some (tI j), v7, v8, v9, v10] [] (WW f t (emM g (P ++ pqL 0 (kWhn cn (kX e) (ku x) (ku y))))) Q) := by
    obtain ⟨r1, hs⟩ := seg_hd hs
    obtain ⟨r2, hs⟩ := seg_split hs
    obtain ⟨r3, hs⟩ := seg_hd hs
    obtain ⟨r4, hs⟩ := seg_split hs
    obtain ⟨r5, hs⟩ := seg_hd hs
    obtain ⟨r6, hs⟩ := seg_hd hs
    obtain ⟨r7, hs⟩ := seg_hd hs
    obtain ⟨r8, hs⟩ := seg_split hs
    obtain ⟨r9, hs⟩ := seg_hd hs
    obtain ⟨r10, hs⟩ := seg_hd hs
    have ej := seg_len hs
    simp only [List.length_nil] at ej
    simp only [kWhn, List.length_cons, List.length_append, List.length_nil] at hlen
    obtain ⟨a, ea⟩ : ∃ a, a = i + 1 + ((kX e).length : Int) := ⟨_, rfl⟩
    rw [← ea] at r2 r3 r4 r5 r6 r7 r8 r9 r10 ej
    obtain ⟨aE, eaE⟩ : ∃ aE, aE = a + 1 + ((kb x).length : Int) := ⟨_, rfl⟩
    rw [← eaE] at r4 r5 r6 r7 r8 r9 r10 ej
    obtain ⟨bE, ebE⟩ : ∃ bE, bE = aE + 1 + 1 + 1 + ((kb y).length : Int) := ⟨_, rfl⟩
    rw [← ebE] at r8 r9 r10 ej
    obtain ⟨w1, w2, w3, w4, w5⟩ := ar_tw (len := (len : Int)) (z := bE + 1) h0 (show i < a by omega) (show a < aE by omega) (show aE < bE by omega) (by omega) (by omega) (by have := h.l1; omega) hd
    have hl1 := h.l1
    obtain ⟨x1, x2, x3, x4, _, x6⟩ := (RT_em (P := P) h).ix h0 (show i < len by omega)
    have hwk : whc (T i) = 16 := by rw [r1]; decide
    rw [hwk] at x6
    have F1 := fun D Q => s_M_find (L := L) (d := D) (f := f) (t := t) (Q := Q) (l := 216 :: kX e) (RT_em (P := P) h) (sg := 123) (by decide) (by decide) (by decide) r3 (Skp_0 _ (fun v hv => by
      rcases List.mem_cons.mp hv with rfl | hv
      · exact ⟨⟨by omega, by omega, by omega⟩, by omega⟩
      · have q := eTk_no (kX_e e he v hv)
        exact ⟨⟨q.1, q.2.1, q.2.2.1⟩, q.2.1⟩)) (seg_cons r1 r2) h0
    have K1 := fun D Q => s_M_closes (L := L) (d := D) (f := f) (t := t) (Q := Q) (RT_em (P := P) h) r3 r5 (hb x hx 1 (by omega)) r4 (show 0 ≤ a by omega)
    have K2 := fun P D Q => s_M_closes (L := L) (d := D) (f := f) (t := t) (Q := Q) (RT_em (P := P) h) r7 r9 (hb y hy 1 (by omega)) r8 (show 0 ≤ aE + 1 + 1 by omega)
    obtain ⟨P1, e1⟩ : ∃ P1, P1 = P ++ pqL 0 (200 :: [cn, 61]) := ⟨_, rfl⟩
    have n1 : P1.length = P.length + (3) := by rw [e1, List.length_append, pqL_len]; rfl
    have A1 := fun D Q => s_M_emitLe0 (L := L) (d := D) (f := f) (t := t) (g := g) (Q := Q) (P := P) (n := cn) hcn (by omega)
    rw [← e1] at A1
    obtain ⟨P2, e2⟩ : ∃ P2, P2 = P1 ++ pqL 0 (40 :: (kX e ++ [61, -1, 41])) := ⟨_, rfl⟩
    have n2 : P2.length = P1.length + ((kX e).length + 4) := by rw [e2, List.length_append, pqL_len]; simp only [List.length_cons, List.length_append, List.length_nil]
    have A2 := fun D Q => s_M_emitNoneOf (L := L) (d := D) (f := f) (t := t) (Q := Q) (P := P1) h (show a ≤ len by omega) (show 0 ≤ i + 1 by omega) r2 (by rw [show i + 1 - 1 = i by omega, r1]; decide) (by omega)
    rw [← e2] at A2
    obtain ⟨P3, e3⟩ : ∃ P3, P3 = P2 ++ pqL 0 (59 :: []) := ⟨_, rfl⟩
    have n3 : P3.length = P2.length + (1) := by rw [e3, List.length_append, pqL_len]; rfl
    have A3 := fun D Q => s_M_sg1 (L := L) (d := D) (f := f) (t := t) (g := g) (Q := Q) (P := P2) (v := 59) (by decide) (by decide) (by omega)
    rw [← e3] at A3
    obtain ⟨P4, e4⟩ : ∃ P4, P4 = P3 ++ pqL 0 (208 :: []) := ⟨_, rfl⟩
    have n4 : P4.length = P3.length + (1) := by rw [e4, List.length_append, pqL_len]; rfl
    have A4 := fun D Q => s_M_em1 (L := L) (d := D) (f := f) (t := t) (g := g) (Q := Q) (P := P3) (v := 208) (x := 5) (y := 8) (by decide) (by decide) (by omega)
    rw [← e4] at A4
    obtain ⟨P5, e5⟩ : ∃ P5, P5 = P4 ++ pqL 0 (40 :: [cn, 61, -1, 41]) := ⟨_, rfl⟩
    have n5 : P5.length = P4.length + (5) := by rw [e5, List.length_append, pqL_len]; rfl
    have A5 := fun D Q => s_M_emitIsNone (L := L) (d := D) (f := f) (t := t) (g := g) (Q := Q) (P := P4) (n := cn) hcn (by omega)
    rw [← e5] at A5
    obtain ⟨P6, e6⟩ : ∃ P6, P6 = P5 ++ pqL 0 (123 :: []) := ⟨_, rfl⟩
    have n6 : P6.length = P5.length + (1) := by rw [e6, List.length_append, pqL_len]; rfl
    have A6 := fun D Q => s_M_sg1 (L := L) (d := D) (f := f) (t := t) (g := g) (Q := Q) (P := P5) (v := 123) (by decide) (by decide) (by omega)
    rw [← e6] at A6
    obtain ⟨P7, e7⟩ : ∃ P7, P7 = P6 ++ pqL 0 (ku x) := ⟨_, rfl⟩
    have n7 : P7.length = P6.length + ((ku x).length) := by rw [e7, List.length_append, pqL_len]
    have A7 := fun Q => hR x hx (a + 1) aE P6 Q (by omega) (by omega) r4 (by omega)
    rw [← e7] at A7
    obtain ⟨P8, e8⟩ : ∃ P8, P8 = P7 ++ pqL 0 (125 :: [209, 123]) := ⟨_, rfl⟩
    have n8 : P8.length = P7.length + (3) := by rw [e8, List.length_append, pqL_len]; rfl
    have A8 := fun D Q => s_M_copies (L := L) (d := D) (f := f) (t := t) (Q := Q) (P := P7) (k := 125 :: [209, 123]) h (show aE + 1 + 1 + 1 ≤ len by omega) (show 0 ≤ aE by omega) (seg_cons r5 (seg_cons r6 (seg_one r7))) (by simp only [List.length_cons, List.length_nil]; omega)
    rw [pqL_h (l := 125 :: [209, 123]) (y := 0) (show ¬ (125 : Int) = 45 by decide)] at A8
    rw [← e8] at A8
    obtain ⟨P9, e9⟩ : ∃ P9, P9 = P8 ++ pqL 0 (ku y) := ⟨_, rfl⟩
    have n9 : P9.length = P8.length + ((ku y).length) := by rw [e9, List.length_append, pqL_len]
    have A9 := fun Q => hR y hy (aE + 1 + 1 + 1) bE P8 Q (by omega) (by omega) r8 (by omega)
    rw [← e9] at A9
    obtain ⟨P10, e10⟩ : ∃ P10, P10 = P9 ++ pqL 0 (125 :: []) := ⟨_, rfl⟩
    have n10 : P10.length = P9.length + (1) := by rw [e10, List.length_append, pqL_len]; rfl
    have A10 := fun D Q => s_M_sg1 (L := L) (d := D) (f := f) (t := t) (g := g) (Q := Q) (P := P9) (v := 125) (by decide) (by decide) (by omega)
    rw [← e10] at A10
    obtain ⟨P11, e11⟩ : ∃ P11, P11 = P10 ++ pqL 0 (210 :: []) := ⟨_, rfl⟩
    have n11 : P11.length = P10.length + (1) := by rw [e11, List.length_append, pqL_len]; rfl
    have A11 := fun D Q => s_M_em1 (L := L) (d := D) (f := f) (t := t) (g := g) (Q := Q) (P := P10) (v := 210) (x := 5) (y := 10) (by decide) (by decide) (by omega)
    rw [← e11] at A11
    obtain ⟨P12, e12⟩ : ∃ P12, P12 = P11 ++ pqL 0 (40 :: [cn, 61, -1, 41]) := ⟨_, rfl⟩
    have n12 : P12.length = P11.length + (5) := by rw [e12, List.length_append, pqL_len]; rfl
    have A12 := fun D Q => s_M_emitIsNone (L := L) (d := D) (f := f) (t := t) (g := g) (Q := Q) (P := P11) (n := cn) hcn (by omega)
    rw [← e12] at A12
    obtain ⟨P13, e13⟩ : ∃ P13, P13 = P12 ++ pqL 0 (59 :: []) := ⟨_, rfl⟩
    have n13 : P13.length = P12.length + (1) := by rw [e13, List.length_append, pqL_len]; rfl
    have A13 := fun D Q => s_M_sg1 (L := L) (d := D) (f := f) (t := t) (g := g) (Q := Q) (P := P12) (v := 59) (by decide) (by decide) (by omega)
    rw [← e13] at A13
    obtain ⟨P14, e14⟩ : ∃ P14, P14 = P13 ++ pqL 0 (202 :: [cn, 86, 59]) := ⟨_, rfl⟩
    have n14 : P14.length = P13.length + (4) := by rw [e14, List.length_append, pqL_len]; rfl
    have A14 := fun D Q => s_M_emitPushed (L := L) (d := D) (f := f) (t := t) (g := g) (Q := Q) (P := P13) (n := cn) hcn (by omega)
    rw [← e14] at A14
    have A15 := fun D Q => s_M_emitGone (L := L) (d := D) (f := f) (t := t) (g := g) (Q := Q) (P := P14) (n := cn) hcn (by omega)
    have hall : P ++ pqL 0 (kWhn cn (kX e) (ku x) (ku y)) = P14 ++ pqL 0 (201 :: [cn, 61, -1, 59]) := by
      rw [pq_Whn hcn, e14, e13, e12, e11, e10, e9, e8, e7, e6, e5, e4, e3, e2, e1]; simp only [List.append_assoc]
    rw [hall]
    have hSE := fun Q => hsE (P14 ++ pqL 0 (201 :: [cn, 61, -1, 59])) Q
    refine ⟨some (tI 16), some (tI a), some (tI aE), some (tI bE), fun Q => ?_⟩
    rw [u_M_turns_10]
    by_cases hto : to ≤ i
    · simp only [u_M_turns_12, u_M_turns_13, ne_eq, not_false_eq_true, not_true_eq_false, true_and, and_true, true_or, or_true, eq_self, Option.toList_some, Option.toList_none, List.cons_append, List.nil_append, tc_0, tc_I, tc_L, tc_A, Nat.reduceAdd, Nat.reduceLeDiff, Nat.reduceEqDiff, Int.reduceEq, Int.reduceLT, Int.reduceLE, Int.reduceNeg, Int.reduceToNat, Int.cast_ofNat_Int, if_true, if_false, and_self, or_self, ite_self, bI_0, bI_1, bI_01, Bool.false_eq_true, reduceCtorEq, hto]
    · simp only [u_M_turns_12, u_M_turns_13, u_M_turns_16, u_M_turns_17, u_M_turns_20, u_M_turns_23, u_M_turns_24, u_M_turns_25, u_M_turns_27, u_M_turns_28, u_M_turns_29, u_M_turns_31, u_M_turns_33, u_M_turns_35, u_M_turns_38, u_M_turns_39, u_M_turns_40, u_M_turns_42, u_M_turns_43, u_M_turns_44, u_M_turns_46, u_M_turns_49, u_M_turns_50, u_M_turns_51, u_M_turns_54, u_M_turns_57, u_M_turns_58, u_M_turns_59, u_M_turns_61, u_M_turns_63, u_M_turns_66, u_M_turns_68, u_M_turns_69, u_M_turns_70, u_M_turns_72, u_M_turns_75, u_M_turns_77, u_M_turns_78, u_M_turns_79, u_M_turns_81, u_M_turns_84, u_M_turns_86, u_M_turns_88, u_M_turns_209, u_M_turns_210, u_M_turns_211, u_M_turns_213, u_M_turns_214, u_M_turns_215, u_M_turns_218, u_M_turns_220, u_M_turns_221, u_M_turns_222, u_M_turns_224, u_M_turns_225, u_M_turns_226, u_M_turns_228, u_M_turns_231, u_M_turns_232, u_M_turns_234, u_M_turns_237, u_M_turns_238, u_M_turns_239, u_M_turns_241, u_M_turns_244, u_M_turns_245, u_M_turns_247, u_M_turns_250, u_M_turns_251, u_M_turns_253, u_M_turns_256, u_M_turns_257, u_M_turns_258, u_M_turns_260, u_M_turns_261, u_M_turns_262, u_M_turns_264, u_M_turns_266, u_M_turns_267, u_M_turns_268, u_M_turns_271, u_M_turns_272, u_M_turns_273, u_M_turns_275, u_M_turns_277, u_M_turns_278, u_M_turns_279, u_M_turns_282, u_M_turns_283, u_M_turns_284, u_M_turns_286, u_M_turns_287, u_M_turns_288, u_M_turns_290, u_M_turns_292, u_M_turns_293, u_M_turns_294, u_M_turns_297, u_M_turns_298, u_M_turns_300, u_M_turns_303, u_M_turns_304, u_M_turns_305, u_M_turns_307, u_M_turns_310, u_M_turns_311, u_M_turns_313, u_M_turns_316, u_M_turns_317, u_M_turns_319, u_M_turns_322, u_M_turns_323, u_M_turns_325, u_M_turns_328, u_M_turns_329, u_M_turns_331, u_M_turns_334, u_M_turns_335, u_M_turns_336, u_M_turns_338, u_M_turns_341, u_M_turns_343, h1_156, gt_156_26, h1_165, h2_165, gt_165, pt_165, ne_eq, not_false_eq_true, not_true_eq_false, true_and, and_true, true_or, or_true, eq_self, Option.toList_some, Option.toList_none, List.cons_append, List.nil_append, tc_0, tc_I, tc_L, tc_A, Nat.reduceAdd, Nat.reduceLeDiff, Nat.reduceEqDiff, Int.reduceEq, Int.reduceLT, Int.reduceLE, Int.reduceNeg, Int.reduceToNat, Int.cast_ofNat_Int, if_true, if_false, and_self, or_self, ite_self, bI_0, bI_1, bI_01, Bool.false_eq_true, reduceCtorEq, hto, x1, x2, x3, x4, x6, Int.reduceEq, F1, K1, A1, A2, A3, A4, A5, A6, A7, A8, A9, A10, A11, A12, A13, A14, A15, w1, w2, w3, w4, w5, K2, hSE]

theorem s_M_twhile (h : RT g r T len) (hb : ∀ x, wb x → ∀ p, 0 < p → Wl brc p (kb x) p) (hR : TRok L (d + 4) r len T f t g kb wb ku (dp + 1)) (e : EE c) (x : Y) (he : wX e) (hx : wb x) (hcn : kName cn = true) (hcd : cn - 97 = 24 - dp) (hd : 0 ≤ dp ∧ dp ≤ 7) (h0 : 0 ≤ i) (hj : j ≤ len) (hsE : ∀ P Q, VV L (d + 4) m_M_stepEnd 0 [some (tA 156), some (tI r), some (tI i), none] [] (WW f t (emM g P)) Q = Q (some (tI j)) (WW f t (emM g P))) (hs : seg T i j (215 :: (kX e ++ 123 :: (kb x ++ [125, 59])))) (hlen : P.length + (kWhl cn (kX e) (ku x)).length ≤ 1600) : ∃ v7 v8 v9 v10, ∀ Q, VV L (d + 5) m_M_turns 10 [some (tA 156), some (tI r), some (tI fr), some (tI to), some (tI dp), some (tI (cn - 97)), some (tI i), u7, u8, u9, u10] [] (WW f t (emM g P)) Q = (if to ≤ i then VV L (d + 5) m_M_turns 346 [some (tA 156), some (tI r), some (tI fr), some (tI to), some (tI dp), some (tI (cn - 97)), some (tI i), u7, u8, u9, u10] [] (WW f t (emM g P)) Q else VV L (d + 5) m_M_turns 10 [some (tA 156), some (tI r), some (tI fr), some (tI to), some (tI dp), some (tI (cn - 97)), some (tI j), v7, v8, v9, v10] [] (WW f t (emM g (P ++ pqL 0 (kWhl cn (kX e) (ku x))))) Q) := by
    obtain ⟨r1, hs⟩ := seg_hd hs
    obtain ⟨r2, hs⟩ := seg_split hs
    obtain ⟨r3, hs⟩ := seg_hd hs
    obtain ⟨r4, hs⟩ := seg_split hs
    obtain ⟨r5, hs⟩ := seg_hd hs
    obtain ⟨r6, hs⟩ := seg_hd hs
    have ej := seg_len hs
    simp only [List.length_nil] at ej
    simp only [kWhl, List.length_cons, List.length_append, List.length_nil] at hlen
    obtain ⟨a, ea⟩ : ∃ a, a = i + 1 + ((kX e).length : Int) := ⟨_, rfl⟩
    rw [← ea] at r2 r3 r4 r5 r6 ej
    obtain ⟨aE, eaE⟩ : ∃ aE, aE = a + 1 + ((kb x).length : Int) := ⟨_, rfl⟩
    rw [← eaE] at r4 r5 r6 ej
    obtain ⟨w1, w2, w3, w4, w5⟩ := ar_tw (len := 1002) (bE := aE + 1) (z := aE + 2) h0 (show i < a by omega) (show a < aE by omega) (by omega) (by omega) (by have := h.l1; omega) (by omega) hd
    have hl1 := h.l1
    obtain ⟨x1, x2, x3, x4, _, x6⟩ := (RT_em (P := P) h).ix h0 (show i < len by omega)
    have hwk : whc (T i) = 15 := by rw [r1]; decide
    rw [hwk] at x6
    have F1 := fun D Q => s_M_find (L := L) (d := D) (f := f) (t := t) (Q := Q) (l := 215 :: kX e) (RT_em (P := P) h) (sg := 123) (by decide) (by decide) (by decide) r3 (Skp_0 _ (fun v hv => by
      rcases List.mem_cons.mp hv with rfl | hv
      · exact ⟨⟨by omega, by omega, by omega⟩, by omega⟩
      · have q := eTk_no (kX_e e he v hv)
        exact ⟨⟨q.1, q.2.1, q.2.2.1⟩, q.2.1⟩)) (seg_cons r1 r2) h0
    have K1 := fun D Q => s_M_closes (L := L) (d := D) (f := f) (t := t) (Q := Q) (RT_em (P := P) h) r3 r5 (hb x hx 1 (by omega)) r4 (show 0 ≤ a by omega)
    obtain ⟨P1, e1⟩ : ∃ P1, P1 = P ++ pqL 0 (200 :: [cn, 61]) := ⟨_, rfl⟩
    have n1 : P1.length = P.length + (3) := by rw [e1, List.length_append, pqL_len]; rfl
    have A1 := fun D Q => s_M_emitLe0 (L := L) (d := D) (f := f) (t := t) (g := g) (Q := Q) (P := P) (n := cn) hcn (by omega)
    rw [← e1] at A1
    obtain ⟨P2, e2⟩ : ∃ P2, P2 = P1 ++ pqL 0 (-1 :: []) := ⟨_, rfl⟩
    have n2 : P2.length = P1.length + (1) := by rw [e2, List.length_append, pqL_len]; rfl
    have A2 := fun D Q => s_M_em1 (L := L) (d := D) (f := f) (t := t) (g := g) (Q := Q) (P := P1) (v := -1) (x := 2) (y := 0) (by decide) (by decide) (by omega)
    rw [← e2] at A2
    obtain ⟨P3, e3⟩ : ∃ P3, P3 = P2 ++ pqL 0 (59 :: []) := ⟨_, rfl⟩
    have n3 : P3.length = P2.length + (1) := by rw [e3, List.length_append, pqL_len]; rfl
    have A3 := fun D Q => s_M_sg1 (L := L) (d := D) (f := f) (t := t) (g := g) (Q := Q) (P := P2) (v := 59) (by decide) (by decide) (by omega)
    rw [← e3] at A3
    obtain ⟨P4, e4⟩ : ∃ P4, P4 = P3 ++ pqL 0 (211 :: []) := ⟨_, rfl⟩
    have n4 : P4.length = P3.length + (1) := by rw [e4, List.length_append, pqL_len]; rfl
    have A4 := fun D Q => s_M_em1 (L := L) (d := D) (f := f) (t := t) (g := g) (Q := Q) (P := P3) (v := 211) (x := 5) (y := 11) (by decide) (by decide) (by omega)
    rw [← e4] at A4
    obtain ⟨P5, e5⟩ : ∃ P5, P5 = P4 ++ pqL 0 (40 :: [cn, 61, -1, 41]) := ⟨_, rfl⟩
    have n5 : P5.length = P4.length + (5) := by rw [e5, List.length_append, pqL_len]; rfl
    have A5 := fun D Q => s_M_emitIsNone (L := L) (d := D) (f := f) (t := t) (g := g) (Q := Q) (P := P4) (n := cn) hcn (by omega)
    rw [← e5] at A5
    obtain ⟨P6, e6⟩ : ∃ P6, P6 = P5 ++ pqL 0 (123 :: []) := ⟨_, rfl⟩
    have n6 : P6.length = P5.length + (1) := by rw [e6, List.length_append, pqL_len]; rfl
    have A6 := fun D Q => s_M_sg1 (L := L) (d := D) (f := f) (t := t) (g := g) (Q := Q) (P := P5) (v := 123) (by decide) (by decide) (by omega)
    rw [← e6] at A6
    obtain ⟨P7, e7⟩ : ∃ P7, P7 = P6 ++ pqL 0 (125 :: []) := ⟨_, rfl⟩
    have n7 : P7.length = P6.length + (1) := by rw [e7, List.length_append, pqL_len]; rfl
    have A7 := fun D Q => s_M_sg1 (L := L) (d := D) (f := f) (t := t) (g := g) (Q := Q) (P := P6) (v := 125) (by decide) (by decide) (by omega)
    rw [← e7] at A7
    obtain ⟨P8, e8⟩ : ∃ P8, P8 = P7 ++ pqL 0 (212 :: []) := ⟨_, rfl⟩
    have n8 : P8.length = P7.length + (1) := by rw [e8, List.length_append, pqL_len]; rfl
    have A8 := fun D Q => s_M_em1 (L := L) (d := D) (f := f) (t := t) (g := g) (Q := Q) (P := P7) (v := 212) (x := 5) (y := 12) (by decide) (by decide) (by omega)
    rw [← e8] at A8
    obtain ⟨P9, e9⟩ : ∃ P9, P9 = P8 ++ pqL 0 (123 :: []) := ⟨_, rfl⟩
    have n9 : P9.length = P8.length + (1) := by rw [e9, List.length_append, pqL_len]; rfl
    have A9 := fun D Q => s_M_sg1 (L := L) (d := D) (f := f) (t := t) (g := g) (Q := Q) (P := P8) (v := 123) (by decide) (by decide) (by omega)
    rw [← e9] at A9
    obtain ⟨P10, e10⟩ : ∃ P10, P10 = P9 ++ pqL 0 (ku x) := ⟨_, rfl⟩
    have n10 : P10.length = P9.length + ((ku x).length) := by rw [e10, List.length_append, pqL_len]
    have A10 := fun Q => hR x hx (a + 1) aE P9 Q (by omega) (by omega) r4 (by omega)
    rw [← e10] at A10
    obtain ⟨P11, e11⟩ : ∃ P11, P11 = P10 ++ pqL 0 (cn :: []) := ⟨_, rfl⟩
    have n11 : P11.length = P10.length + (1) := by rw [e11, List.length_append, pqL_len]; rfl
    have A11 := fun D Q => s_M_em1 (L := L) (d := D) (f := f) (t := t) (g := g) (Q := Q) (P := P10) (v := cn) (x := 1) (y := cn - 97) (eSl_n hcn).1 (srt_name hcn).2 (by omega)
    rw [← e11] at A11
    obtain ⟨P12, e12⟩ : ∃ P12, P12 = P11 ++ pqL 0 (128 :: []) := ⟨_, rfl⟩
    have n12 : P12.length = P11.length + (1) := by rw [e12, List.length_append, pqL_len]; rfl
    have A12 := fun D Q => s_M_em1 (L := L) (d := D) (f := f) (t := t) (g := g) (Q := Q) (P := P11) (v := 128) (x := 6) (y := 0) (by decide) (by decide) (by omega)
    rw [← e12] at A12
    obtain ⟨P13, e13⟩ : ∃ P13, P13 = P12 ++ pqL 0 (-2 :: []) := ⟨_, rfl⟩
    have n13 : P13.length = P12.length + (1) := by rw [e13, List.length_append, pqL_len]; rfl
    have A13 := fun D Q => s_M_em1 (L := L) (d := D) (f := f) (t := t) (g := g) (Q := Q) (P := P12) (v := -2) (x := 2) (y := 1) (by decide) (by decide) (by omega)
    rw [← e13] at A13
    obtain ⟨P14, e14⟩ : ∃ P14, P14 = P13 ++ pqL 0 (59 :: []) := ⟨_, rfl⟩
    have n14 : P14.length = P13.length + (1) := by rw [e14, List.length_append, pqL_len]; rfl
    have A14 := fun D Q => s_M_sg1 (L := L) (d := D) (f := f) (t := t) (g := g) (Q := Q) (P := P13) (v := 59) (by decide) (by decide) (by omega)
    rw [← e14] at A14
    obtain ⟨P15, e15⟩ : ∃ P15, P15 = P14 ++ pqL 0 (125 :: []) := ⟨_, rfl⟩
    have n15 : P15.length = P14.length + (1) := by rw [e15, List.length_append, pqL_len]; rfl
    have A15 := fun D Q => s_M_sg1 (L := L) (d := D) (f := f) (t := t) (g := g) (Q := Q) (P := P14) (v := 125) (by decide) (by decide) (by omega)
    rw [← e15] at A15
    obtain ⟨P16, e16⟩ : ∃ P16, P16 = P15 ++ pqL 0 (213 :: []) := ⟨_, rfl⟩
    have n16 : P16.length = P15.length + (1) := by rw [e16, List.length_append, pqL_len]; rfl
    have A16 := fun D Q => s_M_em1 (L := L) (d := D) (f := f) (t := t) (g := g) (Q := Q) (P := P15) (v := 213) (x := 5) (y := 13) (by decide) (by decide) (by omega)
    rw [← e16] at A16
    obtain ⟨P17, e17⟩ : ∃ P17, P17 = P16 ++ pqL 0 (40 :: (kX e ++ [61, -1, 41])) := ⟨_, rfl⟩
    have n17 : P17.length = P16.length + ((kX e).length + 4) := by rw [e17, List.length_append, pqL_len]; simp only [List.length_cons, List.length_append, List.length_nil]
    have A17 := fun D Q => s_M_emitNoneOf (L := L) (d := D) (f := f) (t := t) (Q := Q) (P := P16) h (show a ≤ len by omega) (show 0 ≤ i + 1 by omega) r2 (by rw [show i + 1 - 1 = i by omega, r1]; decide) (by omega)
    rw [← e17] at A17
    obtain ⟨P18, e18⟩ : ∃ P18, P18 = P17 ++ pqL 0 (59 :: []) := ⟨_, rfl⟩
    have n18 : P18.length = P17.length + (1) := by rw [e18, List.length_append, pqL_len]; rfl
    have A18 := fun D Q => s_M_sg1 (L := L) (d := D) (f := f) (t := t) (g := g) (Q := Q) (P := P17) (v := 59) (by decide) (by decide) (by omega)
    rw [← e18] at A18
    obtain ⟨P19, e19⟩ : ∃ P19, P19 = P18 ++ pqL 0 (202 :: [cn, 86, 59]) := ⟨_, rfl⟩
    have n19 : P19.length = P18.length + (4) := by rw [e19, List.length_append, pqL_len]; rfl
    have A19 := fun D Q => s_M_emitPushed (L := L) (d := D) (f := f) (t := t) (g := g) (Q := Q) (P := P18) (n := cn) hcn (by omega)
    rw [← e19] at A19
    have A20 := fun D Q => s_M_emitGone (L := L) (d := D) (f := f) (t := t) (g := g) (Q := Q) (P := P19) (n := cn) hcn (by omega)
    have hall : P ++ pqL 0 (kWhl cn (kX e) (ku x)) = P19 ++ pqL 0 (201 :: [cn, 61, -1, 59]) := by
      rw [pq_Whl hcn, e19, e18, e17, e16, e15, e14, e13, e12, e11, e10, e9, e8, e7, e6, e5, e4, e3, e2, e1]; simp only [List.append_assoc]
    rw [hall]
    have hSE := fun Q => hsE (P19 ++ pqL 0 (201 :: [cn, 61, -1, 59])) Q
    refine ⟨some (tI 15), some (tI a), some (tI aE), u10, fun Q => ?_⟩
    rw [u_M_turns_10]
    by_cases hto : to ≤ i
    · simp only [u_M_turns_12, u_M_turns_13, ne_eq, not_false_eq_true, not_true_eq_false, true_and, and_true, true_or, or_true, eq_self, Option.toList_some, Option.toList_none, List.cons_append, List.nil_append, tc_0, tc_I, tc_L, tc_A, Nat.reduceAdd, Nat.reduceLeDiff, Nat.reduceEqDiff, Int.reduceEq, Int.reduceLT, Int.reduceLE, Int.reduceNeg, Int.reduceToNat, Int.cast_ofNat_Int, if_true, if_false, and_self, or_self, ite_self, bI_0, bI_1, bI_01, Bool.false_eq_true, reduceCtorEq, hto]
    · simp only [u_M_turns_12, u_M_turns_13, u_M_turns_16, u_M_turns_17, u_M_turns_20, u_M_turns_23, u_M_turns_24, u_M_turns_25, u_M_turns_27, u_M_turns_28, u_M_turns_29, u_M_turns_31, u_M_turns_33, u_M_turns_35, u_M_turns_38, u_M_turns_39, u_M_turns_40, u_M_turns_42, u_M_turns_43, u_M_turns_44, u_M_turns_46, u_M_turns_49, u_M_turns_50, u_M_turns_51, u_M_turns_54, u_M_turns_57, u_M_turns_58, u_M_turns_59, u_M_turns_61, u_M_turns_63, u_M_turns_66, u_M_turns_68, u_M_turns_69, u_M_turns_70, u_M_turns_72, u_M_turns_75, u_M_turns_77, u_M_turns_78, u_M_turns_79, u_M_turns_81, u_M_turns_84, u_M_turns_86, u_M_turns_88, u_M_turns_91, u_M_turns_92, u_M_turns_93, u_M_turns_94, u_M_turns_97, u_M_turns_98, u_M_turns_100, u_M_turns_103, u_M_turns_104, u_M_turns_105, u_M_turns_107, u_M_turns_110, u_M_turns_111, u_M_turns_113, u_M_turns_116, u_M_turns_117, u_M_turns_119, u_M_turns_122, u_M_turns_123, u_M_turns_125, u_M_turns_128, u_M_turns_129, u_M_turns_130, u_M_turns_132, u_M_turns_135, u_M_turns_136, u_M_turns_138, u_M_turns_141, u_M_turns_142, u_M_turns_143, u_M_turns_145, u_M_turns_146, u_M_turns_147, u_M_turns_149, u_M_turns_151, u_M_turns_152, u_M_turns_153, u_M_turns_156, u_M_turns_157, u_M_turns_158, u_M_turns_160, u_M_turns_163, u_M_turns_164, u_M_turns_166, u_M_turns_167, u_M_turns_170, u_M_turns_171, u_M_turns_172, u_M_turns_173, u_M_turns_176, u_M_turns_177, u_M_turns_179, u_M_turns_182, u_M_turns_183, u_M_turns_185, u_M_turns_188, u_M_turns_189, u_M_turns_190, u_M_turns_192, u_M_turns_195, u_M_turns_196, u_M_turns_197, u_M_turns_199, u_M_turns_200, u_M_turns_201, u_M_turns_203, u_M_turns_206, u_M_turns_316, u_M_turns_317, u_M_turns_319, u_M_turns_322, u_M_turns_323, u_M_turns_325, u_M_turns_328, u_M_turns_329, u_M_turns_331, u_M_turns_334, u_M_turns_335, u_M_turns_336, u_M_turns_338, u_M_turns_341, u_M_turns_343, h1_156, gt_156_26, h1_165, h2_165, gt_165, pt_165, ne_eq, not_false_eq_true, not_true_eq_false, true_and, and_true, true_or, or_true, eq_self, Option.toList_some, Option.toList_none, List.cons_append, List.nil_append, tc_0, tc_I, tc_L, tc_A, Nat.reduceAdd, Nat.reduceLeDiff, Nat.reduceEqDiff, Int.reduceEq, Int.reduceLT, Int.reduceLE, Int.reduceNeg, Int.reduceToNat, Int.cast_ofNat_Int, if_true, if_false, and_self, or_self, ite_self, bI_0, bI_1, bI_01, Bool.false_eq_true, reduceCtorEq, hto, x1, x2, x3, x4, x6, Int.reduceEq, F1, K1, A1, A2, A3, A4, A5, A6, A7, A8, A9, A10, A11, A12, A13, A14, A15, A16, A17, A18, A19, A20, w1, w2, w5, hSE]
end
