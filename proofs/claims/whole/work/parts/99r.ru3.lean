/-! The run, the class: one GO -/
abbrev Tre : Type := (c : Nat) × Bool × TB c 6
def aT (f : Mem) (r : Nat) : Nat := (f 3 r).toNat
abbrev TCo {c : Nat} (t : Mem) (a : Nat) (o : Bool) (x : TB c 6) : Prop := (c ≤ 11) ∧ (wB o 6 x) ∧ (t a 1 = ((kB 6 x).length : Int)) ∧ (seg (tok t a) 0 (t a 1) (kB 6 x)) ∧ (t a 1 ≤ 1000) ∧ (nB 6 x ≤ 40) ∧ (t a 9 = (nB 6 x : Int)) ∧ (TO9 t a 0 (t9B 6 x 0 0)) ∧ (kOrd (tok t a 0) = o)
theorem TCo.c11 {c : Nat} {t : Mem} {a : Nat} {o : Bool} {x : TB c 6} (hSelf : TCo t a o x) : c ≤ 11 := hSelf.1
theorem TCo.w {c : Nat} {t : Mem} {a : Nat} {o : Bool} {x : TB c 6} (hSelf : TCo t a o x) : wB o 6 x := hSelf.2.1
theorem TCo.ln {c : Nat} {t : Mem} {a : Nat} {o : Bool} {x : TB c 6} (hSelf : TCo t a o x) : t a 1 = ((kB 6 x).length : Int) := hSelf.2.2.1
theorem TCo.sg {c : Nat} {t : Mem} {a : Nat} {o : Bool} {x : TB c 6} (hSelf : TCo t a o x) : seg (tok t a) 0 (t a 1) (kB 6 x) := hSelf.2.2.2.1
theorem TCo.l1 {c : Nat} {t : Mem} {a : Nat} {o : Bool} {x : TB c 6} (hSelf : TCo t a o x) : t a 1 ≤ 1000 := hSelf.2.2.2.2.1
theorem TCo.n40 {c : Nat} {t : Mem} {a : Nat} {o : Bool} {x : TB c 6} (hSelf : TCo t a o x) : nB 6 x ≤ 40 := hSelf.2.2.2.2.2.1
theorem TCo.f9 {c : Nat} {t : Mem} {a : Nat} {o : Bool} {x : TB c 6} (hSelf : TCo t a o x) : t a 9 = (nB 6 x : Int) := hSelf.2.2.2.2.2.2.1
theorem TCo.tb {c : Nat} {t : Mem} {a : Nat} {o : Bool} {x : TB c 6} (hSelf : TCo t a o x) : TO9 t a 0 (t9B 6 x 0 0) := hSelf.2.2.2.2.2.2.2.1
theorem TCo.od {c : Nat} {t : Mem} {a : Nat} {o : Bool} {x : TB c 6} (hSelf : TCo t a o x) : kOrd (tok t a 0) = o := hSelf.2.2.2.2.2.2.2.2
abbrev TC (X : Nat → Tre) (f t : Mem) : Prop := (∀ r, r < 10 → isT (aT f r)) ∧ (∀ r, r < 10 → t (aT f r) 15 = 0 ∨ t (aT f r) 15 = 1) ∧ (∀ r, r < 10 → t (aT f r) 15 = 1 → TCo t (aT f r) (X r).2.1 (X r).2.2)
theorem TC.tt {X : Nat → Tre} {f t : Mem} (hSelf : TC X f t) : ∀ r, r < 10 → isT (aT f r) := hSelf.1
theorem TC.th {X : Nat → Tre} {f t : Mem} (hSelf : TC X f t) : ∀ r, r < 10 → t (aT f r) 15 = 0 ∨ t (aT f r) 15 = 1 := hSelf.2.1
theorem TC.ok {X : Nat → Tre} {f t : Mem} (hSelf : TC X f t) : ∀ r, r < 10 → t (aT f r) 15 = 1 → TCo t (aT f r) (X r).2.1 (X r).2.2 := hSelf.2.2
/-- a routine that may run -/
def RvC (f t : Mem) (r : Nat) : Prop := r < 10 ∧ t (aT f r) 15 = 1 ∧ kOrd (tok t (aT f r) 0) = false
abbrev RnC (f t : Mem) : Prop := (∃ r : Nat, f 151 6 = (r : Int) ∧ RvC f t r ∧ 0 ≤ f 151 7 ∧ f 151 7 ≤ t (aT f r) 9) ∧ (0 ≤ f 151 5 ∧ f 151 5 ≤ 12) ∧ (f 151 8 = 1 ∨ f 151 8 = -1) ∧ (∀ k : Nat, (k : Int) < f 151 5 → ∃ r : Nat, f 153 k = (r : Int) ∧ RvC f t r ∧ 0 ≤ f 154 k ∧ f 154 k < t (aT f r) 9 ∧ (t (aT f r + 2) (f 154 k).toNat = 206 ∨ t (aT f r + 2) (f 154 k).toNat = 207))
theorem RnC.cur {f t : Mem} (hSelf : RnC f t) : ∃ r : Nat, f 151 6 = (r : Int) ∧ RvC f t r ∧ 0 ≤ f 151 7 ∧ f 151 7 ≤ t (aT f r) 9 := hSelf.1
theorem RnC.hg {f t : Mem} (hSelf : RnC f t) : 0 ≤ f 151 5 ∧ f 151 5 ≤ 12 := hSelf.2.1
theorem RnC.wy {f t : Mem} (hSelf : RnC f t) : f 151 8 = 1 ∨ f 151 8 = -1 := hSelf.2.2.1
theorem RnC.fr {f t : Mem} (hSelf : RnC f t) : ∀ k : Nat, (k : Int) < f 151 5 → ∃ r : Nat, f 153 k = (r : Int) ∧ RvC f t r ∧ 0 ≤ f 154 k ∧ f 154 k < t (aT f r) 9 ∧ (t (aT f r + 2) (f 154 k).toNat = 206 ∨ t (aT f r + 2) (f 154 k).toNat = 207) := hSelf.2.2.2
def GoN (f t : Mem) (op : Int) (m : Nat) (p fw code : Int) (f' : Mem) : Prop := if t (aT f m) 15 = 0 ∨ kOrd (tok t (aT f m) 0) = true then code = 13 ∧ f' = f else if 12 ≤ f 151 5 then code = 11 ∧ f' = f else code = 0 ∧ f' = enC f op fw m p (t (aT f m) 9)
def GoS (c : Nat) (f t : Mem) (T : Int → Int) (e : En9) (p fw code : Int) (f' : Mem) : Prop :=
  e.1.2.1 = 0 ∧ ∃ (s : SS c) (j : Int), wS false s ∧ e.1.1 = opS1 s ∧ e.1.2.2.2.1 = e.1.2.2.1 + boS1 s ∧ 0 ≤ e.1.2.2.1 ∧ seg T e.1.2.2.1 j (kS s) ∧ (((opS1 s = 206 ∨ opS1 s = 207) ∧ ∃ m : Nat, m < 10 ∧ T (e.1.2.2.1 + 1) = -1 - (m : Int) ∧ GoN f t (opS1 s) m p fw code f') ∨ (¬ (opS1 s = 206 ∨ opS1 s = 207) ∧ ∃ f1, St1 f (if fw = 1 then opS1 s else undo (opS1 s)) s code f1 ∧ f' = if code = 0 then mset f1 151 7 (if fw = 1 then p + 1 else p) else f1))
def GoF (c n : Nat) (f : Mem) (T : Int → Int) (e : En9) (p fw code : Int) (f' : Mem) : Prop :=
  ∃ (x x2 : EE c) (j j2 : Int), (e.1.2.1 = 1 ∨ e.1.2.1 = 2 ∨ e.1.2.1 = 3) ∧ (e.1.1 = 208 ∨ e.1.1 = 211) ∧ wX x ∧ wX x2 ∧ seg T e.2.1 j (kX x) ∧ T j = 123 ∧ seg T e.2.2 j2 (kX x2) ∧ T j2 = 59 ∧ T (e.2.1 - 1) = e.1.1 ∧ 1 ≤ e.2.1 ∧ 1 ≤ e.2.2 ∧ 200 ≤ T (e.2.2 - 1) ∧ (0 ≤ e.1.2.2.2.2.1 ∧ e.1.2.2.2.2.1 < e.1.2.2.2.2.2.1 ∧ e.1.2.2.2.2.2.1 ≤ e.1.2.2.2.2.2.2 ∧ e.1.2.2.2.2.2.2 < n) ∧ p = (if e.1.2.1 = 1 then e.1.2.2.2.2.1 else if e.1.2.1 = 2 then e.1.2.2.2.2.2.1 else e.1.2.2.2.2.2.2) ∧ FkC f (if ov2 e.1.1 e.1.2.1 fw = true then x2 else x) (ovY e.1.1 e.1.2.1 fw e.1.2.2.2.2.1 e.1.2.2.2.2.2.1 e.1.2.2.2.2.2.2) (ovN e.1.1 e.1.2.1 fw e.1.2.2.2.2.1 e.1.2.2.2.2.2.1 e.1.2.2.2.2.2.2) code f'
def GoC {c : Nat} (x : TB c 6) (f t : Mem) (fw code : Int) (f' : Mem) : Prop :=
  if f 151 7 = (if fw = 1 then (nB 6 x : Int) else 0) then (if f 151 5 = 0 then code = 12 ∧ f' = f else code = 0 ∧ f' = lvC f (t (aT f (f 153 (f 151 5 - 1).toNat).toNat + 2) (f 154 (f 151 5 - 1).toNat).toNat) fw)
  else ∃ (q : Nat) (e : En9), (q : Int) = (if fw = 1 then f 151 7 else f 151 7 - 1) ∧ q < nB 6 x ∧ (t9B 6 x 0 0)[q]? = some e ∧ (GoS c f t (tok t (aT f (f 151 6).toNat)) e q fw code f' ∨ GoF c (nB 6 x) f (tok t (aT f (f 151 6).toNat)) e q fw code f')
section
variable {L d c r a : Nat} {X : Nat → Tre} {f t g gg : Mem} {Q : Option TV → Wd → Prop} {TH : Nat} {fw : Int}
theorem uT : EE c → True := fun _ => trivial
theorem insA_in {t : Mem} {a q : Nat} {df p : Int} (h0 : 0 ≤ p) (h1 : p < t a 9) : insA t a q df p = t (a + q) p.toNat := by unfold insA; rw [if_pos ⟨h0, h1⟩]
theorem s_206 (s : SS c) (hw : wS false s) (h : opS1 s = 206 ∨ opS1 s = 207) : ∃ m : Nat, m < 10 ∧ ∃ k : Int, kS s = [k, -1 - (m : Int), 59] := by
  match s, hw, h with
  | .inl (k, n, e), hw, h => have hk : k = 206 ∨ k = 207 := h; have := hw.1; simp at this; omega
  | .inr (.inl (p, op, e)), hw, h => have hk : op = 206 ∨ op = 207 := h; have := hw.2.2.1; omega
  | .inr (.inr (.inl (p, q))), hw, h => have hk : (133 : Int) = 206 ∨ (133 : Int) = 207 := h; omega
  | .inr (.inr (.inr (.inl (k, n, s)))), hw, h => have hk : k = 206 ∨ k = 207 := h; have := hw.2.1; omega
  | .inr (.inr (.inr (.inr (.inl (k, r, d, e))))), hw, h => have hk : k = 206 ∨ k = 207 := h; have := hw.2.1; omega
  | .inr (.inr (.inr (.inr (.inr (k, n))))), hw, h =>
    have h1 : -10 ≤ n ∧ n < 0 := hw.2.2
    refine ⟨(-1 - n).toNat, by omega, k, ?_⟩
    show [k, n, 59] = _
    rw [show -1 - (((-1 - n).toNat : Nat) : Int) = n by omega]
theorem p_Ru_goOnce (o : Bool) (x : TB c 6) (hX : TC X f t) (hx : TCo t (aT f (f 151 6).toNat) o x) (hN : RnC f t) (hS : RSt f gg TH) (hfw : fw = 0 ∨ fw = 1) (hQ : ∀ code f', GoC x f t fw code f' → Q (some (tI code)) (WW f' t g)) : VV L (d + 67) m_Ru_goOnce 0 [some (tA 151), some (tI fw), none, none, none] [] (WW f t g) Q := by
  obtain ⟨r, h6, ⟨hr, h15, hko⟩, hp0, hp9⟩ := hN.cur
  obtain ⟨hg0, hg12⟩ := hN.hg
  have hcr : (f 151 6).toNat = r := by rw [h6]; exact Int.toNat_natCast r
  unfold GoC at hQ
  rw [hcr] at hx hQ
  have hT := hX.tt r hr
  have ha : (f 3 r).toNat = aT f r := rfl
  generalize aT f r = a at *
  have a0 := xT_0 hT
  have h9 : t a 9 ≤ 40 := by rw [hx.f9]; have := hx.n40; omega
  have hn9 := hx.f9
  have tx := fun D Q => s_Ru_text (L := L) (d := D) (t := t) (g := g) (Q := Q) h6 hr ha hT
  by_cases hend : f 151 7 = (if fw = 1 then (nB 6 x : Int) else 0)
  · simp only [if_pos hend] at hQ
    have st : VV L (d + 67) m_Ru_goOnce 0 [some (tA 151), some (tI fw), none, none, none] [] (WW f t g) Q = VV L (d + 66) m_Ru_leave 0 [some (tA 151), some (tI fw), none, none] [] (WW f t g) (fun r w1 => VV L (d + 66 + 1) m_Ru_goOnce 29 [some (tA 151), some (tI fw), some (tA a), none, none] (r.toList ++ []) w1 Q) := by
      rcases hfw with rfl | rfl
      · have h70 : f 151 7 = 0 := by simpa using hend
        simp only [u_Ru_goOnce_0, u_Ru_goOnce_1, u_Ru_goOnce_4, u_Ru_goOnce_5, u_Ru_goOnce_6, u_Ru_goOnce_9, u_Ru_goOnce_10, u_Ru_goOnce_13, u_Ru_goOnce_14, u_Ru_goOnce_17, u_Ru_goOnce_20, u_Ru_goOnce_21, u_Ru_goOnce_24, u_Ru_goOnce_25, u_Ru_goOnce_26, h1_151, gt_151_7, xT_h1, ne_eq, not_false_eq_true, not_true_eq_false, true_and, and_true, true_or, or_true, eq_self, Option.toList_some, Option.toList_none, List.cons_append, List.nil_append, tc_0, tc_I, tc_L, tc_A, Nat.reduceAdd, Nat.reduceLeDiff, Nat.reduceEqDiff, Int.reduceEq, Int.reduceLT, Int.reduceLE, Int.reduceNeg, Int.reduceToNat, Int.cast_ofNat_Int, if_true, if_false, and_self, or_self, ite_self, bI_0, bI_1, bI_01, Bool.false_eq_true, reduceCtorEq, tx, a0, hT, h70]
      · have h70 : f 151 7 = t a 9 := by rw [hn9]; simpa using hend
        simp only [u_Ru_goOnce_0, u_Ru_goOnce_1, u_Ru_goOnce_4, u_Ru_goOnce_5, u_Ru_goOnce_6, u_Ru_goOnce_9, u_Ru_goOnce_10, u_Ru_goOnce_13, u_Ru_goOnce_14, u_Ru_goOnce_17, u_Ru_goOnce_20, u_Ru_goOnce_21, u_Ru_goOnce_24, u_Ru_goOnce_25, u_Ru_goOnce_26, h1_151, gt_151_7, xT_h1, ne_eq, not_false_eq_true, not_true_eq_false, true_and, and_true, true_or, or_true, eq_self, Option.toList_some, Option.toList_none, List.cons_append, List.nil_append, tc_0, tc_I, tc_L, tc_A, Nat.reduceAdd, Nat.reduceLeDiff, Nat.reduceEqDiff, Int.reduceEq, Int.reduceLT, Int.reduceLE, Int.reduceNeg, Int.reduceToNat, Int.cast_ofNat_Int, if_true, if_false, and_self, or_self, ite_self, bI_0, bI_1, bI_01, Bool.false_eq_true, reduceCtorEq, tx, a0, hT, s_Tx_size hT, h70]
    rw [st]
    by_cases h5 : f 151 5 = 0
    · simp only [if_pos h5] at hQ
      rw [s_Ru_leave0 (by omega)]
      simp only [u_Ru_goOnce_29, ne_eq, not_false_eq_true, not_true_eq_false, true_and, and_true, true_or, or_true, eq_self, Option.toList_some, Option.toList_none, List.cons_append, List.nil_append, tc_0, tc_I, tc_L, tc_A, Nat.reduceAdd, Nat.reduceLeDiff, Nat.reduceEqDiff, Int.reduceEq, Int.reduceLT, Int.reduceLE, Int.reduceNeg, Int.reduceToNat, Int.cast_ofNat_Int, if_true, if_false, and_self, or_self, ite_self, bI_0, bI_1, bI_01, Bool.false_eq_true, reduceCtorEq]
      exact hQ 12 f ⟨rfl, rfl⟩
    · simp only [if_neg h5] at hQ
      obtain ⟨r2, b1, ⟨b2, b3, b4⟩, b5, b6, b7⟩ := hN.fr (f 151 5 - 1).toNat (by omega)
      have b1' : (f 153 (f 151 5 - 1).toNat).toNat = r2 := by rw [b1]; exact Int.toNat_natCast r2
      have hx2 := hX.ok r2 b2 b3
      rw [s_Ru_leave (a := aT f r2) (by omega) hg12 b1 b2 rfl (hX.tt r2 b2) (by rw [hx2.f9]; have := hx2.n40; omega) (insA_in b5 b6) ⟨b5, by rw [hx2.f9] at b6; have := hx2.n40; omega⟩ hN.wy hfw]
      simp only [u_Ru_goOnce_29, ne_eq, not_false_eq_true, not_true_eq_false, true_and, and_true, true_or, or_true, eq_self, Option.toList_some, Option.toList_none, List.cons_append, List.nil_append, tc_0, tc_I, tc_L, tc_A, Nat.reduceAdd, Nat.reduceLeDiff, Nat.reduceEqDiff, Int.reduceEq, Int.reduceLT, Int.reduceLE, Int.reduceNeg, Int.reduceToNat, Int.cast_ofNat_Int, if_true, if_false, and_self, or_self, ite_self, bI_0, bI_1, bI_01, Bool.false_eq_true, reduceCtorEq]
      refine hQ 0 _ ⟨rfl, ?_⟩
      rw [b1']
  · simp only [if_neg hend] at hQ
    obtain ⟨q, hq, hqn⟩ : ∃ q : Nat, (q : Int) = (if fw = 1 then f 151 7 else f 151 7 - 1) ∧ q < nB 6 x := by
      rcases hfw with rfl | rfl
      · rw [if_neg (by omega)] at hend; exact ⟨(f 151 7 - 1).toNat, by rw [if_neg (by omega)]; omega, by omega⟩
      · rw [if_pos rfl] at hend; exact ⟨(f 151 7).toNat, by rw [if_pos rfl]; omega, by omega⟩
    have hq9 : (q : Int) < t a 9 := by rw [hn9]; omega
    obtain ⟨e, he⟩ : ∃ e, (t9B 6 x 0 0)[q]? = some e := ⟨_, List.getElem?_eq_getElem (by rw [t9B_len]; exact hqn)⟩
    have hE := TO9_get _ 0 q e hx.tb he
    rw [Nat.zero_add] at hE
    have ho : o = false := by rw [← hx.od]; exact hko
    subst ho
    have hG := GL_get _ 0 q e (GL_B (u := uT) 6 x hx.w 0 _ 0 (Int.le_refl _) hx.sg) he
    simp only [Int.zero_add] at hG
    obtain ⟨⟨e1, e2, e3, e4, e5⟩, e6⟩ := hE
    have st : VV L (d + 67) m_Ru_goOnce 0 [some (tA 151), some (tI fw), none, none, none] [] (WW f t g) Q = VV L (d + 67) m_Ru_goOnce 48 [some (tA 151), some (tI fw), some (tA a), some (tI q), none] [] (WW f t g) Q := by
      rcases hfw with rfl | rfl
      · have h70 : ¬ f 151 7 = 0 := by rw [if_neg (by omega)] at hend; exact hend
        have wq : w32 (f 151 7 - 1) = (q : Int) := by rw [if_neg (by omega)] at hq; rw [w32_id (by omega) (by omega), hq]
        simp only [u_Ru_goOnce_0, u_Ru_goOnce_1, u_Ru_goOnce_4, u_Ru_goOnce_5, u_Ru_goOnce_6, u_Ru_goOnce_9, u_Ru_goOnce_10, u_Ru_goOnce_13, u_Ru_goOnce_14, u_Ru_goOnce_17, u_Ru_goOnce_20, u_Ru_goOnce_21, u_Ru_goOnce_30, u_Ru_goOnce_31, u_Ru_goOnce_34, u_Ru_goOnce_35, u_Ru_goOnce_38, u_Ru_goOnce_41, u_Ru_goOnce_42, u_Ru_goOnce_45, u_Ru_goOnce_46, u_Ru_goOnce_47, h1_151, gt_151_7, xT_h1, ne_eq, not_false_eq_true, not_true_eq_false, true_and, and_true, true_or, or_true, eq_self, Option.toList_some, Option.toList_none, List.cons_append, List.nil_append, tc_0, tc_I, tc_L, tc_A, Nat.reduceAdd, Nat.reduceLeDiff, Nat.reduceEqDiff, Int.reduceEq, Int.reduceLT, Int.reduceLE, Int.reduceNeg, Int.reduceToNat, Int.cast_ofNat_Int, if_true, if_false, and_self, or_self, ite_self, bI_0, bI_1, bI_01, Bool.false_eq_true, reduceCtorEq, tx, a0, hT, h70, wq]
      · have h70 : ¬ f 151 7 = t a 9 := by rw [if_pos rfl] at hend; rw [hn9]; exact hend
        rw [if_pos rfl] at hq
        rw [← hq] at h70
        simp only [u_Ru_goOnce_0, u_Ru_goOnce_1, u_Ru_goOnce_4, u_Ru_goOnce_5, u_Ru_goOnce_6, u_Ru_goOnce_9, u_Ru_goOnce_10, u_Ru_goOnce_13, u_Ru_goOnce_14, u_Ru_goOnce_17, u_Ru_goOnce_20, u_Ru_goOnce_21, u_Ru_goOnce_30, u_Ru_goOnce_31, u_Ru_goOnce_34, u_Ru_goOnce_35, u_Ru_goOnce_38, u_Ru_goOnce_41, u_Ru_goOnce_42, u_Ru_goOnce_45, u_Ru_goOnce_46, u_Ru_goOnce_47, h1_151, gt_151_7, xT_h1, ne_eq, not_false_eq_true, not_true_eq_false, true_and, and_true, true_or, or_true, eq_self, Option.toList_some, Option.toList_none, List.cons_append, List.nil_append, tc_0, tc_I, tc_L, tc_A, Nat.reduceAdd, Nat.reduceLeDiff, Nat.reduceEqDiff, Int.reduceEq, Int.reduceLT, Int.reduceLE, Int.reduceNeg, Int.reduceToNat, Int.cast_ofNat_Int, if_true, if_false, and_self, or_self, ite_self, bI_0, bI_1, bI_01, Bool.false_eq_true, reduceCtorEq, tx, a0, hT, s_Tx_size hT, h70, ← hq]
    rw [st]
    have i2 : insA t a 2 0 q = e.1.1 := by rw [insA_in (by omega) hq9, Int.toNat_natCast]; exact e1
    have i3 : insA t a 3 0 q = e.1.2.1 := by rw [insA_in (by omega) hq9, Int.toNat_natCast]; exact e2
    have hQ2 := fun code f' hh => hQ code f' ⟨q, e, hq, hqn, he, hh⟩
    rcases hG with ⟨r0, s, j, g1, g2, g3, g4, g5⟩ | ⟨g1, g2, ⟨x1, j1, g3, g4, g5⟩, g6, g7, g8, g9, g10, g11, g12, g13⟩
    · have st2 : VV L (d + 67) m_Ru_goOnce 48 [some (tA 151), some (tI fw), some (tA a), some (tI q), none] [] (WW f t g) Q = VV L (d + 67) m_Ru_goOnce 83 [some (tA 151), some (tI fw), some (tA a), some (tI q), none] [] (WW f t g) Q := by
        simp only [u_Ru_goOnce_48, u_Ru_goOnce_49, u_Ru_goOnce_50, u_Ru_goOnce_53, xT_h1, ne_eq, not_false_eq_true, not_true_eq_false, true_and, and_true, true_or, or_true, eq_self, Option.toList_some, Option.toList_none, List.cons_append, List.nil_append, tc_0, tc_I, tc_L, tc_A, Nat.reduceAdd, Nat.reduceLeDiff, Nat.reduceEqDiff, Int.reduceEq, Int.reduceLT, Int.reduceLE, Int.reduceNeg, Int.reduceToNat, Int.cast_ofNat_Int, if_true, if_false, and_self, or_self, ite_self, bI_0, bI_1, bI_01, Bool.false_eq_true, reduceCtorEq, a0, hT, s_Tx_role hT h9, i3, r0]
      rw [st2]
      by_cases hop : opS1 s = 206 ∨ opS1 s = 207
      · obtain ⟨m, hm, k, hk⟩ := s_206 s g1 hop
        rw [hk] at g5
        have hn := (seg_hd (seg_hd g5).2).1
        have hst : VV L (d + 67) m_Ru_goOnce 83 [some (tA 151), some (tI fw), some (tA a), some (tI q), none] [] (WW f t g) Q = VV L (d + 66) m_Ru_enter 0 [some (tA 151), some (tI q), some (tI fw), none, none, none] [] (WW f t g) (fun r w1 => VV L (d + 66 + 1) m_Ru_goOnce 111 [some (tA 151), some (tI fw), some (tA a), some (tI q), none] (r.toList ++ []) w1 Q) := by
          rcases hop with h | h <;> simp only [u_Ru_goOnce_83, u_Ru_goOnce_84, u_Ru_goOnce_85, u_Ru_goOnce_88, u_Ru_goOnce_91, u_Ru_goOnce_94, u_Ru_goOnce_95, u_Ru_goOnce_96, u_Ru_goOnce_99, u_Ru_goOnce_102, u_Ru_goOnce_105, u_Ru_goOnce_106, u_Ru_goOnce_107, u_Ru_goOnce_108, h1_151, xT_h1, ne_eq, not_false_eq_true, not_true_eq_false, true_and, and_true, true_or, or_true, eq_self, Option.toList_some, Option.toList_none, List.cons_append, List.nil_append, tc_0, tc_I, tc_L, tc_A, Nat.reduceAdd, Nat.reduceLeDiff, Nat.reduceEqDiff, Int.reduceEq, Int.reduceLT, Int.reduceLE, Int.reduceNeg, Int.reduceToNat, Int.cast_ofNat_Int, if_true, if_false, and_self, or_self, ite_self, bI_0, bI_1, bI_01, Bool.false_eq_true, reduceCtorEq, a0, hT, s_Tx_op hT h9, i2, g2, h]
        rw [hst]
        have hi4 : insA t a 4 (t a 1) q = e.1.2.2.1 := by rw [insA_in (by omega) hq9, Int.toNat_natCast]; exact e3
        have hlt : e.1.2.2.1 ≤ 1000 := by
          have h0 : ¬ tok t a (e.1.2.2.1 + 1) = 0 := by rw [hn]; omega
          have h1 := hx.l1
          rcases Int.lt_or_le (e.1.2.2.1 + 1) (t a 1) with h | h
          · omega
          · exact absurd (tok_ne h0).2 (by omega)
        rw [s_Ru_enter (b := aT f m) h6 hr ha hT hx.l1 h9 (by rw [i2, g2]) hi4 g4 hlt hn hm rfl (hX.tt m hm) (fun h => (hX.ok m hm h).l1) (hX.th m hm) hg0 hN.wy hfw]
        rw [← hk] at g5
        have fin := fun code f' (hh : GoN f t (opS1 s) m q fw code f') => hQ2 code f' (Or.inl ⟨r0, s, j, g1, g2, g3, g4, g5, Or.inl ⟨hop, m, hm, hn, hh⟩⟩)
        unfold GoN at fin
        by_cases c1 : t (aT f m) 15 = 0 ∨ kOrd (tok t (aT f m) 0) = true
        · rw [if_pos c1]; simp only [u_Ru_goOnce_111, ne_eq, not_false_eq_true, not_true_eq_false, true_and, and_true, true_or, or_true, eq_self, Option.toList_some, Option.toList_none, List.cons_append, List.nil_append, tc_0, tc_I, tc_L, tc_A, Nat.reduceAdd, Nat.reduceLeDiff, Nat.reduceEqDiff, Int.reduceEq, Int.reduceLT, Int.reduceLE, Int.reduceNeg, Int.reduceToNat, Int.cast_ofNat_Int, if_true, if_false, and_self, or_self, ite_self, bI_0, bI_1, bI_01, Bool.false_eq_true, reduceCtorEq]; exact fin 13 f (by rw [if_pos c1]; exact ⟨rfl, rfl⟩)
        · rw [if_neg c1]
          by_cases c2 : 12 ≤ f 151 5
          · rw [if_pos c2]; simp only [u_Ru_goOnce_111, ne_eq, not_false_eq_true, not_true_eq_false, true_and, and_true, true_or, or_true, eq_self, Option.toList_some, Option.toList_none, List.cons_append, List.nil_append, tc_0, tc_I, tc_L, tc_A, Nat.reduceAdd, Nat.reduceLeDiff, Nat.reduceEqDiff, Int.reduceEq, Int.reduceLT, Int.reduceLE, Int.reduceNeg, Int.reduceToNat, Int.cast_ofNat_Int, if_true, if_false, and_self, or_self, ite_self, bI_0, bI_1, bI_01, Bool.false_eq_true, reduceCtorEq]; exact fin 11 f (by rw [if_neg c1, if_pos c2]; exact ⟨rfl, rfl⟩)
          · rw [if_neg c2]; simp only [u_Ru_goOnce_111, ne_eq, not_false_eq_true, not_true_eq_false, true_and, and_true, true_or, or_true, eq_self, Option.toList_some, Option.toList_none, List.cons_append, List.nil_append, tc_0, tc_I, tc_L, tc_A, Nat.reduceAdd, Nat.reduceLeDiff, Nat.reduceEqDiff, Int.reduceEq, Int.reduceLT, Int.reduceLE, Int.reduceNeg, Int.reduceToNat, Int.cast_ofNat_Int, if_true, if_false, and_self, or_self, ite_self, bI_0, bI_1, bI_01, Bool.false_eq_true, reduceCtorEq]; exact fin 0 _ (by rw [if_neg c1, if_neg c2]; exact ⟨rfl, rfl⟩)
      · have hno1 : ¬ e.1.1 = 206 := by rw [g2]; exact fun h => hop (Or.inl h)
        have hno2 : ¬ e.1.1 = 207 := by rw [g2]; exact fun h => hop (Or.inr h)
        simp only [u_Ru_goOnce_83, u_Ru_goOnce_84, u_Ru_goOnce_85, u_Ru_goOnce_88, u_Ru_goOnce_91, u_Ru_goOnce_94, u_Ru_goOnce_95, u_Ru_goOnce_96, u_Ru_goOnce_99, u_Ru_goOnce_102, u_Ru_goOnce_105, u_Ru_goOnce_106, u_Ru_goOnce_107, u_Ru_goOnce_108, u_Ru_goOnce_111, u_Ru_goOnce_112, u_Ru_goOnce_113, u_Ru_goOnce_116, u_Ru_goOnce_117, u_Ru_goOnce_118, u_Ru_goOnce_119, h1_151, h1_152, gt_151_1, xT_h1, ne_eq, not_false_eq_true, not_true_eq_false, true_and, and_true, true_or, or_true, eq_self, Option.toList_some, Option.toList_none, List.cons_append, List.nil_append, tc_0, tc_I, tc_L, tc_A, Nat.reduceAdd, Nat.reduceLeDiff, Nat.reduceEqDiff, Int.reduceEq, Int.reduceLT, Int.reduceLE, Int.reduceNeg, Int.reduceToNat, Int.cast_ofNat_Int, if_true, if_false, and_self, or_self, ite_self, bI_0, bI_1, bI_01, Bool.false_eq_true, reduceCtorEq, a0, hT, s_Tx_op hT h9, i2, hno1, hno2]
        obtain ⟨d1, hd1⟩ : ∃ d1, d + 66 = d1 + 5 * c + 11 := ⟨d + 55 - 5 * c, by have := hx.c11; omega⟩
        rw [hd1]
        refine p_Do_does (x := 0) hT hx.l1 h9 hx.c11 hS hfw s g1 hq9 ⟨by rw [e1, g2], by rw [e2, r0], e3, by rw [e4, g3], fun h => absurd rfl h⟩ hop g4 g5 (fun code f1 hk => ?_)
        have fin := hQ2 code _ (Or.inl ⟨r0, s, j, g1, g2, g3, g4, g5, Or.inr ⟨hop, f1, hk, rfl⟩⟩)
        by_cases hc0 : code = 0
        · rw [if_pos hc0] at fin
          rcases hfw with rfl | rfl
          · rw [if_neg (by omega)] at fin
            simp only [u_Ru_goOnce_122, u_Ru_goOnce_124, u_Ru_goOnce_126, u_Ru_goOnce_129, u_Ru_goOnce_130, u_Ru_goOnce_131, u_Ru_goOnce_134, u_Ru_goOnce_135, u_Ru_goOnce_136, u_Ru_goOnce_137, u_Ru_goOnce_140, u_Ru_goOnce_141, u_Ru_goOnce_144, u_Ru_goOnce_146, h1_151, pt_151_7, ne_eq, not_false_eq_true, not_true_eq_false, true_and, and_true, true_or, or_true, eq_self, Option.toList_some, Option.toList_none, List.cons_append, List.nil_append, tc_0, tc_I, tc_L, tc_A, Nat.reduceAdd, Nat.reduceLeDiff, Nat.reduceEqDiff, Int.reduceEq, Int.reduceLT, Int.reduceLE, Int.reduceNeg, Int.reduceToNat, Int.cast_ofNat_Int, if_true, if_false, and_self, or_self, ite_self, bI_0, bI_1, bI_01, Bool.false_eq_true, reduceCtorEq, hc0]
            rw [hc0] at fin
            exact fin
          · rw [if_pos rfl] at fin
            have w1 : w32 ((q : Int) + 1) = q + 1 := w32_id (by omega) (by omega)
            simp only [u_Ru_goOnce_122, u_Ru_goOnce_124, u_Ru_goOnce_126, u_Ru_goOnce_129, u_Ru_goOnce_130, u_Ru_goOnce_131, u_Ru_goOnce_134, u_Ru_goOnce_135, u_Ru_goOnce_136, u_Ru_goOnce_137, u_Ru_goOnce_140, u_Ru_goOnce_141, u_Ru_goOnce_144, u_Ru_goOnce_146, h1_151, pt_151_7, ne_eq, not_false_eq_true, not_true_eq_false, true_and, and_true, true_or, or_true, eq_self, Option.toList_some, Option.toList_none, List.cons_append, List.nil_append, tc_0, tc_I, tc_L, tc_A, Nat.reduceAdd, Nat.reduceLeDiff, Nat.reduceEqDiff, Int.reduceEq, Int.reduceLT, Int.reduceLE, Int.reduceNeg, Int.reduceToNat, Int.cast_ofNat_Int, if_true, if_false, and_self, or_self, ite_self, bI_0, bI_1, bI_01, Bool.false_eq_true, reduceCtorEq, hc0, w1]
            rw [hc0] at fin
            exact fin
        · rw [if_neg hc0] at fin
          simp only [u_Ru_goOnce_122, u_Ru_goOnce_124, u_Ru_goOnce_126, u_Ru_goOnce_129, u_Ru_goOnce_130, u_Ru_goOnce_131, u_Ru_goOnce_134, u_Ru_goOnce_135, u_Ru_goOnce_136, u_Ru_goOnce_137, u_Ru_goOnce_140, u_Ru_goOnce_141, u_Ru_goOnce_144, u_Ru_goOnce_146, ne_eq, not_false_eq_true, not_true_eq_false, true_and, and_true, true_or, or_true, eq_self, Option.toList_some, Option.toList_none, List.cons_append, List.nil_append, tc_0, tc_I, tc_L, tc_A, Nat.reduceAdd, Nat.reduceLeDiff, Nat.reduceEqDiff, Int.reduceEq, Int.reduceLT, Int.reduceLE, Int.reduceNeg, Int.reduceToNat, Int.cast_ofNat_Int, if_true, if_false, and_self, or_self, ite_self, bI_0, bI_1, bI_01, Bool.false_eq_true, reduceCtorEq, hc0]
          exact fin
    · have hro : ¬ e.1.2.1 = 0 := by omega
      rw [if_neg (by decide)] at g2
      obtain ⟨k1, k2, x2, j2, k3, k4, k5⟩ := g8 g2
      obtain ⟨z1, z2, z3, z4, z5, z6⟩ := e5 hro
      obtain ⟨z7, z8⟩ := e6 hro
      have hst : VV L (d + 67) m_Ru_goOnce 48 [some (tA 151), some (tI fw), some (tA a), some (tI q), none] [] (WW f t g) Q = VV L (d + 66) (if e.1.1 = 208 then m_Ru_overIf else m_Ru_overFrom) 0 [some (tA 151), some (tI q), some (tI fw), none, none, none] [] (WW f t g) (fun r w1 => VV L (d + 66 + 1) m_Ru_goOnce (if e.1.1 = 208 then 73 else 82) [some (tA 151), some (tI fw), some (tA a), some (tI q), none] (r.toList ++ []) w1 Q) := by
        rcases g2 with h | h
        · simp only [u_Ru_goOnce_48, u_Ru_goOnce_49, u_Ru_goOnce_50, u_Ru_goOnce_53, u_Ru_goOnce_56, u_Ru_goOnce_57, u_Ru_goOnce_58, u_Ru_goOnce_61, u_Ru_goOnce_64, u_Ru_goOnce_67, u_Ru_goOnce_68, u_Ru_goOnce_69, u_Ru_goOnce_70, u_Ru_goOnce_76, u_Ru_goOnce_77, u_Ru_goOnce_78, u_Ru_goOnce_79, h1_151, xT_h1, ne_eq, not_false_eq_true, not_true_eq_false, true_and, and_true, true_or, or_true, eq_self, Option.toList_some, Option.toList_none, List.cons_append, List.nil_append, tc_0, tc_I, tc_L, tc_A, Nat.reduceAdd, Nat.reduceLeDiff, Nat.reduceEqDiff, Int.reduceEq, Int.reduceLT, Int.reduceLE, Int.reduceNeg, Int.reduceToNat, Int.cast_ofNat_Int, if_true, if_false, and_self, or_self, ite_self, bI_0, bI_1, bI_01, Bool.false_eq_true, reduceCtorEq, a0, hT, s_Tx_role hT h9, i3, hro, s_Tx_op hT h9, i2, h, if_true]
        · simp only [u_Ru_goOnce_48, u_Ru_goOnce_49, u_Ru_goOnce_50, u_Ru_goOnce_53, u_Ru_goOnce_56, u_Ru_goOnce_57, u_Ru_goOnce_58, u_Ru_goOnce_61, u_Ru_goOnce_64, u_Ru_goOnce_67, u_Ru_goOnce_68, u_Ru_goOnce_69, u_Ru_goOnce_70, u_Ru_goOnce_76, u_Ru_goOnce_77, u_Ru_goOnce_78, u_Ru_goOnce_79, h1_151, xT_h1, ne_eq, not_false_eq_true, not_true_eq_false, true_and, and_true, true_or, or_true, eq_self, Option.toList_some, Option.toList_none, List.cons_append, List.nil_append, tc_0, tc_I, tc_L, tc_A, Nat.reduceAdd, Nat.reduceLeDiff, Nat.reduceEqDiff, Int.reduceEq, Int.reduceLT, Int.reduceLE, Int.reduceNeg, Int.reduceToNat, Int.cast_ofNat_Int, if_true, if_false, and_self, or_self, ite_self, bI_0, bI_1, bI_01, Bool.false_eq_true, reduceCtorEq, a0, hT, s_Tx_role hT h9, i3, hro, s_Tx_op hT h9, i2, h, show ¬ (211 : Int) = 208 by decide, if_false]
      rw [hst]
      obtain ⟨d1, hd1⟩ : ∃ d1, d + 66 = d1 + 5 * c + 9 := ⟨d + 57 - 5 * c, by have := hx.c11; omega⟩
      rw [hd1]
      have ne : ¬ e.1.1 = 215 := by rcases g2 with h | h <;> rw [h] <;> decide
      have m9 : e.1.2.2.2.2.1 < t a 9 := by rw [hn9]; omega
      have q9 : e.1.2.2.2.2.2.2 < t a 9 := by rw [hn9]; omega
      refine p_Ru_over (j := j1) (j2 := j2) (hb := e.2.1) (qb := e.2.2) h6 hr ha hT hx.l1 h9 (by have := hx.c11; omega) hS hfw g2 g1 hq9 i3 (by rw [insA_in (by omega) hq9, Int.toNat_natCast]; exact z4) (by rw [insA_in z1 m9]; exact z5 ne) (by rw [insA_in z1 m9]; exact z6) z1 g10 g11 q9 (by rw [insA_in z1 m9]; exact z7) (by rw [insA_in (by omega) q9]; exact z8) x1 x2 g3 k3 (by omega) g4 g5 (by omega) k4 k5 (fun code f' hk => ?_)
      have fin := hQ2 code f' (Or.inr ⟨x1, x2, j1, j2, g1, g2, g3, k3, g4, g5, k4, k5, g6, g7, k1, k2, ⟨z1, g10, g11, g12⟩, g13, hk⟩)
      rcases g2 with h | h
      · simp only [u_Ru_goOnce_73, u_Ru_goOnce_76, u_Ru_goOnce_77, u_Ru_goOnce_78, u_Ru_goOnce_79, u_Ru_goOnce_82, ne_eq, not_false_eq_true, not_true_eq_false, true_and, and_true, true_or, or_true, eq_self, Option.toList_some, Option.toList_none, List.cons_append, List.nil_append, tc_0, tc_I, tc_L, tc_A, Nat.reduceAdd, Nat.reduceLeDiff, Nat.reduceEqDiff, Int.reduceEq, Int.reduceLT, Int.reduceLE, Int.reduceNeg, Int.reduceToNat, Int.cast_ofNat_Int, if_true, if_false, and_self, or_self, ite_self, bI_0, bI_1, bI_01, Bool.false_eq_true, reduceCtorEq, h, if_true]; exact fin
      · simp only [u_Ru_goOnce_73, u_Ru_goOnce_76, u_Ru_goOnce_77, u_Ru_goOnce_78, u_Ru_goOnce_79, u_Ru_goOnce_82, ne_eq, not_false_eq_true, not_true_eq_false, true_and, and_true, true_or, or_true, eq_self, Option.toList_some, Option.toList_none, List.cons_append, List.nil_append, tc_0, tc_I, tc_L, tc_A, Nat.reduceAdd, Nat.reduceLeDiff, Nat.reduceEqDiff, Int.reduceEq, Int.reduceLT, Int.reduceLE, Int.reduceNeg, Int.reduceToNat, Int.cast_ofNat_Int, if_true, if_false, and_self, or_self, ite_self, bI_0, bI_1, bI_01, Bool.false_eq_true, reduceCtorEq, h, show ¬ (211 : Int) = 208 by decide, if_false]; exact fin
end
