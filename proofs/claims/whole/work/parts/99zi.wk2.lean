/-! The walk, the class -/
def WkT {c : Nat} (x : TB c 6) (T : Int → Int) (most : Int) : Nat → Mem → Nat → Nat → Int → Mem → Prop
  | 0, _, _, _, _, _ => False
  | N + 1, f, mv, p, code, f' => if nB 6 x ≤ p then code = (mv : Int) ∧ f' = f else ∃ e, (t9B 6 x 0 0)[p]? = some e ∧ if e.1.2.1 = 0 ∨ e.1.2.1 = 1 then (if (mv : Int) = most then code = -3 ∧ f' = f else ∃ (E : EE c) (i j : Int), wX E ∧ seg T i j (kX E) ∧ (T j = 123 ∨ T j = 59) ∧ 0 ≤ i ∧ ¬ kEnd (T (i - 1)) = true ∧ i = (if e.1.2.1 = 0 then e.1.2.2.2.1 else e.2.1) ∧ (match vE (vF (envC f brN) c) E with
      | .error w => code = w32 (-20 - w) ∧ ¬ w = 0 ∧ FX f f'
      | .ok (v, _) => ∃ f1, if e.1.2.1 = 0 then (e.1.1 = 214 ∧ ∃ n, kName n = true ∧ T (e.1.2.2.1 + 1) = n ∧ 0 ≤ e.1.2.2.1 ∧ FX (bgN f (n - 97).toNat (w32 v)) f1 ∧ WkT x T most N f1 (mv + 1) (p + 1) code f') else ((e.1.1 = 215 ∨ e.1.1 = 216) ∧ FX f f1 ∧ WkT x T most N f1 (mv + 1) (if v = 0 then (e.1.2.2.2.2.2.1 + 1).toNat else p + 1) code f')))
    else ((e.1.2.1 = 2 ∨ e.1.2.1 = 3) ∧ (e.1.1 = 215 ∨ e.1.1 = 216) ∧ WkT x T most N f mv (if e.1.2.1 = 2 then (e.1.2.2.2.2.2.2 + 1).toNat else if e.1.1 = 215 then e.1.2.2.2.2.1.toNat else p + 1) code f')
section
variable {L d c a : Nat} {f t g : Mem} {Q : Option TV → Wd → Prop} {most : Int}
theorem s_Wa_isMove {q : Nat} {ro : Int} (hT : isT a) (h9 : t a 9 ≤ 40) (hr : insA t a 3 0 q = ro) : VV L (d + 2) m_Wa_isMove 0 [some (tA a), some (tI q)] [] (WW f t g) Q = Q (some (tI (if ro = 0 ∨ ro = 1 then 1 else 0))) (WW f t g) := by
  have a0 := xT_0 hT
  by_cases h0 : ro = 0
  · rw [if_pos (Or.inl h0)]
    simp only [u_Wa_isMove_0, u_Wa_isMove_1, u_Wa_isMove_2, u_Wa_isMove_5, u_Wa_isMove_8, u_Wa_isMove_9, u_Wa_isMove_10, u_Wa_isMove_13, u_Wa_isMove_14, u_Wa_isMove_17, u_Wa_isMove_18, u_Wa_isMove_21, u_Wa_isMove_22, xT_h1, ne_eq, not_false_eq_true, not_true_eq_false, true_and, and_true, true_or, or_true, eq_self, Option.toList_some, Option.toList_none, List.cons_append, List.nil_append, tc_0, tc_I, tc_L, tc_A, Nat.reduceAdd, Nat.reduceLeDiff, Nat.reduceEqDiff, Int.reduceEq, Int.reduceLT, Int.reduceLE, Int.reduceNeg, Int.reduceToNat, Int.cast_ofNat_Int, if_true, if_false, and_self, or_self, ite_self, bI_0, bI_1, bI_01, Bool.false_eq_true, reduceCtorEq, a0, hT, s_Tx_role hT h9, hr, h0]
  · by_cases h1 : ro = 1
    · rw [if_pos (Or.inr h1)]
      simp only [u_Wa_isMove_0, u_Wa_isMove_1, u_Wa_isMove_2, u_Wa_isMove_5, u_Wa_isMove_8, u_Wa_isMove_9, u_Wa_isMove_10, u_Wa_isMove_13, u_Wa_isMove_14, u_Wa_isMove_17, u_Wa_isMove_18, u_Wa_isMove_21, u_Wa_isMove_22, xT_h1, ne_eq, not_false_eq_true, not_true_eq_false, true_and, and_true, true_or, or_true, eq_self, Option.toList_some, Option.toList_none, List.cons_append, List.nil_append, tc_0, tc_I, tc_L, tc_A, Nat.reduceAdd, Nat.reduceLeDiff, Nat.reduceEqDiff, Int.reduceEq, Int.reduceLT, Int.reduceLE, Int.reduceNeg, Int.reduceToNat, Int.cast_ofNat_Int, if_true, if_false, and_self, or_self, ite_self, bI_0, bI_1, bI_01, Bool.false_eq_true, reduceCtorEq, a0, hT, s_Tx_role hT h9, hr, h1]
    · rw [if_neg (fun h => h.elim h0 h1)]
      simp only [u_Wa_isMove_0, u_Wa_isMove_1, u_Wa_isMove_2, u_Wa_isMove_5, u_Wa_isMove_8, u_Wa_isMove_9, u_Wa_isMove_10, u_Wa_isMove_13, u_Wa_isMove_14, u_Wa_isMove_17, u_Wa_isMove_18, u_Wa_isMove_21, u_Wa_isMove_22, xT_h1, ne_eq, not_false_eq_true, not_true_eq_false, true_and, and_true, true_or, or_true, eq_self, Option.toList_some, Option.toList_none, List.cons_append, List.nil_append, tc_0, tc_I, tc_L, tc_A, Nat.reduceAdd, Nat.reduceLeDiff, Nat.reduceEqDiff, Int.reduceEq, Int.reduceLT, Int.reduceLE, Int.reduceNeg, Int.reduceToNat, Int.cast_ofNat_Int, if_true, if_false, and_self, or_self, ite_self, bI_0, bI_1, bI_01, Bool.false_eq_true, reduceCtorEq, a0, hT, s_Tx_role hT h9, hr, h0, h1]
theorem ar_wk {N n : Nat} (h : n + (N + 1) ≤ 100000) : ¬ (1000000 : Int) ≤ n ∧ w32 ((n : Int) + 1) = ((n + 1 : Nat) : Int) := by
  refine ⟨by omega, ?_⟩; rw [w32_id (by omega) (by omega)]; omega
theorem set_s (s : SS c) (hw : wS true s) : ∃ n E, s = .inl (214, n, E) ∧ kName n = true ∧ wX E := by
  match s, hw with
  | .inl (k, n, e), hw => exact ⟨n, e, by have : k = 214 := hw.1; rw [this], hw.2.1, hw.2.2⟩
  | .inr (.inl (p, op, e)), hw => exact absurd hw.1 (by decide)
  | .inr (.inr (.inl (p, q))), hw => exact absurd hw.1 (by decide)
  | .inr (.inr (.inr (.inl (k, n, s)))), hw => exact absurd hw.1 (by decide)
  | .inr (.inr (.inr (.inr (.inl (k, r, d, e))))), hw => exact absurd hw.1 (by decide)
  | .inr (.inr (.inr (.inr (.inr (k, n))))), hw => exact absurd hw.1 (by decide)
theorem ke_200 {y : Int} (hy : 200 ≤ y) : ¬ kEnd y = true := by unfold kEnd; simp only [decide_eq_true_eq]; omega
theorem q_nm {nm : Int} (h : 97 ≤ nm ∧ nm ≤ 122) : ¬ nm = 0 := by omega
theorem q_st {z l : Int} (h : z + 1 < l) (h1 : l ≤ 1000) : z ≤ 1000 := by omega
theorem q_3 {z : Int} (h : 0 ≤ z) : 0 ≤ z + 1 + 1 + 1 := by omega
theorem q_4 {z : Int} : z + 1 + 1 + 1 - 1 = z + 1 + 1 := by omega
theorem q_5 {z : Int} (h : z = 1 ∨ z = 2 ∨ z = 3) : ¬ z = 0 := by omega
theorem q_6 {h m q n : Int} (h1 : h < m) (h2 : m ≤ q) (h3 : q < n) : h < n := by omega
theorem q_7 {z : Int} (h : 1 ≤ z) : 0 ≤ z := by omega
theorem q_8 {z : Int} (h : z = 215 ∨ z = 216) : 200 ≤ z := by omega
theorem q_10 {z : Int} (h : z = 1 ∨ z = 2 ∨ z = 3) (h1 : ¬ z = 1) : z = 2 ∨ z = 3 := by omega
theorem q_12 {most : Int} {mv : Nat} (h1 : (mv : Int) ≤ most) (h2 : 100 * (most - mv) + 50 < ((0 : Nat) : Int)) : False := by omega
theorem q_13 {z : Int} (h : z = 2 ∨ z = 3) : ¬ (z = 0 ∨ z = 1) := by omega
theorem q_14 {c d : Nat} (h : c ≤ 11) : 5 * c + 4 ≤ d + 66 := by omega
theorem q_15 {p : Nat} {z : Int} (h : (p : Int) ≤ z) : p < (z + 1).toNat := by omega
/-- an entry of an ordinary text, by its role -/
def WA (c : Nat) (T : Int → Int) (e : En9) (i5 : Int) : Prop := e.1.2.1 = 0 ∧ e.1.1 = 214 ∧ ∃ (nm : Int) (E : EE c) (j : Int), kName nm = true ∧ T (e.1.2.2.1 + 1) = nm ∧ 0 ≤ e.1.2.2.1 ∧ e.1.2.2.1 ≤ 1000 ∧ wX E ∧ seg T i5 j (kX E) ∧ T j = 59 ∧ 0 ≤ i5 ∧ ¬ kEnd (T (i5 - 1)) = true ∧ i5 = e.1.2.2.2.1
def WBr (c : Nat) (T : Int → Int) (t : Mem) (a p n : Nat) (e : En9) (i5 : Int) : Prop := e.1.2.1 = 1 ∧ (e.1.1 = 215 ∨ e.1.1 = 216) ∧ (∃ (E : EE c) (j : Int), wX E ∧ seg T i5 j (kX E) ∧ T j = 123 ∧ 0 ≤ i5 ∧ ¬ kEnd (T (i5 - 1)) = true ∧ i5 = e.2.1) ∧ insA t a 6 0 p = (p : Int) ∧ (e.1.1 = 215 → insA t a 8 0 p = e.1.2.2.2.2.2.1) ∧ (e.1.1 = 216 → insA t a 7 0 p = e.1.2.2.2.2.2.1) ∧ (p : Int) < e.1.2.2.2.2.2.1 ∧ e.1.2.2.2.2.2.1 < n
def WCr (G : List En9) (t : Mem) (a p n : Nat) (e : En9) : Prop := (e.1.2.1 = 2 ∨ e.1.2.1 = 3) ∧ (e.1.1 = 215 ∨ e.1.1 = 216) ∧ insA t a 6 0 p = e.1.2.2.2.2.1 ∧ 0 ≤ e.1.2.2.2.2.1 ∧ e.1.2.2.2.2.1 < n ∧ insA t a 8 0 e.1.2.2.2.2.1 = e.1.2.2.2.2.2.2 ∧ (e.1.2.1 = 2 → (p : Int) ≤ e.1.2.2.2.2.2.2) ∧ e.1.2.2.2.2.2.2 < n ∧ ∃ e', G[e.1.2.2.2.2.1.toNat]? = some e' ∧ e'.1.2.1 = 1
theorem wk_ent (x : TB c 6) (hx : TCo t a true x) {p : Nat} (hp : p < nB 6 x) : ∃ e, (t9B 6 x 0 0)[p]? = some e ∧ insA t a 2 0 p = e.1.1 ∧ insA t a 3 0 p = e.1.2.1 ∧ insA t a 4 (t a 1) p = e.1.2.2.1 ∧ (WA c (tok t a) e (insA t a 5 (t a 1) p) ∨ WBr c (tok t a) t a p (nB 6 x) e (insA t a 5 (t a 1) p) ∨ WCr (t9B 6 x 0 0) t a p (nB 6 x) e) := by
  have hn9 := hx.f9
  have hq9 : (p : Int) < t a 9 := by rw [hn9]; exact Int.ofNat_lt.mpr hp
  have p0 : (0 : Int) ≤ p := Int.natCast_nonneg p
  obtain ⟨e, he⟩ : ∃ e, (t9B 6 x 0 0)[p]? = some e := ⟨_, List.getElem?_eq_getElem (by rw [t9B_len]; exact hp)⟩
  have hE := TO9_get _ 0 p e hx.tb he
  rw [Nat.zero_add] at hE
  have hG := GL_get _ 0 p e (GL_B (u := uT) 6 x hx.w 0 _ 0 (Int.le_refl _) hx.sg) he
  simp only [Int.zero_add] at hG
  have hH := H9_top x hx.w he
  have l1 := hx.l1
  obtain ⟨⟨e1, e2, e3, e4, e5⟩, e6⟩ := hE
  have i5 : insA t a 5 (t a 1) p = e.1.2.2.2.1 := by rw [insA_in p0 hq9, Int.toNat_natCast]; exact e4
  clear hx
  refine ⟨e, he, by rw [insA_in p0 hq9, Int.toNat_natCast]; exact e1, by rw [insA_in p0 hq9, Int.toNat_natCast]; exact e2, by rw [insA_in p0 hq9, Int.toNat_natCast]; exact e3, ?_⟩
  rcases hG with ⟨r0, s, j, g1, g2, g3, g4, g5⟩ | ⟨g1, g2, ⟨x1, j1, g3, g4, g5⟩, g6, g7, g8, g9, g10, g11, g12, g13⟩
  · left
    obtain ⟨nm, E, rfl, hk, hwE⟩ := set_s s g1
    have hnm : 97 ≤ nm ∧ nm ≤ 122 := by unfold kName at hk; simpa using hk
    have g5' : seg (tok t a) e.1.2.2.1 j (214 :: nm :: 61 :: (kX E ++ [59])) := g5
    obtain ⟨q1, g5'⟩ := seg_hd g5'
    obtain ⟨q2, g5'⟩ := seg_hd g5'
    obtain ⟨q3, g5'⟩ := seg_hd g5'
    obtain ⟨q4, g5'⟩ := seg_split g5'
    obtain ⟨q5, _⟩ := seg_hd g5'
    have ei : e.1.2.2.2.1 = e.1.2.2.1 + 1 + 1 + 1 := by rw [g3]; show e.1.2.2.1 + (3 : Int) = _; rw [Int.add_assoc, Int.add_assoc]; rfl
    have h0 : ¬ tok t a (e.1.2.2.1 + 1) = 0 := by rw [q2]; exact q_nm hnm
    have hlt := (tok_ne h0).2
    rw [i5, ei]
    refine ⟨r0, g2, nm, E, _, hk, q2, g4, ?_, hwE, q4, q5, ?_, ?_, ei.symm⟩
    · exact q_st hlt l1
    · exact q_3 g4
    · rw [q_4, q3]; decide
  · right
    rw [if_pos rfl] at g2
    have hro : ¬ e.1.2.1 = 0 := q_5 g1
    obtain ⟨z1, z2, z3, z4, z5, z6⟩ := e5 hro
    obtain ⟨z7, z8⟩ := e6 hro
    obtain ⟨y1, y2, y3⟩ := hH hro
    have hh9 : e.1.2.2.2.2.1 < t a 9 := by rw [hn9]; exact q_6 g10 g11 g12
    have i6 : insA t a 6 0 p = e.1.2.2.2.2.1 := by rw [insA_in p0 hq9, Int.toNat_natCast]; exact z4
    have i8 : insA t a 8 0 e.1.2.2.2.2.1 = e.1.2.2.2.2.2.2 := by rw [insA_in z1 hh9]; exact z6
    by_cases h1 : e.1.2.1 = 1
    · left
      rw [if_pos h1] at g13
      have i5' : insA t a 5 (t a 1) p = e.2.1 := by rw [insA_in p0 hq9, g13]; exact z7
      rw [i5']
      refine ⟨h1, g2, ⟨x1, j1, g3, g4, g5, ?_, ?_, rfl⟩, by rw [i6, g13], fun h => ?_, fun h => ?_, by rw [g13]; exact g10, ?_⟩
      · exact q_7 g7
      · rw [g6]; exact ke_200 (q_8 g2)
      · rw [g13, i8]; exact (y1 h).symm
      · rw [g13, insA_in z1 hh9]; exact z5 (by rw [h]; decide)
      · exact Int.lt_of_le_of_lt g11 g12
    · right
      rw [if_neg h1] at g13
      refine ⟨?_, g2, i6, z1, ?_, i8, fun h => ?_, g12, y3⟩
      · exact q_10 g1 h1
      · exact q_6 g10 g11 g12
      · rw [if_pos h] at g13; rw [g13]; exact g11
theorem ar_w1 {most : Int} {mv p n N nb : Nat} (hm : most ≤ 400) (hmv : (mv : Int) ≤ most) (hf : ¬ (mv : Int) = most) (hp : p < nb) (h40 : nb ≤ 40) (hn : n + (N + 1) ≤ 100000) (hN : 100 * (most - mv) + 50 < ((N + 1 : Nat) : Int)) : (mv : Int) < most ∧ w32 ((mv : Int) + 1) = ((mv + 1 : Nat) : Int) ∧ w32 ((p : Int) + 1) = ((p + 1 : Nat) : Int) ∧ n + 1 + N ≤ 100000 ∧ ((mv + 1 : Nat) : Int) ≤ most ∧ 100 * (most - ((mv + 1 : Nat) : Int)) + 50 < N ∧ (∀ q : Nat, 100 * (most - ((mv + 1 : Nat) : Int)) + 91 - q < N) ∧ p + 1 ≤ nb := by
  refine ⟨by omega, ?_, ?_, by omega, by omega, by omega, fun q => by omega, by omega⟩
  · rw [w32_id (by omega) (by omega)]; omega
  · rw [w32_id (by omega) (by omega)]; omega
theorem ar_w2 {most : Int} {mv p q n N nb : Nat} (hp : p < nb) (h40 : nb ≤ 40) (hn : n + (N + 1) ≤ 100000) (hN : 100 * (most - mv) + 91 - p < ((N + 1 : Nat) : Int)) : n + 1 + N ≤ 100000 ∧ 100 * (most - (mv : Int)) + 50 < N ∧ (p < q → 100 * (most - (mv : Int)) + 91 - q < N) ∧ w32 ((p : Int) + 1) = ((p + 1 : Nat) : Int) := by
  refine ⟨by omega, by omega, fun _ => by omega, ?_⟩
  rw [w32_id (by omega) (by omega)]; omega
theorem ar_w3 {z : Int} {nb : Nat} (h0 : 0 ≤ z) (h1 : z < nb) (h40 : nb ≤ 40) : w32 (z + 1) = z + 1 ∧ (((z + 1).toNat : Nat) : Int) = z + 1 ∧ (z + 1).toNat ≤ nb ∧ ((z.toNat : Nat) : Int) = z ∧ z.toNat ≤ nb := by
  refine ⟨w32_id (by omega) (by omega), by omega, by omega, by omega, by omega⟩
theorem ar_w4 {nm st : Int} (h : 97 ≤ nm ∧ nm ≤ 122) (h0 : 0 ≤ st) (h1 : st ≤ 1000) : w32 (st + 1) = st + 1 ∧ w32 (nm - 97) = nm - 97 ∧ (0 ≤ nm - 97 ∧ nm - 97 < 26) ∧ (nm - 97).toNat < 26 := by
  refine ⟨w32_id (by omega) (by omega), w32_id (by omega) (by omega), by omega, by omega⟩
theorem p_Wa_L (x : TB c 6) (hx : TCo t a true x) (hT : isT a) (hm : 0 ≤ most ∧ most ≤ 400) : ∀ (N : Nat) (f : Mem) (n mv p : Nat) (o6 o7 : Option TV), n + N ≤ 100000 → (mv : Int) ≤ most → p ≤ nB 6 x → 100 * (most - mv) + 50 < N → (∀ e, (t9B 6 x 0 0)[p]? = some e → ¬ (e.1.2.1 = 0 ∨ e.1.2.1 = 1) → 100 * (most - mv) + 91 - p < N) → (∃ gg TH, RSt f gg TH) → (∀ code f', WkT x (tok t a) most N f mv p code f' → Q (some (tI code)) (WW f' t g)) → VV L (d + 70) m_Wa_walkThrough 8 [some (tA 155), some (tA a), some (tI most), some (tI mv), some (tI p), some (tI n), o6, o7] [] (WW f t g) Q := by
  have a0 := xT_0 hT
  have hn9 := hx.f9
  have n40 := hx.n40
  have h9 : t a 9 ≤ 40 := by rw [hn9]; exact Int.ofNat_le.mpr n40
  have c11 := hx.c11
  intro N
  induction N with
  | zero => intro f n mv p o6 o7 _ h1 _ h2; exact (q_12 h1 h2).elim
  | succ N ih =>
    intro f n mv p o6 o7 hn hmv hp hN1 hN2 hS hQ
    obtain ⟨k1, k2⟩ := ar_wk hn
    unfold WkT at hQ
    by_cases hend : nB 6 x ≤ p
    · have hpe : (nB 6 x : Int) ≤ p := Int.ofNat_le.mpr hend
      have := hQ (mv : Int) f (by rw [if_pos hend]; exact ⟨rfl, rfl⟩)
      rw [u_Wa_walkThrough_8]
      simp only [u_Wa_walkThrough_10, u_Wa_walkThrough_12, u_Wa_walkThrough_15, u_Wa_walkThrough_17, u_Wa_walkThrough_18, u_Wa_walkThrough_21, u_Wa_walkThrough_116, u_Wa_walkThrough_117, xT_h1, ne_eq, not_false_eq_true, not_true_eq_false, true_and, and_true, true_or, or_true, eq_self, Option.toList_some, Option.toList_none, List.cons_append, List.nil_append, tc_0, tc_I, tc_L, tc_A, Nat.reduceAdd, Nat.reduceLeDiff, Nat.reduceEqDiff, Int.reduceEq, Int.reduceLT, Int.reduceLE, Int.reduceNeg, Int.reduceToNat, Int.cast_ofNat_Int, if_true, if_false, and_self, or_self, ite_self, bI_0, bI_1, bI_01, Bool.false_eq_true, reduceCtorEq, k1, a0, hT, s_Tx_size hT, hn9, hpe]
      exact this
    · simp only [if_neg hend] at hQ
      have hpn : p < nB 6 x := Nat.lt_of_not_le hend
      have hpe : ¬ (nB 6 x : Int) ≤ p := fun h => hend (Int.ofNat_le.mp h)
      obtain ⟨e, he, i2, i3, i4, hent⟩ := wk_ent x hx hpn
      generalize hi5 : insA t a 5 (t a 1) p = i5 at hent
      have st1 : VV L (d + 70) m_Wa_walkThrough 8 [some (tA 155), some (tA a), some (tI most), some (tI mv), some (tI p), some (tI n), o6, o7] [] (WW f t g) Q = VV L (d + 70) m_Wa_walkThrough 30 [some (tA 155), some (tA a), some (tI most), some (tI mv), some (tI p), some (tI n), o6, o7] [tI (if e.1.2.1 = 0 ∨ e.1.2.1 = 1 then 1 else 0)] (WW f t g) Q := by
        rw [u_Wa_walkThrough_8]
        simp only [u_Wa_walkThrough_10, u_Wa_walkThrough_12, u_Wa_walkThrough_15, u_Wa_walkThrough_17, u_Wa_walkThrough_18, u_Wa_walkThrough_21, u_Wa_walkThrough_24, u_Wa_walkThrough_25, u_Wa_walkThrough_27, xT_h1, ne_eq, not_false_eq_true, not_true_eq_false, true_and, and_true, true_or, or_true, eq_self, Option.toList_some, Option.toList_none, List.cons_append, List.nil_append, tc_0, tc_I, tc_L, tc_A, Nat.reduceAdd, Nat.reduceLeDiff, Nat.reduceEqDiff, Int.reduceEq, Int.reduceLT, Int.reduceLE, Int.reduceNeg, Int.reduceToNat, Int.cast_ofNat_Int, if_true, if_false, and_self, or_self, ite_self, bI_0, bI_1, bI_01, Bool.false_eq_true, reduceCtorEq, k1, a0, hT, s_Tx_size hT, hn9, hpe, s_Wa_isMove hT h9 i3]
      rw [st1]
      have hQ2 := fun code f' hh => hQ code f' ⟨e, he, hh⟩
      clear hQ
      by_cases hmove : e.1.2.1 = 0 ∨ e.1.2.1 = 1
      · simp only [if_pos hmove] at hQ2 ⊢
        by_cases hfull : (mv : Int) = most
        · simp only [if_pos hfull] at hQ2
          simp only [u_Wa_walkThrough_30, u_Wa_walkThrough_33, u_Wa_walkThrough_34, u_Wa_walkThrough_35, u_Wa_walkThrough_38, u_Wa_walkThrough_40, ne_eq, not_false_eq_true, not_true_eq_false, true_and, and_true, true_or, or_true, eq_self, Option.toList_some, Option.toList_none, List.cons_append, List.nil_append, tc_0, tc_I, tc_L, tc_A, Nat.reduceAdd, Nat.reduceLeDiff, Nat.reduceEqDiff, Int.reduceEq, Int.reduceLT, Int.reduceLE, Int.reduceNeg, Int.reduceToNat, Int.cast_ofNat_Int, if_true, if_false, and_self, or_self, ite_self, bI_0, bI_1, bI_01, Bool.false_eq_true, reduceCtorEq, show ¬ (mv : Int) < most by rw [hfull]; exact Int.lt_irrefl _]
          exact hQ2 (-3) f ⟨rfl, rfl⟩
        · simp only [if_neg hfull] at hQ2
          obtain ⟨b1, b2, wp1, b3, b4, b5, b6, b7⟩ := ar_w1 hm.2 hmv hfull hpn n40 hn hN1
          obtain ⟨gg, TH, hS⟩ := hS
          obtain ⟨E, j, w1, w2, w3, w4, w5, w6⟩ : ∃ (E : EE c) (j : Int), wX E ∧ seg (tok t a) i5 j (kX E) ∧ (tok t a j = 123 ∨ tok t a j = 59) ∧ 0 ≤ i5 ∧ ¬ kEnd (tok t a (i5 - 1)) = true ∧ i5 = (if e.1.2.1 = 0 then e.1.2.2.2.1 else e.2.1) := by
            rcases hent with ⟨r0, _, nm, E, j, y1, y2, y3, y4, y5, y6, y7, y8, y9, y10⟩ | ⟨r1, _, ⟨E, j, y1, y2, y3, y4, y5, y6⟩, _⟩ | ⟨h, _⟩
            · exact ⟨E, j, y5, y6, Or.inr y7, y8, y9, by rw [if_pos r0]; exact y10⟩
            · exact ⟨E, j, y1, y2, Or.inl y3, y4, y5, by rw [if_neg (by rw [r1]; decide)]; exact y6⟩
            · exact absurd hmove (q_13 h)
          have hks : kSum (tok t a j) = false ∧ kPro (tok t a j) = false := by rcases w3 with h | h <;> rw [h] <;> decide
          obtain ⟨d1, hd1, hd2⟩ : ∃ d1, d + 69 = d1 + 3 ∧ 5 * c + 4 ≤ d1 := ⟨d + 66, rfl, q_14 c11⟩
          have st2 : VV L (d + 70) m_Wa_walkThrough 30 [some (tA 155), some (tA a), some (tI most), some (tI mv), some (tI p), some (tI n), o6, o7] [tI 1] (WW f t g) Q = VV L (d1 + 3) m_Wo_sumAt 0 [some (tA 149), some (tA a), some (tI i5)] [] (WW (wo0 f) t g) (fun r_1 w1 => VV L (d1 + 3 + 1) m_Wa_walkThrough 65 [some (tA 155), some (tA a), some (tI most), some (tI ((mv + 1 : Nat) : Int)), some (tI p), some (tI n), o6, o7] (r_1.toList ++ []) w1 Q) := by
            rw [← hd1]
            simp only [u_Wa_walkThrough_30, u_Wa_walkThrough_33, u_Wa_walkThrough_34, u_Wa_walkThrough_35, u_Wa_walkThrough_38, u_Wa_walkThrough_40, u_Wa_walkThrough_41, u_Wa_walkThrough_44, u_Wa_walkThrough_45, u_Wa_walkThrough_48, u_Wa_walkThrough_51, u_Wa_walkThrough_52, u_Wa_walkThrough_55, u_Wa_walkThrough_56, u_Wa_walkThrough_57, u_Wa_walkThrough_59, u_Wa_walkThrough_62, h1_155, gt_155_1, h1_149, xT_h1, ne_eq, not_false_eq_true, not_true_eq_false, true_and, and_true, true_or, or_true, eq_self, Option.toList_some, Option.toList_none, List.cons_append, List.nil_append, tc_0, tc_I, tc_L, tc_A, Nat.reduceAdd, Nat.reduceLeDiff, Nat.reduceEqDiff, Int.reduceEq, Int.reduceLT, Int.reduceLE, Int.reduceNeg, Int.reduceToNat, Int.cast_ofNat_Int, if_true, if_false, and_self, or_self, ite_self, bI_0, bI_1, bI_01, Bool.false_eq_true, reduceCtorEq, b1, b2, s_Wo_start, a0, hT, s_Tx_body hT h9, hi5]
          rw [st2]
          have hQ3 := fun code f' hh => hQ2 code f' ⟨E, i5, j, w1, w2, w3, w4, w5, w6, hh⟩
          clear hQ2
          refine p_Wo_sumAt hT hx.l1 (Nat.le_succ_of_le c11) hd2 E w1 (EnC_0 hS) WS_0 wo0_7 w4 w2 hks.1 hks.2 ?_
          cases hv : vE (vF (envC f brN) c) E with
          | error w =>
            rw [hv] at hQ3
            intro f1 u a1 a2 a3
            simp only [u_Wa_walkThrough_65, u_Wa_walkThrough_67, u_Wa_walkThrough_68, u_Wa_walkThrough_71, u_Wa_walkThrough_74, u_Wa_walkThrough_77, u_Wa_walkThrough_79, u_Wa_walkThrough_80, u_Wa_walkThrough_83, u_Wa_walkThrough_86, u_Wa_walkThrough_87, h1_155, gt_155_1, h1_149, ne_eq, not_false_eq_true, not_true_eq_false, true_and, and_true, true_or, or_true, eq_self, Option.toList_some, Option.toList_none, List.cons_append, List.nil_append, tc_0, tc_I, tc_L, tc_A, Nat.reduceAdd, Nat.reduceLeDiff, Nat.reduceEqDiff, Int.reduceEq, Int.reduceLT, Int.reduceLE, Int.reduceNeg, Int.reduceToNat, Int.cast_ofNat_Int, if_true, if_false, and_self, or_self, ite_self, bI_0, bI_1, bI_01, Bool.false_eq_true, reduceCtorEq, s_Wo_refused, a2, a3]
            exact hQ3 _ f1 ⟨rfl, a3, FX_tr FX_0 (FX_5 a1)⟩
          | ok z =>
            obtain ⟨v, q⟩ := z
            rw [hv] at hQ3
            dsimp only at hQ3
            intro f1 a1 a2 a3
            have hx1 := FX_tr FX_0 (FX_5 a1)
            have st3 : ∀ Q, VV L (d1 + 3 + 1) m_Wa_walkThrough 65 [some (tA 155), some (tA a), some (tI most), some (tI ((mv + 1 : Nat) : Int)), some (tI p), some (tI n), o6, o7] ((some (tL v)).toList ++ []) (WW f1 t g) Q = VV L (d1 + 3) m_Wa_moved 0 [some (tA 155), some (tA a), some (tI p), some (tL v), none] [] (WW f1 t g) (fun r_1 w1 => VV L (d1 + 3 + 1) m_Wa_walkThrough 97 [some (tA 155), some (tA a), some (tI most), some (tI ((mv + 1 : Nat) : Int)), some (tI p), some (tI n), some (tL v), none] (r_1.toList ++ []) w1 Q) := by
              intro Q
              simp only [u_Wa_walkThrough_65, u_Wa_walkThrough_67, u_Wa_walkThrough_68, u_Wa_walkThrough_71, u_Wa_walkThrough_74, u_Wa_walkThrough_77, u_Wa_walkThrough_79, u_Wa_walkThrough_80, u_Wa_walkThrough_83, u_Wa_walkThrough_86, u_Wa_walkThrough_87, u_Wa_walkThrough_88, u_Wa_walkThrough_89, u_Wa_walkThrough_90, u_Wa_walkThrough_92, u_Wa_walkThrough_94, h1_155, gt_155_1, h1_149, xT_h1, ne_eq, not_false_eq_true, not_true_eq_false, true_and, and_true, true_or, or_true, eq_self, Option.toList_some, Option.toList_none, List.cons_append, List.nil_append, tc_0, tc_I, tc_L, tc_A, Nat.reduceAdd, Nat.reduceLeDiff, Nat.reduceEqDiff, Int.reduceEq, Int.reduceLT, Int.reduceLE, Int.reduceNeg, Int.reduceToNat, Int.cast_ofNat_Int, if_true, if_false, and_self, or_self, ite_self, bI_0, bI_1, bI_01, Bool.false_eq_true, reduceCtorEq, s_Wo_refused, a2, a0, hT]
            rw [st3]
            have back : ∀ (p' : Nat) (F : Mem), p' ≤ nB 6 x → (∃ gg TH, RSt F gg TH) → (∀ code f', WkT x (tok t a) most N F (mv + 1) p' code f' → Q (some (tI code)) (WW f' t g)) → VV L (d1 + 3 + 1) m_Wa_walkThrough 97 [some (tA 155), some (tA a), some (tI most), some (tI ((mv + 1 : Nat) : Int)), some (tI p), some (tI n), some (tL v), none] ((some (tI (p' : Int))).toList ++ []) (WW F t g) Q := by
              intro p' F hp' hSF hq
              simp only [u_Wa_walkThrough_97, u_Wa_walkThrough_99, u_Wa_walkThrough_110, u_Wa_walkThrough_113, ne_eq, not_false_eq_true, not_true_eq_false, true_and, and_true, true_or, or_true, eq_self, Option.toList_some, Option.toList_none, List.cons_append, List.nil_append, tc_0, tc_I, tc_L, tc_A, Nat.reduceAdd, Nat.reduceLeDiff, Nat.reduceEqDiff, Int.reduceEq, Int.reduceLT, Int.reduceLE, Int.reduceNeg, Int.reduceToNat, Int.cast_ofNat_Int, if_true, if_false, and_self, or_self, ite_self, bI_0, bI_1, bI_01, Bool.false_eq_true, reduceCtorEq, k2]
              rw [← hd1]
              exact ih F (n + 1) (mv + 1) p' (some (tL v)) none b3 b4 hp' b5 (fun _ _ _ => b6 p') hSF hq
            rcases hent with ⟨r0, h214, nm, E', j', y1, y2, y3, y4, _⟩ | ⟨hro1, g2, _, i6, i8, i7, m1, m2⟩ | ⟨h, _⟩
            · have hnm : 97 ≤ nm ∧ nm ≤ 122 := by unfold kName at y1; simpa using y1
              simp only [if_pos r0] at hQ3
              obtain ⟨ws, wn, hnk, hk26⟩ := ar_w4 hnm y3 y4
              have st4 : ∀ Q, VV L (d1 + 3) m_Wa_moved 0 [some (tA 155), some (tA a), some (tI p), some (tL v), none] [] (WW f1 t g) Q = Q (some (tI ((p + 1 : Nat) : Int))) (WW (bgN f1 (nm - 97).toNat (w32 v)) t g) := by
                intro Q
                unfold bgN
                simp only [u_Wa_moved_0, u_Wa_moved_1, u_Wa_moved_2, u_Wa_moved_5, u_Wa_moved_8, u_Wa_moved_9, u_Wa_moved_12, u_Wa_moved_13, u_Wa_moved_14, u_Wa_moved_15, u_Wa_moved_18, u_Wa_moved_19, u_Wa_moved_20, u_Wa_moved_23, u_Wa_moved_25, u_Wa_moved_26, u_Wa_moved_27, u_Wa_moved_28, u_Wa_moved_31, u_Wa_moved_32, u_Wa_moved_33, u_Wa_moved_34, h1_155, gt_155_0, h1_19, xT_h1, ne_eq, not_false_eq_true, not_true_eq_false, true_and, and_true, true_or, or_true, eq_self, Option.toList_some, Option.toList_none, List.cons_append, List.nil_append, tc_0, tc_I, tc_L, tc_A, Nat.reduceAdd, Nat.reduceLeDiff, Nat.reduceEqDiff, Int.reduceEq, Int.reduceLT, Int.reduceLE, Int.reduceNeg, Int.reduceToNat, Int.cast_ofNat_Int, if_true, if_false, and_self, or_self, ite_self, bI_0, bI_1, bI_01, Bool.false_eq_true, reduceCtorEq, a0, hT, s_Tx_role hT h9, i3, r0, s_Tx_start hT h9, i4, ws, s_Tx_token hT hx.l1, y2, wn, s_St_bring, hnk, and_self, if_true, wp1]
              rw [st4]
              refine back (p + 1) _ b7 ⟨_, _, RSt_bring (RSt_fr hS hx1 FY_refl) hk26⟩ (fun code f' hw => ?_)
              refine hQ3 code f' ⟨bgN f1 (nm - 97).toNat (w32 v), ⟨h214, nm, y1, y2, y3, fun b k hh => ?_, hw⟩⟩
              unfold bgN; simp only [rd]; rw [hx1 b k hh]
            · have hro : ¬ e.1.2.1 = 0 := by rw [hro1]; decide
              simp only [if_neg hro] at hQ3
              obtain ⟨v1, v2, v3, _, _⟩ := ar_w3 (Int.le_of_lt (Int.lt_of_le_of_lt (Int.natCast_nonneg p) m1)) m2 n40
              by_cases hz : v = 0
              · have st4 : ∀ Q, VV L (d1 + 3) m_Wa_moved 0 [some (tA 155), some (tA a), some (tI p), some (tL v), none] [] (WW f1 t g) Q = Q (some (tI (e.1.2.2.2.2.2.1 + 1))) (WW f1 t g) := by
                  intro Q
                  rcases g2 with h215 | h216
                  · simp only [u_Wa_moved_0, u_Wa_moved_1, u_Wa_moved_2, u_Wa_moved_5, u_Wa_moved_8, u_Wa_moved_9, u_Wa_moved_12, u_Wa_moved_13, u_Wa_moved_14, u_Wa_moved_15, u_Wa_moved_18, u_Wa_moved_19, u_Wa_moved_20, u_Wa_moved_23, u_Wa_moved_25, u_Wa_moved_26, u_Wa_moved_27, u_Wa_moved_28, u_Wa_moved_31, u_Wa_moved_32, u_Wa_moved_33, u_Wa_moved_34, u_Wa_moved_35, u_Wa_moved_36, u_Wa_moved_37, u_Wa_moved_38, u_Wa_moved_41, u_Wa_moved_42, u_Wa_moved_43, u_Wa_moved_44, u_Wa_moved_45, u_Wa_moved_46, u_Wa_moved_47, u_Wa_moved_50, u_Wa_moved_53, u_Wa_moved_56, u_Wa_moved_57, u_Wa_moved_58, u_Wa_moved_61, u_Wa_moved_62, u_Wa_moved_63, u_Wa_moved_66, u_Wa_moved_67, u_Wa_moved_68, u_Wa_moved_71, u_Wa_moved_72, u_Wa_moved_73, xT_h1, ne_eq, not_false_eq_true, not_true_eq_false, true_and, and_true, true_or, or_true, eq_self, Option.toList_some, Option.toList_none, List.cons_append, List.nil_append, tc_0, tc_I, tc_L, tc_A, Nat.reduceAdd, Nat.reduceLeDiff, Nat.reduceEqDiff, Int.reduceEq, Int.reduceLT, Int.reduceLE, Int.reduceNeg, Int.reduceToNat, Int.cast_ofNat_Int, if_true, if_false, and_self, or_self, ite_self, bI_0, bI_1, bI_01, Bool.false_eq_true, reduceCtorEq, a0, hT, s_Tx_role hT h9, i3, hro1, lc_eq, hz, s_Tx_op hT h9, i2, h215, s_Tx_tail hT h9, i6, i8 h215, v1]
                  · simp only [u_Wa_moved_0, u_Wa_moved_1, u_Wa_moved_2, u_Wa_moved_5, u_Wa_moved_8, u_Wa_moved_9, u_Wa_moved_12, u_Wa_moved_13, u_Wa_moved_14, u_Wa_moved_15, u_Wa_moved_18, u_Wa_moved_19, u_Wa_moved_20, u_Wa_moved_23, u_Wa_moved_25, u_Wa_moved_26, u_Wa_moved_27, u_Wa_moved_28, u_Wa_moved_31, u_Wa_moved_32, u_Wa_moved_33, u_Wa_moved_34, u_Wa_moved_35, u_Wa_moved_36, u_Wa_moved_37, u_Wa_moved_38, u_Wa_moved_41, u_Wa_moved_42, u_Wa_moved_43, u_Wa_moved_44, u_Wa_moved_45, u_Wa_moved_46, u_Wa_moved_47, u_Wa_moved_50, u_Wa_moved_53, u_Wa_moved_56, u_Wa_moved_57, u_Wa_moved_58, u_Wa_moved_61, u_Wa_moved_62, u_Wa_moved_63, u_Wa_moved_66, u_Wa_moved_67, u_Wa_moved_68, u_Wa_moved_71, u_Wa_moved_72, u_Wa_moved_73, xT_h1, ne_eq, not_false_eq_true, not_true_eq_false, true_and, and_true, true_or, or_true, eq_self, Option.toList_some, Option.toList_none, List.cons_append, List.nil_append, tc_0, tc_I, tc_L, tc_A, Nat.reduceAdd, Nat.reduceLeDiff, Nat.reduceEqDiff, Int.reduceEq, Int.reduceLT, Int.reduceLE, Int.reduceNeg, Int.reduceToNat, Int.cast_ofNat_Int, if_true, if_false, and_self, or_self, ite_self, bI_0, bI_1, bI_01, Bool.false_eq_true, reduceCtorEq, a0, hT, s_Tx_role hT h9, i3, hro1, lc_eq, hz, s_Tx_op hT h9, i2, h216, s_Tx_middle hT h9, i6, i7 h216, v1]
                rw [st4, ← v2]
                refine back _ f1 v3 ⟨gg, TH, RSt_fr hS hx1 FY_refl⟩ (fun code f' hw => ?_)
                refine hQ3 code f' ⟨f1, g2, hx1, ?_⟩
                rw [if_pos hz]
                exact hw
              · have st4 : ∀ Q, VV L (d1 + 3) m_Wa_moved 0 [some (tA 155), some (tA a), some (tI p), some (tL v), none] [] (WW f1 t g) Q = Q (some (tI ((p + 1 : Nat) : Int))) (WW f1 t g) := by
                  intro Q
                  simp only [u_Wa_moved_0, u_Wa_moved_1, u_Wa_moved_2, u_Wa_moved_5, u_Wa_moved_8, u_Wa_moved_9, u_Wa_moved_12, u_Wa_moved_13, u_Wa_moved_14, u_Wa_moved_15, u_Wa_moved_18, u_Wa_moved_19, u_Wa_moved_20, u_Wa_moved_23, u_Wa_moved_25, u_Wa_moved_26, u_Wa_moved_27, u_Wa_moved_28, u_Wa_moved_31, u_Wa_moved_32, u_Wa_moved_33, u_Wa_moved_34, u_Wa_moved_35, u_Wa_moved_36, u_Wa_moved_37, u_Wa_moved_38, u_Wa_moved_41, u_Wa_moved_42, u_Wa_moved_43, u_Wa_moved_44, xT_h1, ne_eq, not_false_eq_true, not_true_eq_false, true_and, and_true, true_or, or_true, eq_self, Option.toList_some, Option.toList_none, List.cons_append, List.nil_append, tc_0, tc_I, tc_L, tc_A, Nat.reduceAdd, Nat.reduceLeDiff, Nat.reduceEqDiff, Int.reduceEq, Int.reduceLT, Int.reduceLE, Int.reduceNeg, Int.reduceToNat, Int.cast_ofNat_Int, if_true, if_false, and_self, or_self, ite_self, bI_0, bI_1, bI_01, Bool.false_eq_true, reduceCtorEq, a0, hT, s_Tx_role hT h9, i3, hro1, lc_eq, hz, wp1]
                rw [st4]
                refine back _ f1 b7 ⟨gg, TH, RSt_fr hS hx1 FY_refl⟩ (fun code f' hw => ?_)
                refine hQ3 code f' ⟨f1, g2, hx1, ?_⟩
                rw [if_neg hz]
                exact hw
            · exact absurd hmove (q_13 h)
      · simp only [if_neg hmove] at hQ2 ⊢
        have hN2' := hN2 e he hmove
        rcases hent with ⟨r0, _⟩ | ⟨r1, _⟩ | ⟨hro23, g2, i6, z1, z2, i8, z3, z4, e', he', hr'⟩
        · exact absurd (Or.inl r0) hmove
        · exact absurd (Or.inr r1) hmove
        · have back : ∀ (p' : Nat), p' ≤ nB 6 x → (p < p' ∨ p' = e.1.2.2.2.2.1.toNat) → (∀ code f', WkT x (tok t a) most N f mv p' code f' → Q (some (tI code)) (WW f' t g)) → VV L (d + 69 + 1) m_Wa_walkThrough 108 [some (tA 155), some (tA a), some (tI most), some (tI mv), some (tI p), some (tI n), o6, o7] ((some (tI (p' : Int))).toList ++ []) (WW f t g) Q := by
            intro p' hp' hpp hq
            obtain ⟨v1, v2, v3, _⟩ := ar_w2 (q := p') hpn n40 hn hN2'
            simp only [u_Wa_walkThrough_108, u_Wa_walkThrough_110, u_Wa_walkThrough_113, ne_eq, not_false_eq_true, not_true_eq_false, true_and, and_true, true_or, or_true, eq_self, Option.toList_some, Option.toList_none, List.cons_append, List.nil_append, tc_0, tc_I, tc_L, tc_A, Nat.reduceAdd, Nat.reduceLeDiff, Nat.reduceEqDiff, Int.reduceEq, Int.reduceLT, Int.reduceLE, Int.reduceNeg, Int.reduceToNat, Int.cast_ofNat_Int, if_true, if_false, and_self, or_self, ite_self, bI_0, bI_1, bI_01, Bool.false_eq_true, reduceCtorEq, k2]
            refine ih f (n + 1) mv p' o6 o7 v1 hmv hp' v2 (fun e'' h1 h2 => ?_) hS hq
            rcases hpp with h | h
            · exact v3 h
            · rw [h, he'] at h1
              rw [← Option.some.inj h1] at h2
              exact absurd (Or.inr hr') h2
          have hst : ∀ pv : Int, (∀ Q, VV L (d + 69) m_Wa_passed 0 [some (tA a), some (tI p)] [] (WW f t g) Q = Q (some (tI pv)) (WW f t g)) → VV L (d + 70) m_Wa_walkThrough 30 [some (tA 155), some (tA a), some (tI most), some (tI mv), some (tI p), some (tI n), o6, o7] [tI 0] (WW f t g) Q = VV L (d + 69 + 1) m_Wa_walkThrough 108 [some (tA 155), some (tA a), some (tI most), some (tI mv), some (tI p), some (tI n), o6, o7] ((some (tI pv)).toList ++ []) (WW f t g) Q := by
            intro pv hpv
            simp only [u_Wa_walkThrough_30, u_Wa_walkThrough_102, u_Wa_walkThrough_103, u_Wa_walkThrough_105, xT_h1, ne_eq, not_false_eq_true, not_true_eq_false, true_and, and_true, true_or, or_true, eq_self, Option.toList_some, Option.toList_none, List.cons_append, List.nil_append, tc_0, tc_I, tc_L, tc_A, Nat.reduceAdd, Nat.reduceLeDiff, Nat.reduceEqDiff, Int.reduceEq, Int.reduceLT, Int.reduceLE, Int.reduceNeg, Int.reduceToNat, Int.cast_ofNat_Int, if_true, if_false, and_self, or_self, ite_self, bI_0, bI_1, bI_01, Bool.false_eq_true, reduceCtorEq, a0, hT, hpv]
          have hQ3 := fun code f' hh => hQ2 code f' ⟨hro23, g2, hh⟩
          clear hQ2
          obtain ⟨v1, v2, v3, v4⟩ := ar_w2 (q := 0) hpn n40 hn hN2'
          rcases hro23 with h2 | h3
          · obtain ⟨u1, u2, u3, _, _⟩ := ar_w3 (Int.le_trans (Int.natCast_nonneg p) (z3 h2)) z4 n40
            rw [hst (((e.1.2.2.2.2.2.2 + 1).toNat : Nat) : Int) (fun Q => by
              rw [u2]
              simp only [u_Wa_passed_0, u_Wa_passed_1, u_Wa_passed_2, u_Wa_passed_5, u_Wa_passed_6, u_Wa_passed_9, u_Wa_passed_10, u_Wa_passed_11, u_Wa_passed_14, u_Wa_passed_15, u_Wa_passed_16, u_Wa_passed_17, u_Wa_passed_18, u_Wa_passed_19, u_Wa_passed_22, u_Wa_passed_25, u_Wa_passed_28, u_Wa_passed_29, u_Wa_passed_30, u_Wa_passed_33, u_Wa_passed_36, u_Wa_passed_37, u_Wa_passed_38, u_Wa_passed_39, xT_h1, ne_eq, not_false_eq_true, not_true_eq_false, true_and, and_true, true_or, or_true, eq_self, Option.toList_some, Option.toList_none, List.cons_append, List.nil_append, tc_0, tc_I, tc_L, tc_A, Nat.reduceAdd, Nat.reduceLeDiff, Nat.reduceEqDiff, Int.reduceEq, Int.reduceLT, Int.reduceLE, Int.reduceNeg, Int.reduceToNat, Int.cast_ofNat_Int, if_true, if_false, and_self, or_self, ite_self, bI_0, bI_1, bI_01, Bool.false_eq_true, reduceCtorEq, a0, hT, s_Tx_role hT h9, i3, h2, s_Tx_tail hT h9, i6, i8, u1])]
            have hlt : p < (e.1.2.2.2.2.2.2 + 1).toNat := q_15 (z3 h2)
            refine back _ u3 (Or.inl hlt) (fun code f' hw => hQ3 code f' ?_)
            rw [if_pos h2]; exact hw
          · have h2 : ¬ e.1.2.1 = 2 := by rw [h3]; decide
            obtain ⟨_, _, _, u4, u5⟩ := ar_w3 z1 z2 n40
            by_cases h215 : e.1.1 = 215
            · rw [hst ((e.1.2.2.2.2.1.toNat : Nat) : Int) (fun Q => by
                rw [u4]
                simp only [u_Wa_passed_0, u_Wa_passed_1, u_Wa_passed_2, u_Wa_passed_5, u_Wa_passed_6, u_Wa_passed_9, u_Wa_passed_10, u_Wa_passed_11, u_Wa_passed_14, u_Wa_passed_15, u_Wa_passed_16, u_Wa_passed_17, u_Wa_passed_18, u_Wa_passed_19, u_Wa_passed_22, u_Wa_passed_25, u_Wa_passed_28, u_Wa_passed_29, u_Wa_passed_30, u_Wa_passed_33, u_Wa_passed_36, u_Wa_passed_37, u_Wa_passed_38, u_Wa_passed_39, xT_h1, ne_eq, not_false_eq_true, not_true_eq_false, true_and, and_true, true_or, or_true, eq_self, Option.toList_some, Option.toList_none, List.cons_append, List.nil_append, tc_0, tc_I, tc_L, tc_A, Nat.reduceAdd, Nat.reduceLeDiff, Nat.reduceEqDiff, Int.reduceEq, Int.reduceLT, Int.reduceLE, Int.reduceNeg, Int.reduceToNat, Int.cast_ofNat_Int, if_true, if_false, and_self, or_self, ite_self, bI_0, bI_1, bI_01, Bool.false_eq_true, reduceCtorEq, a0, hT, s_Tx_role hT h9, i3, h3, s_Tx_op hT h9, i2, h215, s_Tx_head hT h9, i6])]
              refine back _ u5 (Or.inr rfl) (fun code f' hw => hQ3 code f' ?_)
              rw [if_neg h2, if_pos h215]; exact hw
            · rw [hst ((p + 1 : Nat) : Int) (fun Q => by
                simp only [u_Wa_passed_0, u_Wa_passed_1, u_Wa_passed_2, u_Wa_passed_5, u_Wa_passed_6, u_Wa_passed_9, u_Wa_passed_10, u_Wa_passed_11, u_Wa_passed_14, u_Wa_passed_15, u_Wa_passed_16, u_Wa_passed_17, u_Wa_passed_18, u_Wa_passed_19, u_Wa_passed_22, u_Wa_passed_25, u_Wa_passed_28, u_Wa_passed_29, u_Wa_passed_30, u_Wa_passed_33, u_Wa_passed_36, u_Wa_passed_37, u_Wa_passed_38, u_Wa_passed_39, xT_h1, ne_eq, not_false_eq_true, not_true_eq_false, true_and, and_true, true_or, or_true, eq_self, Option.toList_some, Option.toList_none, List.cons_append, List.nil_append, tc_0, tc_I, tc_L, tc_A, Nat.reduceAdd, Nat.reduceLeDiff, Nat.reduceEqDiff, Int.reduceEq, Int.reduceLT, Int.reduceLE, Int.reduceNeg, Int.reduceToNat, Int.cast_ofNat_Int, if_true, if_false, and_self, or_self, ite_self, bI_0, bI_1, bI_01, Bool.false_eq_true, reduceCtorEq, a0, hT, s_Tx_role hT h9, i3, h3, s_Tx_op hT h9, i2, h215, v4])]
              refine back _ hpn (Or.inl (Nat.lt_succ_self p)) (fun code f' hw => hQ3 code f' ?_)
              rw [if_neg h2, if_neg h215]; exact hw
end
