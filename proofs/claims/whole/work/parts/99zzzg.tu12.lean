/-! turn, the reference: what is emitted; a set -/
theorem eSl_o {pv v : Int} (h : ¬ v = 45) : eSl pv v = srt v := by unfold eSl; rw [if_neg (fun hh => h hh.1)]
theorem eSl_n {pv n : Int} (h : kName n = true) : eSl pv n = 1 ∧ whc n = n - 97 := by
  have h2 := srt_name h
  refine ⟨?_, h2.2⟩
  rw [eSl_o (by unfold kName at h; simp at h; omega)]; exact h2.1
section
variable {n : Int}
theorem pq_push (hn : kName n = true) : pqL 0 [202, n, 86, 59] = [(5, 2), (1, n - 97), (4, 3), (7, 59)] := by
  show [(eSl 0 202, whc 202), (eSl 202 n, whc n), (eSl n 86, whc 86), (eSl 86 59, whc 59)] = _
  rw [(eSl_n hn).1, (srt_name hn).2, eSl_o (pv := n) (v := 86) (by decide)]; rfl
theorem pq_let (hn : kName n = true) : pqL 0 [200, n, 61] = [(5, 0), (1, n - 97), (7, 61)] := by
  show [(eSl 0 200, whc 200), (eSl 200 n, whc n), (eSl n 61, whc 61)] = _
  rw [(eSl_n hn).1, (srt_name hn).2, eSl_o (pv := n) (v := 61) (by decide)]; rfl
theorem pq_gone (hn : kName n = true) : pqL 0 [201, n, 61, -1, 59] = [(5, 1), (1, n - 97), (7, 61), (2, 0), (7, 59)] := by
  show [(eSl 0 201, whc 201), (eSl 201 n, whc n), (eSl n 61, whc 61), (eSl 61 (-1), whc (-1)), (eSl (-1) 59, whc 59)] = _
  rw [(eSl_n hn).1, (srt_name hn).2, eSl_o (pv := n) (v := 61) (by decide)]; rfl
theorem pq_none (hn : kName n = true) : pqL 0 [40, n, 61, -1, 41] = [(7, 40), (1, n - 97), (7, 61), (2, 0), (7, 41)] := by
  show [(eSl 0 40, whc 40), (eSl 40 n, whc n), (eSl n 61, whc 61), (eSl 61 (-1), whc (-1)), (eSl (-1) 41, whc 41)] = _
  rw [(eSl_n hn).1, (srt_name hn).2, eSl_o (pv := n) (v := 61) (by decide)]; rfl
end
section
variable {L d r len : Nat} {f t g : Mem} {T : Int → Int} {Q : Option TV → Wd → Prop} {i j n : Int} {P : List (Int × Int)} {k : List Int}
theorem s_M_emS {v : Int} (h : P.length < 1600) : VV L (d + 1) m_M_emitSign 0 [some (tA 156), some (tI v)] [] (WW f t (emM g P)) Q = Q none (WW f t (emM g (P ++ [(7, v)]))) := by
  simp only [u_M_emitSign_0, u_M_emitSign_1, u_M_emitSign_3, u_M_emitSign_4, u_M_emitSign_7, h1_156, ne_eq, not_false_eq_true, not_true_eq_false, true_and, and_true, true_or, or_true, eq_self, Option.toList_some, Option.toList_none, List.cons_append, List.nil_append, tc_0, tc_I, tc_L, tc_A, Nat.reduceAdd, Nat.reduceLeDiff, Nat.reduceEqDiff, Int.reduceEq, Int.reduceLT, Int.reduceLE, Int.reduceNeg, Int.reduceToNat, Int.cast_ofNat_Int, if_true, if_false, and_self, or_self, ite_self, bI_0, bI_1, bI_01, Bool.false_eq_true, reduceCtorEq, s_M_emM h]
theorem ap2 {P : List (Int × Int)} {x y : Int × Int} : P ++ [x] ++ [y] = P ++ [x, y] := by simp
theorem s_M_emitPushed (hn : kName n = true) (hl : P.length + 4 ≤ 1600) : VV L (d + 2) m_M_emitPushed 0 [some (tA 156), some (tI (n - 97))] [] (WW f t (emM g P)) Q = Q none (WW f t (emM g (P ++ pqL 0 [202, n, 86, 59]))) := by
  rw [pq_push hn, show P ++ [((5 : Int), (2 : Int)), (1, n - 97), (4, 3), (7, 59)] = P ++ [(5, 2)] ++ [(1, n - 97)] ++ [(4, 3)] ++ [(7, 59)] by simp]
  simp only [u_M_emitPushed_0, u_M_emitPushed_1, u_M_emitPushed_2, u_M_emitPushed_3, u_M_emitPushed_6, u_M_emitPushed_7, u_M_emitPushed_8, u_M_emitPushed_9, u_M_emitPushed_12, u_M_emitPushed_13, u_M_emitPushed_14, u_M_emitPushed_15, u_M_emitPushed_18, u_M_emitPushed_19, u_M_emitPushed_21, u_M_emitPushed_24, h1_156, ne_eq, not_false_eq_true, not_true_eq_false, true_and, and_true, true_or, or_true, eq_self, Option.toList_some, Option.toList_none, List.cons_append, List.nil_append, tc_0, tc_I, tc_L, tc_A, Nat.reduceAdd, Nat.reduceLeDiff, Nat.reduceEqDiff, Int.reduceEq, Int.reduceLT, Int.reduceLE, Int.reduceNeg, Int.reduceToNat, Int.cast_ofNat_Int, if_true, if_false, and_self, or_self, ite_self, bI_0, bI_1, bI_01, Bool.false_eq_true, reduceCtorEq, s_M_emM (P := P) (by omega), s_M_emM (P := P ++ [((5 : Int), (2 : Int))]) (by simp; omega), s_M_emM (P := P ++ [((5 : Int), (2 : Int))] ++ [((1 : Int), n - 97)]) (by simp; omega), s_M_emS (P := P ++ [((5 : Int), (2 : Int))] ++ [((1 : Int), n - 97)] ++ [((4 : Int), (3 : Int))]) (by simp; omega)]
theorem s_M_emitLet {x : Int} (hl : P.length + 3 ≤ 1600) : VV L (d + 2) m_M_emitLet 0 [some (tA 156), some (tI x), some (tI n)] [] (WW f t (emM g P)) Q = Q none (WW f t (emM g (P ++ [(5, x), (1, n), (7, 61)]))) := by
  rw [show P ++ [((5 : Int), x), (1, n), (7, 61)] = P ++ [(5, x)] ++ [(1, n)] ++ [(7, 61)] by simp]
  simp only [u_M_emitLet_0, u_M_emitLet_1, u_M_emitLet_2, u_M_emitLet_3, u_M_emitLet_6, u_M_emitLet_7, u_M_emitLet_8, u_M_emitLet_9, u_M_emitLet_12, u_M_emitLet_13, u_M_emitLet_15, u_M_emitLet_18, h1_156, ne_eq, not_false_eq_true, not_true_eq_false, true_and, and_true, true_or, or_true, eq_self, Option.toList_some, Option.toList_none, List.cons_append, List.nil_append, tc_0, tc_I, tc_L, tc_A, Nat.reduceAdd, Nat.reduceLeDiff, Nat.reduceEqDiff, Int.reduceEq, Int.reduceLT, Int.reduceLE, Int.reduceNeg, Int.reduceToNat, Int.cast_ofNat_Int, if_true, if_false, and_self, or_self, ite_self, bI_0, bI_1, bI_01, Bool.false_eq_true, reduceCtorEq, s_M_emM (P := P) (by omega), s_M_emM (P := P ++ [((5 : Int), x)]) (by simp; omega), s_M_emS (P := P ++ [((5 : Int), x)] ++ [((1 : Int), n)]) (by simp; omega)]
theorem s_M_emitLe0 (hn : kName n = true) (hl : P.length + 3 ≤ 1600) : VV L (d + 2) m_M_emitLet 0 [some (tA 156), some (tI 0), some (tI (n - 97))] [] (WW f t (emM g P)) Q = Q none (WW f t (emM g (P ++ pqL 0 [200, n, 61]))) := by
  rw [pq_let hn, s_M_emitLet hl]
theorem s_M_emitGone (hn : kName n = true) (hl : P.length + 5 ≤ 1600) : VV L (d + 3) m_M_emitGone 0 [some (tA 156), some (tI (n - 97))] [] (WW f t (emM g P)) Q = Q none (WW f t (emM g (P ++ pqL 0 [201, n, 61, -1, 59]))) := by
  rw [pq_gone hn, show P ++ [((5 : Int), (1 : Int)), (1, n - 97), (7, 61), (2, 0), (7, 59)] = P ++ [(5, 1), (1, n - 97), (7, 61)] ++ [(2, 0)] ++ [(7, 59)] by simp]
  simp only [u_M_emitGone_0, u_M_emitGone_1, u_M_emitGone_2, u_M_emitGone_3, u_M_emitGone_6, u_M_emitGone_7, u_M_emitGone_8, u_M_emitGone_9, u_M_emitGone_12, u_M_emitGone_13, u_M_emitGone_15, u_M_emitGone_18, h1_156, ne_eq, not_false_eq_true, not_true_eq_false, true_and, and_true, true_or, or_true, eq_self, Option.toList_some, Option.toList_none, List.cons_append, List.nil_append, tc_0, tc_I, tc_L, tc_A, Nat.reduceAdd, Nat.reduceLeDiff, Nat.reduceEqDiff, Int.reduceEq, Int.reduceLT, Int.reduceLE, Int.reduceNeg, Int.reduceToNat, Int.cast_ofNat_Int, if_true, if_false, and_self, or_self, ite_self, bI_0, bI_1, bI_01, Bool.false_eq_true, reduceCtorEq, s_M_emitLet (P := P) (x := 1) (n := n - 97) (by omega), s_M_emM (P := P ++ [((5 : Int), (1 : Int)), (1, n - 97), (7, 61)]) (by simp; omega), s_M_emS (P := P ++ [((5 : Int), (1 : Int)), (1, n - 97), (7, 61)] ++ [((2 : Int), (0 : Int))]) (by simp; omega)]
theorem s_M_emitIsNone (hn : kName n = true) (hl : P.length + 5 ≤ 1600) : VV L (d + 2) m_M_emitIsNone 0 [some (tA 156), some (tI (n - 97))] [] (WW f t (emM g P)) Q = Q none (WW f t (emM g (P ++ pqL 0 [40, n, 61, -1, 41]))) := by
  rw [pq_none hn, show P ++ [((7 : Int), (40 : Int)), (1, n - 97), (7, 61), (2, 0), (7, 41)] = P ++ [(7, 40)] ++ [(1, n - 97)] ++ [(7, 61)] ++ [(2, 0)] ++ [(7, 41)] by simp]
  simp only [u_M_emitIsNone_0, u_M_emitIsNone_1, u_M_emitIsNone_3, u_M_emitIsNone_6, u_M_emitIsNone_7, u_M_emitIsNone_8, u_M_emitIsNone_9, u_M_emitIsNone_12, u_M_emitIsNone_13, u_M_emitIsNone_15, u_M_emitIsNone_18, u_M_emitIsNone_19, u_M_emitIsNone_20, u_M_emitIsNone_21, u_M_emitIsNone_24, u_M_emitIsNone_25, u_M_emitIsNone_27, u_M_emitIsNone_30, h1_156, ne_eq, not_false_eq_true, not_true_eq_false, true_and, and_true, true_or, or_true, eq_self, Option.toList_some, Option.toList_none, List.cons_append, List.nil_append, tc_0, tc_I, tc_L, tc_A, Nat.reduceAdd, Nat.reduceLeDiff, Nat.reduceEqDiff, Int.reduceEq, Int.reduceLT, Int.reduceLE, Int.reduceNeg, Int.reduceToNat, Int.cast_ofNat_Int, if_true, if_false, and_self, or_self, ite_self, bI_0, bI_1, bI_01, Bool.false_eq_true, reduceCtorEq, s_M_emS (P := P) (v := 40) (by omega), s_M_emM (P := P ++ [((7 : Int), (40 : Int))]) (by simp; omega), s_M_emS (P := P ++ [((7 : Int), (40 : Int))] ++ [((1 : Int), n - 97)]) (v := 61) (by simp; omega), s_M_emM (P := P ++ [((7 : Int), (40 : Int))] ++ [((1 : Int), n - 97)] ++ [((7 : Int), (61 : Int))]) (by simp; omega), s_M_emS (P := P ++ [((7 : Int), (40 : Int))] ++ [((1 : Int), n - 97)] ++ [((7 : Int), (61 : Int))] ++ [((2 : Int), (0 : Int))]) (v := 41) (by simp; omega)]
theorem s_M_emitNoneOf (h : RT g r T len) (hj : j ≤ len) (h0 : 0 ≤ i) (hs : seg T i j k) (hp : kEnd (T (i - 1)) = false) (hl : P.length + k.length + 4 ≤ 1600) : VV L (d + 2) m_M_emitIsNoneOf 0 [some (tA 156), some (tI r), some (tI i), some (tI j)] [] (WW f t (emM g P)) Q = Q none (WW f t (emM g (P ++ pqL 0 (40 :: (k ++ [61, -1, 41]))))) := by
  have e0 : 40 :: (k ++ [61, -1, 41]) = [40] ++ (k ++ [61, -1, 41]) := rfl
  have e : pqL 0 (40 :: (k ++ [61, -1, 41])) = [(7, 40)] ++ (pqL 0 k ++ ([(7, 61)] ++ ([(2, 0)] ++ [(7, 41)]))) := by
    rw [e0, pqL_j (l := [40]) (Or.inr (by decide)), pqL_1 (l := k) (v := 61) (by decide)]; rfl
  obtain ⟨P1, e1⟩ : ∃ P1, P1 = P ++ [((7 : Int), (40 : Int))] := ⟨_, rfl⟩
  obtain ⟨P2, e2⟩ : ∃ P2, P2 = P1 ++ pqL 0 k := ⟨_, rfl⟩
  obtain ⟨P3, e3⟩ : ∃ P3, P3 = P2 ++ [((7 : Int), (61 : Int))] := ⟨_, rfl⟩
  obtain ⟨P4, e4⟩ : ∃ P4, P4 = P3 ++ [((2 : Int), (0 : Int))] := ⟨_, rfl⟩
  have n1' : P1.length = P.length + 1 := by rw [e1]; simp
  have n2' : P2.length = P1.length + k.length := by rw [e2, List.length_append, pqL_len]
  have n3' : P3.length = P2.length + 1 := by rw [e3]; simp
  have n4' : P4.length = P3.length + 1 := by rw [e4]; simp
  rw [e, show P ++ ([((7 : Int), (40 : Int))] ++ (pqL 0 k ++ ([(7, 61)] ++ ([(2, 0)] ++ [(7, 41)])))) = P4 ++ [(7, 41)] by rw [e4, e3, e2, e1]; simp]
  have A1 := fun D Q => s_M_emS (L := L) (d := D) (f := f) (t := t) (g := g) (Q := Q) (P := P) (v := 40) (by omega)
  have A2 := fun D Q => s_M_copies (L := L) (d := D) (f := f) (t := t) (Q := Q) (P := P1) h hj h0 hs (by omega)
  have A3 := fun D Q => s_M_emS (L := L) (d := D) (f := f) (t := t) (g := g) (Q := Q) (P := P2) (v := 61) (by omega)
  have A4 := fun D Q => s_M_emM (L := L) (d := D) (f := f) (t := t) (g := g) (Q := Q) (P := P3) (x := 2) (y := 0) (by omega)
  have A5 := fun D Q => s_M_emS (L := L) (d := D) (f := f) (t := t) (g := g) (Q := Q) (P := P4) (v := 41) (by omega)
  rw [← e1] at A1
  rw [pqL_e hp (y := 0) (by decide), ← e2] at A2
  rw [← e3] at A3
  rw [← e4] at A4
  simp only [u_M_emitIsNoneOf_0, u_M_emitIsNoneOf_1, u_M_emitIsNoneOf_3, u_M_emitIsNoneOf_6, u_M_emitIsNoneOf_7, u_M_emitIsNoneOf_8, u_M_emitIsNoneOf_9, u_M_emitIsNoneOf_10, u_M_emitIsNoneOf_13, u_M_emitIsNoneOf_14, u_M_emitIsNoneOf_16, u_M_emitIsNoneOf_19, u_M_emitIsNoneOf_20, u_M_emitIsNoneOf_21, u_M_emitIsNoneOf_22, u_M_emitIsNoneOf_25, u_M_emitIsNoneOf_26, u_M_emitIsNoneOf_28, u_M_emitIsNoneOf_31, h1_156, ne_eq, not_false_eq_true, not_true_eq_false, true_and, and_true, true_or, or_true, eq_self, Option.toList_some, Option.toList_none, List.cons_append, List.nil_append, tc_0, tc_I, tc_L, tc_A, Nat.reduceAdd, Nat.reduceLeDiff, Nat.reduceEqDiff, Int.reduceEq, Int.reduceLT, Int.reduceLE, Int.reduceNeg, Int.reduceToNat, Int.cast_ofNat_Int, if_true, if_false, and_self, or_self, ite_self, bI_0, bI_1, bI_01, Bool.false_eq_true, reduceCtorEq, A1, A2, A3, A4, A5]
/-- what the reference sees of a set -/
abbrev SMr (g : Mem) (r len : Nat) (T : Int → Int) (i j n : Int) (k : List Int) : Prop := (RT g r T len) ∧ (0 ≤ i) ∧ (T (i + 1) = n) ∧ (T (i + 2) = 61) ∧ (seg T (i + 3) j k) ∧ (T j = 59) ∧ (j < len) ∧ (∀ v ∈ k, eTk v) ∧ (kName n = true) ∧ (1 ≤ k.length) ∧ (gok k) ∧ (∀ v ∈ k, okT v)
theorem SMr.rt {g : Mem} {r len : Nat} {T : Int → Int} {i j n : Int} {k : List Int} (hSelf : SMr g r len T i j n k) : RT g r T len := hSelf.1
theorem SMr.h0 {g : Mem} {r len : Nat} {T : Int → Int} {i j n : Int} {k : List Int} (hSelf : SMr g r len T i j n k) : 0 ≤ i := hSelf.2.1
theorem SMr.hn {g : Mem} {r len : Nat} {T : Int → Int} {i j n : Int} {k : List Int} (hSelf : SMr g r len T i j n k) : T (i + 1) = n := hSelf.2.2.1
theorem SMr.h2 {g : Mem} {r len : Nat} {T : Int → Int} {i j n : Int} {k : List Int} (hSelf : SMr g r len T i j n k) : T (i + 2) = 61 := hSelf.2.2.2.1
theorem SMr.hs {g : Mem} {r len : Nat} {T : Int → Int} {i j n : Int} {k : List Int} (hSelf : SMr g r len T i j n k) : seg T (i + 3) j k := hSelf.2.2.2.2.1
theorem SMr.hj {g : Mem} {r len : Nat} {T : Int → Int} {i j n : Int} {k : List Int} (hSelf : SMr g r len T i j n k) : T j = 59 := hSelf.2.2.2.2.2.1
theorem SMr.hjl {g : Mem} {r len : Nat} {T : Int → Int} {i j n : Int} {k : List Int} (hSelf : SMr g r len T i j n k) : j < len := hSelf.2.2.2.2.2.2.1
theorem SMr.hk {g : Mem} {r len : Nat} {T : Int → Int} {i j n : Int} {k : List Int} (hSelf : SMr g r len T i j n k) : ∀ v ∈ k, eTk v := hSelf.2.2.2.2.2.2.2.1
theorem SMr.kn {g : Mem} {r len : Nat} {T : Int → Int} {i j n : Int} {k : List Int} (hSelf : SMr g r len T i j n k) : kName n = true := hSelf.2.2.2.2.2.2.2.2.1
theorem SMr.k1 {g : Mem} {r len : Nat} {T : Int → Int} {i j n : Int} {k : List Int} (hSelf : SMr g r len T i j n k) : 1 ≤ k.length := hSelf.2.2.2.2.2.2.2.2.2.1
theorem SMr.gk {g : Mem} {r len : Nat} {T : Int → Int} {i j n : Int} {k : List Int} (hSelf : SMr g r len T i j n k) : gok k := hSelf.2.2.2.2.2.2.2.2.2.2.1
theorem SMr.ok {g : Mem} {r len : Nat} {T : Int → Int} {i j n : Int} {k : List Int} (hSelf : SMr g r len T i j n k) : ∀ v ∈ k, okT v := hSelf.2.2.2.2.2.2.2.2.2.2.2
end
