/-! turn, the class: the tests of a set -/
theorem has_mem {T : Int → Int} {v : Int} : ∀ (n : Nat) (i : Int), hasTk T v n i = true ↔ v ∈ tks T i n := by
  intro n
  induction n with
  | zero => intro i; simp [hasTk, tks]
  | succ n ih =>
    intro i
    show (decide (T i = v) || hasTk T v n (i + 1)) = true ↔ v ∈ T i :: tks T (i + 1) n
    rw [Bool.or_eq_true, decide_eq_true_eq, ih, List.mem_cons]
    constructor
    · rintro (h | h)
      · exact Or.inl h.symm
      · exact Or.inr h
    · rintro (h | h)
      · exact Or.inl h.symm
      · exact Or.inr h
theorem nxt_mem {T : Int → Int} {len v i j : Int} {k : List Int} (hs : seg T i j k) (hj : j ≤ len) : nxt T len v i < j ↔ v ∈ k := by
  unfold nxt
  rw [nxt_lt _ i j rfl hj, has_mem, ← hs.2]
abbrev SA (b : Nat) (f t : Mem) (p st n j : Int) (k : List Int) : Prop := (isT b) ∧ ((f 18 0).toNat = b) ∧ (t b 1 ≤ 1000) ∧ (t b 9 ≤ 40) ∧ (insA t b 4 (t b 1) p = st) ∧ (insA t b 5 (t b 1) p = st + 3) ∧ (0 ≤ st) ∧ (tok t b (st + 1) = n) ∧ (seg (tok t b) (st + 3) j k) ∧ (tok t b j = 59) ∧ (∀ v ∈ k, eTk v) ∧ (kName n = true) ∧ (1 ≤ k.length)
theorem SA.hT {b : Nat} {f t : Mem} {p st n j : Int} {k : List Int} (hSelf : SA b f t p st n j k) : isT b := hSelf.1
theorem SA.hf {b : Nat} {f t : Mem} {p st n j : Int} {k : List Int} (hSelf : SA b f t p st n j k) : (f 18 0).toNat = b := hSelf.2.1
theorem SA.hl {b : Nat} {f t : Mem} {p st n j : Int} {k : List Int} (hSelf : SA b f t p st n j k) : t b 1 ≤ 1000 := hSelf.2.2.1
theorem SA.h9 {b : Nat} {f t : Mem} {p st n j : Int} {k : List Int} (hSelf : SA b f t p st n j k) : t b 9 ≤ 40 := hSelf.2.2.2.1
theorem SA.h4 {b : Nat} {f t : Mem} {p st n j : Int} {k : List Int} (hSelf : SA b f t p st n j k) : insA t b 4 (t b 1) p = st := hSelf.2.2.2.2.1
theorem SA.h5 {b : Nat} {f t : Mem} {p st n j : Int} {k : List Int} (hSelf : SA b f t p st n j k) : insA t b 5 (t b 1) p = st + 3 := hSelf.2.2.2.2.2.1
theorem SA.h0 {b : Nat} {f t : Mem} {p st n j : Int} {k : List Int} (hSelf : SA b f t p st n j k) : 0 ≤ st := hSelf.2.2.2.2.2.2.1
theorem SA.hn {b : Nat} {f t : Mem} {p st n j : Int} {k : List Int} (hSelf : SA b f t p st n j k) : tok t b (st + 1) = n := hSelf.2.2.2.2.2.2.2.1
theorem SA.hs {b : Nat} {f t : Mem} {p st n j : Int} {k : List Int} (hSelf : SA b f t p st n j k) : seg (tok t b) (st + 3) j k := hSelf.2.2.2.2.2.2.2.2.1
theorem SA.hj {b : Nat} {f t : Mem} {p st n j : Int} {k : List Int} (hSelf : SA b f t p st n j k) : tok t b j = 59 := hSelf.2.2.2.2.2.2.2.2.2.1
theorem SA.hk {b : Nat} {f t : Mem} {p st n j : Int} {k : List Int} (hSelf : SA b f t p st n j k) : ∀ v ∈ k, eTk v := hSelf.2.2.2.2.2.2.2.2.2.2.1
theorem SA.kn {b : Nat} {f t : Mem} {p st n j : Int} {k : List Int} (hSelf : SA b f t p st n j k) : kName n = true := hSelf.2.2.2.2.2.2.2.2.2.2.2.1
theorem SA.k1 {b : Nat} {f t : Mem} {p st n j : Int} {k : List Int} (hSelf : SA b f t p st n j k) : 1 ≤ k.length := hSelf.2.2.2.2.2.2.2.2.2.2.2.2
section
variable {L d b : Nat} {f t g : Mem} {Q : Option TV → Wd → Prop} {p st n j : Int} {k : List Int}
theorem SA.jl (h : SA b f t p st n j k) : j < t b 1 ∧ j = st + 3 + k.length := ⟨(tok_ne (by rw [h.hj]; decide)).2, seg_len h.hs⟩
theorem s_Sh_nameOf (h : SA b f t p st n j k) : VV L (d + 2) m_Sh_nameOf 0 [some (tA 18), some (tI p)] [] (WW f t g) Q = Q (some (tI n)) (WW f t g) := by
  have b0 := xT_0 h.hT
  have hT := h.hT
  have hj := h.jl
  have hl := h.hl
  have h0 := h.h0
  have w1 : w32 (st + 1) = st + 1 := w32_id (by omega) (by omega)
  simp only [u_Sh_nameOf_0, u_Sh_nameOf_1, u_Sh_nameOf_4, u_Sh_nameOf_5, u_Sh_nameOf_8, u_Sh_nameOf_9, u_Sh_nameOf_12, u_Sh_nameOf_13, u_Sh_nameOf_14, u_Sh_nameOf_17, h1_18, gt_18_0, xT_h1, ne_eq, not_false_eq_true, not_true_eq_false, true_and, and_true, true_or, or_true, eq_self, Option.toList_some, Option.toList_none, List.cons_append, List.nil_append, tc_0, tc_I, tc_L, tc_A, Nat.reduceAdd, Nat.reduceLeDiff, Nat.reduceEqDiff, Int.reduceEq, Int.reduceLT, Int.reduceLE, Int.reduceNeg, Int.reduceToNat, Int.cast_ofNat_Int, if_true, if_false, and_self, or_self, ite_self, bI_0, bI_1, bI_01, Bool.false_eq_true, reduceCtorEq, h.hf, b0, hT, s_Tx_start hT h.h9, h.h4, w1, s_Tx_token hT h.hl, h.hn]
theorem s_Sh_isInOwn {q : Nat} (h : SA b f t p st n j k) (hq : q ≤ k.length) : VV L (d + 3) m_Sh_isInOwn 0 [some (tA 18), some (tI p), some (tI q), none] [] (WW f t g) Q = Q (some (tI (bB (decide (n ∈ k.drop q))))) (WW f t g) := by
  have b0 := xT_0 h.hT
  have hT := h.hT
  have hjl := h.jl
  have hl := h.hl
  have h0 := h.h0
  have hs := h.hs
  rw [← List.take_append_drop q k] at hs
  obtain ⟨_, hs2⟩ := seg_split hs
  rw [List.length_take, Nat.min_eq_left hq] at hs2
  have w1 : w32 (st + 3 + q) = st + 3 + q := w32_id (by omega) (by omega)
  have n59 : nxt (tok t b) (t b 1) 59 (st + 3 + q) = j := nxt_seg hs2 (fun v hv => (eTk_no (h.hk v (List.mem_of_mem_drop hv))).1) h.hj hjl.1
  have hm := nxt_mem (len := t b 1) (v := n) hs2 (by omega)
  by_cases hc : n ∈ k.drop q
  · have hlt : ¬ j ≤ nxt (tok t b) (t b 1) n (st + 3 + q) := by have := hm.mpr hc; omega
    simp only [u_Sh_isInOwn_0, u_Sh_isInOwn_1, u_Sh_isInOwn_4, u_Sh_isInOwn_5, u_Sh_isInOwn_8, u_Sh_isInOwn_9, u_Sh_isInOwn_10, u_Sh_isInOwn_11, u_Sh_isInOwn_12, u_Sh_isInOwn_15, u_Sh_isInOwn_16, u_Sh_isInOwn_17, u_Sh_isInOwn_20, u_Sh_isInOwn_21, u_Sh_isInOwn_24, u_Sh_isInOwn_25, u_Sh_isInOwn_28, u_Sh_isInOwn_30, u_Sh_isInOwn_31, u_Sh_isInOwn_34, u_Sh_isInOwn_37, u_Sh_isInOwn_38, u_Sh_isInOwn_41, u_Sh_isInOwn_42, h1_18, gt_18_0, xT_h1, ne_eq, not_false_eq_true, not_true_eq_false, true_and, and_true, true_or, or_true, eq_self, Option.toList_some, Option.toList_none, List.cons_append, List.nil_append, tc_0, tc_I, tc_L, tc_A, Nat.reduceAdd, Nat.reduceLeDiff, Nat.reduceEqDiff, Int.reduceEq, Int.reduceLT, Int.reduceLE, Int.reduceNeg, Int.reduceToNat, Int.cast_ofNat_Int, if_true, if_false, and_self, or_self, ite_self, bI_0, bI_1, bI_01, Bool.false_eq_true, reduceCtorEq, h.hf, b0, hT, s_Tx_body hT h.h9, h.h5, w1, s_Sh_nameOf h, s_Tx_next hT h.hl (show 0 ≤ st + 3 + q by omega), n59, hlt, hc, decide_true, bB_t]
  · have hlt : j ≤ nxt (tok t b) (t b 1) n (st + 3 + q) := by
      by_cases hh : nxt (tok t b) (t b 1) n (st + 3 + q) < j
      · exact absurd (hm.mp hh) hc
      · omega
    simp only [u_Sh_isInOwn_0, u_Sh_isInOwn_1, u_Sh_isInOwn_4, u_Sh_isInOwn_5, u_Sh_isInOwn_8, u_Sh_isInOwn_9, u_Sh_isInOwn_10, u_Sh_isInOwn_11, u_Sh_isInOwn_12, u_Sh_isInOwn_15, u_Sh_isInOwn_16, u_Sh_isInOwn_17, u_Sh_isInOwn_20, u_Sh_isInOwn_21, u_Sh_isInOwn_24, u_Sh_isInOwn_25, u_Sh_isInOwn_28, u_Sh_isInOwn_30, u_Sh_isInOwn_31, u_Sh_isInOwn_34, u_Sh_isInOwn_37, u_Sh_isInOwn_38, u_Sh_isInOwn_41, u_Sh_isInOwn_42, h1_18, gt_18_0, xT_h1, ne_eq, not_false_eq_true, not_true_eq_false, true_and, and_true, true_or, or_true, eq_self, Option.toList_some, Option.toList_none, List.cons_append, List.nil_append, tc_0, tc_I, tc_L, tc_A, Nat.reduceAdd, Nat.reduceLeDiff, Nat.reduceEqDiff, Int.reduceEq, Int.reduceLT, Int.reduceLE, Int.reduceNeg, Int.reduceToNat, Int.cast_ofNat_Int, if_true, if_false, and_self, or_self, ite_self, bI_0, bI_1, bI_01, Bool.false_eq_true, reduceCtorEq, h.hf, b0, hT, s_Tx_body hT h.h9, h.h5, w1, s_Sh_nameOf h, s_Tx_next hT h.hl (show 0 ≤ st + 3 + q by omega), n59, hlt, hc, decide_false, bB_f]
theorem l_br {v dp i s0 : Int} (hd : -2000 ≤ dp ∧ dp ≤ 2000) : VV L d m_Sh_isOneProduct 33 [some (tA 18), some (tI s0), some (tI dp), some (tI j), some (tI i), some (tI v)] [] (WW f t g) Q = VV L d m_Sh_isOneProduct 67 [some (tA 18), some (tI s0), some (tI (dp + opb v)), some (tI j), some (tI i), some (tI v)] [] (WW f t g) Q := by
  have w1 : w32 (dp + 1) = dp + 1 := w32_id (by omega) (by omega)
  have w2 : w32 (dp + -1) = dp + -1 := w32_id (by omega) (by omega)
  by_cases c1 : v = 40
  · subst c1
    have e : opb 40 = 1 := by decide
    simp only [u_Sh_isOneProduct_33, u_Sh_isOneProduct_35, u_Sh_isOneProduct_37, u_Sh_isOneProduct_40, u_Sh_isOneProduct_42, u_Sh_isOneProduct_44, u_Sh_isOneProduct_47, u_Sh_isOneProduct_50, u_Sh_isOneProduct_52, u_Sh_isOneProduct_54, u_Sh_isOneProduct_57, u_Sh_isOneProduct_59, u_Sh_isOneProduct_61, u_Sh_isOneProduct_64, ne_eq, not_false_eq_true, not_true_eq_false, true_and, and_true, true_or, or_true, eq_self, Option.toList_some, Option.toList_none, List.cons_append, List.nil_append, tc_0, tc_I, tc_L, tc_A, Nat.reduceAdd, Nat.reduceLeDiff, Nat.reduceEqDiff, Int.reduceEq, Int.reduceLT, Int.reduceLE, Int.reduceNeg, Int.reduceToNat, Int.cast_ofNat_Int, if_true, if_false, and_self, or_self, ite_self, bI_0, bI_1, bI_01, Bool.false_eq_true, reduceCtorEq, Int.reduceEq, e, w1]
  · by_cases c2 : v = 91
    · subst c2
      have e : opb 91 = 1 := by decide
      simp only [u_Sh_isOneProduct_33, u_Sh_isOneProduct_35, u_Sh_isOneProduct_37, u_Sh_isOneProduct_40, u_Sh_isOneProduct_42, u_Sh_isOneProduct_44, u_Sh_isOneProduct_47, u_Sh_isOneProduct_50, u_Sh_isOneProduct_52, u_Sh_isOneProduct_54, u_Sh_isOneProduct_57, u_Sh_isOneProduct_59, u_Sh_isOneProduct_61, u_Sh_isOneProduct_64, ne_eq, not_false_eq_true, not_true_eq_false, true_and, and_true, true_or, or_true, eq_self, Option.toList_some, Option.toList_none, List.cons_append, List.nil_append, tc_0, tc_I, tc_L, tc_A, Nat.reduceAdd, Nat.reduceLeDiff, Nat.reduceEqDiff, Int.reduceEq, Int.reduceLT, Int.reduceLE, Int.reduceNeg, Int.reduceToNat, Int.cast_ofNat_Int, if_true, if_false, and_self, or_self, ite_self, bI_0, bI_1, bI_01, Bool.false_eq_true, reduceCtorEq, Int.reduceEq, e, w1]
    · by_cases c3 : v = 41
      · subst c3
        have e : opb 41 = -1 := by decide
        simp only [u_Sh_isOneProduct_33, u_Sh_isOneProduct_35, u_Sh_isOneProduct_37, u_Sh_isOneProduct_40, u_Sh_isOneProduct_42, u_Sh_isOneProduct_44, u_Sh_isOneProduct_47, u_Sh_isOneProduct_50, u_Sh_isOneProduct_52, u_Sh_isOneProduct_54, u_Sh_isOneProduct_57, u_Sh_isOneProduct_59, u_Sh_isOneProduct_61, u_Sh_isOneProduct_64, ne_eq, not_false_eq_true, not_true_eq_false, true_and, and_true, true_or, or_true, eq_self, Option.toList_some, Option.toList_none, List.cons_append, List.nil_append, tc_0, tc_I, tc_L, tc_A, Nat.reduceAdd, Nat.reduceLeDiff, Nat.reduceEqDiff, Int.reduceEq, Int.reduceLT, Int.reduceLE, Int.reduceNeg, Int.reduceToNat, Int.cast_ofNat_Int, if_true, if_false, and_self, or_self, ite_self, bI_0, bI_1, bI_01, Bool.false_eq_true, reduceCtorEq, Int.reduceEq, e, w2]
      · by_cases c4 : v = 93
        · subst c4
          have e : opb 93 = -1 := by decide
          simp only [u_Sh_isOneProduct_33, u_Sh_isOneProduct_35, u_Sh_isOneProduct_37, u_Sh_isOneProduct_40, u_Sh_isOneProduct_42, u_Sh_isOneProduct_44, u_Sh_isOneProduct_47, u_Sh_isOneProduct_50, u_Sh_isOneProduct_52, u_Sh_isOneProduct_54, u_Sh_isOneProduct_57, u_Sh_isOneProduct_59, u_Sh_isOneProduct_61, u_Sh_isOneProduct_64, ne_eq, not_false_eq_true, not_true_eq_false, true_and, and_true, true_or, or_true, eq_self, Option.toList_some, Option.toList_none, List.cons_append, List.nil_append, tc_0, tc_I, tc_L, tc_A, Nat.reduceAdd, Nat.reduceLeDiff, Nat.reduceEqDiff, Int.reduceEq, Int.reduceLT, Int.reduceLE, Int.reduceNeg, Int.reduceToNat, Int.cast_ofNat_Int, if_true, if_false, and_self, or_self, ite_self, bI_0, bI_1, bI_01, Bool.false_eq_true, reduceCtorEq, Int.reduceEq, e, w2]
        · have e : opb v = 0 := by unfold opb; rw [if_neg (by omega), if_neg (by omega)]
          simp only [u_Sh_isOneProduct_33, u_Sh_isOneProduct_35, u_Sh_isOneProduct_37, u_Sh_isOneProduct_40, u_Sh_isOneProduct_42, u_Sh_isOneProduct_44, u_Sh_isOneProduct_47, u_Sh_isOneProduct_50, u_Sh_isOneProduct_52, u_Sh_isOneProduct_54, u_Sh_isOneProduct_57, u_Sh_isOneProduct_59, u_Sh_isOneProduct_61, u_Sh_isOneProduct_64, ne_eq, not_false_eq_true, not_true_eq_false, true_and, and_true, true_or, or_true, eq_self, Option.toList_some, Option.toList_none, List.cons_append, List.nil_append, tc_0, tc_I, tc_L, tc_A, Nat.reduceAdd, Nat.reduceLeDiff, Nat.reduceEqDiff, Int.reduceEq, Int.reduceLT, Int.reduceLE, Int.reduceNeg, Int.reduceToNat, Int.cast_ofNat_Int, if_true, if_false, and_self, or_self, ite_self, bI_0, bI_1, bI_01, Bool.false_eq_true, reduceCtorEq, c1, c2, c3, c4, e, Int.add_zero]
theorem opb_b (v : Int) : -1 ≤ opb v ∧ opb v ≤ 1 := by unfold opb; (repeat' split) <;> omega
theorem l_one {s0 : Int} (hT : isT b) (hf : (f 18 0).toNat = b) (hl : t b 1 ≤ 1000) (hj : j < t b 1) : ∀ (l : List Int) (i dp : Int) (u : Option TV), 0 ≤ i → -1000 ≤ dp - l.length → dp + l.length ≤ 1000 → seg (tok t b) i j l → VV L (d + 2) m_Sh_isOneProduct 16 [some (tA 18), some (tI s0), some (tI dp), some (tI j), some (tI i), u] [] (WW f t g) Q = Q (some (tI (bB (one1 (tok t b (i - 1)) dp l)))) (WW f t g) := by
  have b0 := xT_0 hT
  intro l
  induction l with
  | nil =>
    intro i dp u h0 _ _ hs
    have e := seg_len hs
    simp only [List.length_nil] at e
    have hij : j ≤ i := by omega
    rw [u_Sh_isOneProduct_16]
    simp only [u_Sh_isOneProduct_18, u_Sh_isOneProduct_19, u_Sh_isOneProduct_104, u_Sh_isOneProduct_105, ne_eq, not_false_eq_true, not_true_eq_false, true_and, and_true, true_or, or_true, eq_self, Option.toList_some, Option.toList_none, List.cons_append, List.nil_append, tc_0, tc_I, tc_L, tc_A, Nat.reduceAdd, Nat.reduceLeDiff, Nat.reduceEqDiff, Int.reduceEq, Int.reduceLT, Int.reduceLE, Int.reduceNeg, Int.reduceToNat, Int.cast_ofNat_Int, if_true, if_false, and_self, or_self, ite_self, bI_0, bI_1, bI_01, Bool.false_eq_true, reduceCtorEq, hij, one1, bB_t]
  | cons v l ih =>
    intro i dp u h0 hd1 hd2 hs
    have e := seg_len hs
    obtain ⟨hv, hs'⟩ := seg_hd hs
    rw [List.length_cons] at e hd1 hd2
    have hij : ¬ j ≤ i := by omega
    have ob := opb_b v
    have wi : w32 (i + 1) = i + 1 := w32_id (by omega) (by omega)
    have wi2 : w32 (i - 1) = i - 1 := w32_id (by omega) (by omega)
    have hrec := ih (i + 1) (dp + opb v) (some (tI v)) (by omega) (by omega) (by omega) hs'
    rw [show i + 1 - 1 = i by omega, hv] at hrec
    rw [u_Sh_isOneProduct_16]
    simp only [u_Sh_isOneProduct_18, u_Sh_isOneProduct_19, u_Sh_isOneProduct_22, u_Sh_isOneProduct_23, u_Sh_isOneProduct_26, u_Sh_isOneProduct_28, u_Sh_isOneProduct_31, h1_18, gt_18_0, xT_h1, ne_eq, not_false_eq_true, not_true_eq_false, true_and, and_true, true_or, or_true, eq_self, Option.toList_some, Option.toList_none, List.cons_append, List.nil_append, tc_0, tc_I, tc_L, tc_A, Nat.reduceAdd, Nat.reduceLeDiff, Nat.reduceEqDiff, Int.reduceEq, Int.reduceLT, Int.reduceLE, Int.reduceNeg, Int.reduceToNat, Int.cast_ofNat_Int, if_true, if_false, and_self, or_self, ite_self, bI_0, bI_1, bI_01, Bool.false_eq_true, reduceCtorEq, hf, b0, hT, hij, s_Tx_token hT hl, hv]
    rw [l_br (by omega)]
    by_cases hz : dp + opb v = 0
    · by_cases hsu : kSum v = true
      · by_cases hen : kEnd (tok t b (i - 1)) = true
        · have e1 : one1 (tok t b (i - 1)) dp (v :: l) = false := by rw [one1, if_pos ⟨hz, hsu, hen⟩]
          rw [hz, e1]
          simp only [u_Sh_isOneProduct_67, u_Sh_isOneProduct_68, u_Sh_isOneProduct_71, u_Sh_isOneProduct_73, u_Sh_isOneProduct_76, u_Sh_isOneProduct_79, u_Sh_isOneProduct_80, u_Sh_isOneProduct_83, u_Sh_isOneProduct_85, u_Sh_isOneProduct_86, u_Sh_isOneProduct_87, u_Sh_isOneProduct_90, u_Sh_isOneProduct_93, u_Sh_isOneProduct_96, u_Sh_isOneProduct_97, h1_18, gt_18_0, xT_h1, ne_eq, not_false_eq_true, not_true_eq_false, true_and, and_true, true_or, or_true, eq_self, Option.toList_some, Option.toList_none, List.cons_append, List.nil_append, tc_0, tc_I, tc_L, tc_A, Nat.reduceAdd, Nat.reduceLeDiff, Nat.reduceEqDiff, Int.reduceEq, Int.reduceLT, Int.reduceLE, Int.reduceNeg, Int.reduceToNat, Int.cast_ofNat_Int, if_true, if_false, and_self, or_self, ite_self, bI_0, bI_1, bI_01, Bool.false_eq_true, reduceCtorEq, hf, b0, hT, s_Tk_isSumSign, hsu, bB_t, bB_f, wi2, s_Tx_token hT hl, s_Tk_endsFactor, hen]
        · have e1 : one1 (tok t b (i - 1)) dp (v :: l) = one1 v (dp + opb v) l := by rw [one1, if_neg (fun hh => hen hh.2.2)]
          have hen' : kEnd (tok t b (i - 1)) = false := by simpa using hen
          rw [e1, ← hrec, hz]
          simp only [u_Sh_isOneProduct_67, u_Sh_isOneProduct_68, u_Sh_isOneProduct_71, u_Sh_isOneProduct_73, u_Sh_isOneProduct_76, u_Sh_isOneProduct_79, u_Sh_isOneProduct_80, u_Sh_isOneProduct_83, u_Sh_isOneProduct_85, u_Sh_isOneProduct_86, u_Sh_isOneProduct_87, u_Sh_isOneProduct_90, u_Sh_isOneProduct_93, u_Sh_isOneProduct_96, u_Sh_isOneProduct_97, u_Sh_isOneProduct_98, u_Sh_isOneProduct_101, h1_18, gt_18_0, xT_h1, ne_eq, not_false_eq_true, not_true_eq_false, true_and, and_true, true_or, or_true, eq_self, Option.toList_some, Option.toList_none, List.cons_append, List.nil_append, tc_0, tc_I, tc_L, tc_A, Nat.reduceAdd, Nat.reduceLeDiff, Nat.reduceEqDiff, Int.reduceEq, Int.reduceLT, Int.reduceLE, Int.reduceNeg, Int.reduceToNat, Int.cast_ofNat_Int, if_true, if_false, and_self, or_self, ite_self, bI_0, bI_1, bI_01, Bool.false_eq_true, reduceCtorEq, hf, b0, hT, s_Tk_isSumSign, hsu, bB_t, bB_f, wi2, s_Tx_token hT hl, s_Tk_endsFactor, hen', wi]
      · have e1 : one1 (tok t b (i - 1)) dp (v :: l) = one1 v (dp + opb v) l := by rw [one1, if_neg (fun hh => hsu hh.2.1)]
        have hsu' : kSum v = false := by simpa using hsu
        rw [e1, ← hrec, hz]
        simp only [u_Sh_isOneProduct_67, u_Sh_isOneProduct_68, u_Sh_isOneProduct_71, u_Sh_isOneProduct_73, u_Sh_isOneProduct_76, u_Sh_isOneProduct_79, u_Sh_isOneProduct_80, u_Sh_isOneProduct_83, u_Sh_isOneProduct_85, u_Sh_isOneProduct_86, u_Sh_isOneProduct_87, u_Sh_isOneProduct_90, u_Sh_isOneProduct_93, u_Sh_isOneProduct_96, u_Sh_isOneProduct_97, u_Sh_isOneProduct_98, u_Sh_isOneProduct_101, ne_eq, not_false_eq_true, not_true_eq_false, true_and, and_true, true_or, or_true, eq_self, Option.toList_some, Option.toList_none, List.cons_append, List.nil_append, tc_0, tc_I, tc_L, tc_A, Nat.reduceAdd, Nat.reduceLeDiff, Nat.reduceEqDiff, Int.reduceEq, Int.reduceLT, Int.reduceLE, Int.reduceNeg, Int.reduceToNat, Int.cast_ofNat_Int, if_true, if_false, and_self, or_self, ite_self, bI_0, bI_1, bI_01, Bool.false_eq_true, reduceCtorEq, s_Tk_isSumSign, hsu', bB_f, wi]
    · have e1 : one1 (tok t b (i - 1)) dp (v :: l) = one1 v (dp + opb v) l := by rw [one1, if_neg (fun hh => hz hh.1)]
      rw [e1, ← hrec]
      simp only [u_Sh_isOneProduct_67, u_Sh_isOneProduct_68, u_Sh_isOneProduct_71, u_Sh_isOneProduct_73, u_Sh_isOneProduct_76, u_Sh_isOneProduct_79, u_Sh_isOneProduct_80, u_Sh_isOneProduct_83, u_Sh_isOneProduct_85, u_Sh_isOneProduct_86, u_Sh_isOneProduct_87, u_Sh_isOneProduct_90, u_Sh_isOneProduct_93, u_Sh_isOneProduct_96, u_Sh_isOneProduct_97, u_Sh_isOneProduct_98, u_Sh_isOneProduct_101, ne_eq, not_false_eq_true, not_true_eq_false, true_and, and_true, true_or, or_true, eq_self, Option.toList_some, Option.toList_none, List.cons_append, List.nil_append, tc_0, tc_I, tc_L, tc_A, Nat.reduceAdd, Nat.reduceLeDiff, Nat.reduceEqDiff, Int.reduceEq, Int.reduceLT, Int.reduceLE, Int.reduceNeg, Int.reduceToNat, Int.cast_ofNat_Int, if_true, if_false, and_self, or_self, ite_self, bI_0, bI_1, bI_01, Bool.false_eq_true, reduceCtorEq, hz, wi]
theorem s_Sh_isOwnChange (h : SA b f t p st n j k) : VV L (d + 4) m_Sh_isOwnChange 0 [some (tA 18), some (tI p), none, none, none] [] (WW f t g) Q = Q (some (tI (bB (plQ n k)))) (WW f t g) := by
  have b0 := xT_0 h.hT
  have hT := h.hT
  have hjl := h.jl
  have hl := h.hl
  have h0 := h.h0
  have w1 : w32 (st + 3 + 1) = st + 3 + 1 := w32_id (by omega) (by omega)
  have w2 : w32 (st + 3 + 2) = st + 3 + 2 := w32_id (by omega) (by omega)
  have k1 := h.k1
  have own := fun Q => s_Sh_isInOwn (L := L) (d := d) (g := g) (Q := Q) (q := 2) h
  match k, h, hjl, k1, own with
  | [a], h, hjl, _, _ =>
    obtain ⟨ha, hs2⟩ := seg_hd h.hs
    have e := seg_len hs2
    simp only [List.length_nil] at e
    have e59 : tok t b (st + 3 + 1) = 59 := by rw [show st + 3 + 1 = j by omega]; exact h.hj
    have s59 : kSum 59 = false := by decide
    have ep : plQ n [a] = false := rfl
    rw [ep]
    by_cases hc : a = n
    · simp only [u_Sh_isOwnChange_0, u_Sh_isOwnChange_1, u_Sh_isOwnChange_4, u_Sh_isOwnChange_5, u_Sh_isOwnChange_8, u_Sh_isOwnChange_9, u_Sh_isOwnChange_10, u_Sh_isOwnChange_13, u_Sh_isOwnChange_14, u_Sh_isOwnChange_15, u_Sh_isOwnChange_16, u_Sh_isOwnChange_19, u_Sh_isOwnChange_20, u_Sh_isOwnChange_21, u_Sh_isOwnChange_24, u_Sh_isOwnChange_25, u_Sh_isOwnChange_28, u_Sh_isOwnChange_29, u_Sh_isOwnChange_30, u_Sh_isOwnChange_33, u_Sh_isOwnChange_36, u_Sh_isOwnChange_37, u_Sh_isOwnChange_40, u_Sh_isOwnChange_43, u_Sh_isOwnChange_44, u_Sh_isOwnChange_46, u_Sh_isOwnChange_49, u_Sh_isOwnChange_50, u_Sh_isOwnChange_53, u_Sh_isOwnChange_54, u_Sh_isOwnChange_56, u_Sh_isOwnChange_58, u_Sh_isOwnChange_61, u_Sh_isOwnChange_62, u_Sh_isOwnChange_63, u_Sh_isOwnChange_64, u_Sh_isOwnChange_67, u_Sh_isOwnChange_70, u_Sh_isOwnChange_71, u_Sh_isOwnChange_72, u_Sh_isOwnChange_73, u_Sh_isOwnChange_74, u_Sh_isOwnChange_77, u_Sh_isOwnChange_80, u_Sh_isOwnChange_81, u_Sh_isOwnChange_84, u_Sh_isOwnChange_85, h1_18, gt_18_0, xT_h1, ne_eq, not_false_eq_true, not_true_eq_false, true_and, and_true, true_or, or_true, eq_self, Option.toList_some, Option.toList_none, List.cons_append, List.nil_append, tc_0, tc_I, tc_L, tc_A, Nat.reduceAdd, Nat.reduceLeDiff, Nat.reduceEqDiff, Int.reduceEq, Int.reduceLT, Int.reduceLE, Int.reduceNeg, Int.reduceToNat, Int.cast_ofNat_Int, if_true, if_false, and_self, or_self, ite_self, bI_0, bI_1, bI_01, Bool.false_eq_true, reduceCtorEq, h.hf, b0, hT, s_Tx_body hT h.h9, h.h5, w1, s_Tx_token hT h.hl, e59, ha, s_Sh_nameOf h, hc, s_Tk_isSumSign, s59, bB_f]
    · simp only [u_Sh_isOwnChange_0, u_Sh_isOwnChange_1, u_Sh_isOwnChange_4, u_Sh_isOwnChange_5, u_Sh_isOwnChange_8, u_Sh_isOwnChange_9, u_Sh_isOwnChange_10, u_Sh_isOwnChange_13, u_Sh_isOwnChange_14, u_Sh_isOwnChange_15, u_Sh_isOwnChange_16, u_Sh_isOwnChange_19, u_Sh_isOwnChange_20, u_Sh_isOwnChange_21, u_Sh_isOwnChange_24, u_Sh_isOwnChange_25, u_Sh_isOwnChange_28, u_Sh_isOwnChange_29, u_Sh_isOwnChange_30, u_Sh_isOwnChange_33, u_Sh_isOwnChange_36, u_Sh_isOwnChange_37, u_Sh_isOwnChange_40, u_Sh_isOwnChange_43, u_Sh_isOwnChange_44, u_Sh_isOwnChange_46, u_Sh_isOwnChange_49, u_Sh_isOwnChange_50, u_Sh_isOwnChange_53, u_Sh_isOwnChange_54, u_Sh_isOwnChange_56, u_Sh_isOwnChange_58, u_Sh_isOwnChange_61, u_Sh_isOwnChange_62, u_Sh_isOwnChange_63, u_Sh_isOwnChange_64, u_Sh_isOwnChange_67, u_Sh_isOwnChange_70, u_Sh_isOwnChange_71, u_Sh_isOwnChange_72, u_Sh_isOwnChange_73, u_Sh_isOwnChange_74, u_Sh_isOwnChange_77, u_Sh_isOwnChange_80, u_Sh_isOwnChange_81, u_Sh_isOwnChange_84, u_Sh_isOwnChange_85, h1_18, gt_18_0, xT_h1, ne_eq, not_false_eq_true, not_true_eq_false, true_and, and_true, true_or, or_true, eq_self, Option.toList_some, Option.toList_none, List.cons_append, List.nil_append, tc_0, tc_I, tc_L, tc_A, Nat.reduceAdd, Nat.reduceLeDiff, Nat.reduceEqDiff, Int.reduceEq, Int.reduceLT, Int.reduceLE, Int.reduceNeg, Int.reduceToNat, Int.cast_ofNat_Int, if_true, if_false, and_self, or_self, ite_self, bI_0, bI_1, bI_01, Bool.false_eq_true, reduceCtorEq, h.hf, b0, hT, s_Tx_body hT h.h9, h.h5, w1, s_Tx_token hT h.hl, e59, ha, s_Sh_nameOf h, hc, bB_f]
  | a :: s :: l, h, hjl, _, own =>
    obtain ⟨ha, hs2⟩ := seg_hd h.hs
    obtain ⟨hs1, hs3⟩ := seg_hd hs2
    have own2 := fun Q => own Q (by simp)
    have z2 : ((2 : Nat) : Int) = 2 := rfl
    rw [z2, show (a :: s :: l).drop 2 = l from rfl] at own2
    have ep : plQ n (a :: s :: l) = (decide (a = n ∧ kSum s = true ∧ ¬ s = 124 ∧ ¬ n ∈ l) && one1 s 0 l) := rfl
    have ln := hjl.2
    simp only [List.length_cons] at ln
    by_cases hc : a = n
    · by_cases hsu : kSum s = true
      · by_cases h124 : s = 124
        · rw [ep, decide_eq_false (fun hh => hh.2.2.1 h124), Bool.false_and]
          simp only [u_Sh_isOwnChange_0, u_Sh_isOwnChange_1, u_Sh_isOwnChange_4, u_Sh_isOwnChange_5, u_Sh_isOwnChange_8, u_Sh_isOwnChange_9, u_Sh_isOwnChange_10, u_Sh_isOwnChange_13, u_Sh_isOwnChange_14, u_Sh_isOwnChange_15, u_Sh_isOwnChange_16, u_Sh_isOwnChange_19, u_Sh_isOwnChange_20, u_Sh_isOwnChange_21, u_Sh_isOwnChange_24, u_Sh_isOwnChange_25, u_Sh_isOwnChange_28, u_Sh_isOwnChange_29, u_Sh_isOwnChange_30, u_Sh_isOwnChange_33, u_Sh_isOwnChange_36, u_Sh_isOwnChange_37, u_Sh_isOwnChange_40, u_Sh_isOwnChange_43, u_Sh_isOwnChange_44, u_Sh_isOwnChange_46, u_Sh_isOwnChange_49, u_Sh_isOwnChange_50, u_Sh_isOwnChange_53, u_Sh_isOwnChange_54, u_Sh_isOwnChange_56, u_Sh_isOwnChange_58, u_Sh_isOwnChange_61, u_Sh_isOwnChange_62, u_Sh_isOwnChange_63, u_Sh_isOwnChange_64, u_Sh_isOwnChange_67, u_Sh_isOwnChange_70, u_Sh_isOwnChange_71, u_Sh_isOwnChange_72, u_Sh_isOwnChange_73, u_Sh_isOwnChange_74, u_Sh_isOwnChange_77, u_Sh_isOwnChange_80, u_Sh_isOwnChange_81, u_Sh_isOwnChange_84, u_Sh_isOwnChange_85, h1_18, gt_18_0, xT_h1, ne_eq, not_false_eq_true, not_true_eq_false, true_and, and_true, true_or, or_true, eq_self, Option.toList_some, Option.toList_none, List.cons_append, List.nil_append, tc_0, tc_I, tc_L, tc_A, Nat.reduceAdd, Nat.reduceLeDiff, Nat.reduceEqDiff, Int.reduceEq, Int.reduceLT, Int.reduceLE, Int.reduceNeg, Int.reduceToNat, Int.cast_ofNat_Int, if_true, if_false, and_self, or_self, ite_self, bI_0, bI_1, bI_01, Bool.false_eq_true, reduceCtorEq, h.hf, b0, hT, s_Tx_body hT h.h9, h.h5, w1, s_Tx_token hT h.hl, hs1, ha, s_Sh_nameOf h, hc, s_Tk_isSumSign, hsu, bB_t, bB_f, h124]
        · by_cases hin : n ∈ l
          · rw [ep, decide_eq_false (fun hh => hh.2.2.2 hin), Bool.false_and]
            simp only [u_Sh_isOwnChange_0, u_Sh_isOwnChange_1, u_Sh_isOwnChange_4, u_Sh_isOwnChange_5, u_Sh_isOwnChange_8, u_Sh_isOwnChange_9, u_Sh_isOwnChange_10, u_Sh_isOwnChange_13, u_Sh_isOwnChange_14, u_Sh_isOwnChange_15, u_Sh_isOwnChange_16, u_Sh_isOwnChange_19, u_Sh_isOwnChange_20, u_Sh_isOwnChange_21, u_Sh_isOwnChange_24, u_Sh_isOwnChange_25, u_Sh_isOwnChange_28, u_Sh_isOwnChange_29, u_Sh_isOwnChange_30, u_Sh_isOwnChange_33, u_Sh_isOwnChange_36, u_Sh_isOwnChange_37, u_Sh_isOwnChange_40, u_Sh_isOwnChange_43, u_Sh_isOwnChange_44, u_Sh_isOwnChange_46, u_Sh_isOwnChange_49, u_Sh_isOwnChange_50, u_Sh_isOwnChange_53, u_Sh_isOwnChange_54, u_Sh_isOwnChange_56, u_Sh_isOwnChange_58, u_Sh_isOwnChange_61, u_Sh_isOwnChange_62, u_Sh_isOwnChange_63, u_Sh_isOwnChange_64, u_Sh_isOwnChange_67, u_Sh_isOwnChange_70, u_Sh_isOwnChange_71, u_Sh_isOwnChange_72, u_Sh_isOwnChange_73, u_Sh_isOwnChange_74, u_Sh_isOwnChange_77, u_Sh_isOwnChange_80, u_Sh_isOwnChange_81, u_Sh_isOwnChange_84, u_Sh_isOwnChange_85, h1_18, gt_18_0, xT_h1, ne_eq, not_false_eq_true, not_true_eq_false, true_and, and_true, true_or, or_true, eq_self, Option.toList_some, Option.toList_none, List.cons_append, List.nil_append, tc_0, tc_I, tc_L, tc_A, Nat.reduceAdd, Nat.reduceLeDiff, Nat.reduceEqDiff, Int.reduceEq, Int.reduceLT, Int.reduceLE, Int.reduceNeg, Int.reduceToNat, Int.cast_ofNat_Int, if_true, if_false, and_self, or_self, ite_self, bI_0, bI_1, bI_01, Bool.false_eq_true, reduceCtorEq, h.hf, b0, hT, s_Tx_body hT h.h9, h.h5, w1, s_Tx_token hT h.hl, hs1, ha, s_Sh_nameOf h, hc, s_Tk_isSumSign, hsu, bB_t, bB_f, h124, own2, hin, decide_true]
          · rw [ep, decide_eq_true (⟨hc, hsu, h124, hin⟩ : a = n ∧ kSum s = true ∧ ¬ s = 124 ∧ ¬ n ∈ l), Bool.true_and]
            have n59 : nxt (tok t b) (t b 1) 59 (st + 3 + 2) = j := nxt_seg (by rw [show st + 3 + 2 = st + 3 + 1 + 1 by omega]; exact hs3) (fun v hv => (eTk_no (h.hk v (List.mem_cons_of_mem _ (List.mem_cons_of_mem _ hv)))).1) h.hj hjl.1
            have lo := fun Q => l_one (L := L) (d := d + 1) (g := g) (Q := Q) (s0 := st + 3 + 2) hT h.hf h.hl hjl.1 l (st + 3 + 2) 0 none (by omega) (by omega) (by omega) (by rw [show st + 3 + 2 = st + 3 + 1 + 1 by omega]; exact hs3)
            rw [show st + 3 + 2 - 1 = st + 3 + 1 by omega, hs1] at lo
            have one : ∀ Q, VV L (d + 3) m_Sh_isOneProduct 0 [some (tA 18), some (tI (st + 3 + 2)), none, none, none, none] [] (WW f t g) Q = Q (some (tI (bB (one1 s 0 l)))) (WW f t g) := by
              intro Q
              rw [← lo Q]
              simp only [u_Sh_isOneProduct_0, u_Sh_isOneProduct_1, u_Sh_isOneProduct_2, u_Sh_isOneProduct_3, u_Sh_isOneProduct_6, u_Sh_isOneProduct_8, u_Sh_isOneProduct_9, u_Sh_isOneProduct_12, u_Sh_isOneProduct_13, u_Sh_isOneProduct_14, h1_18, gt_18_0, xT_h1, ne_eq, not_false_eq_true, not_true_eq_false, true_and, and_true, true_or, or_true, eq_self, Option.toList_some, Option.toList_none, List.cons_append, List.nil_append, tc_0, tc_I, tc_L, tc_A, Nat.reduceAdd, Nat.reduceLeDiff, Nat.reduceEqDiff, Int.reduceEq, Int.reduceLT, Int.reduceLE, Int.reduceNeg, Int.reduceToNat, Int.cast_ofNat_Int, if_true, if_false, and_self, or_self, ite_self, bI_0, bI_1, bI_01, Bool.false_eq_true, reduceCtorEq, h.hf, b0, hT, s_Tx_next hT h.hl (show 0 ≤ st + 3 + 2 by omega), n59]
            cases ho : one1 s 0 l with
            | true =>
              rw [ho] at one
              simp only [u_Sh_isOwnChange_0, u_Sh_isOwnChange_1, u_Sh_isOwnChange_4, u_Sh_isOwnChange_5, u_Sh_isOwnChange_8, u_Sh_isOwnChange_9, u_Sh_isOwnChange_10, u_Sh_isOwnChange_13, u_Sh_isOwnChange_14, u_Sh_isOwnChange_15, u_Sh_isOwnChange_16, u_Sh_isOwnChange_19, u_Sh_isOwnChange_20, u_Sh_isOwnChange_21, u_Sh_isOwnChange_24, u_Sh_isOwnChange_25, u_Sh_isOwnChange_28, u_Sh_isOwnChange_29, u_Sh_isOwnChange_30, u_Sh_isOwnChange_33, u_Sh_isOwnChange_36, u_Sh_isOwnChange_37, u_Sh_isOwnChange_40, u_Sh_isOwnChange_43, u_Sh_isOwnChange_44, u_Sh_isOwnChange_46, u_Sh_isOwnChange_49, u_Sh_isOwnChange_50, u_Sh_isOwnChange_53, u_Sh_isOwnChange_54, u_Sh_isOwnChange_56, u_Sh_isOwnChange_58, u_Sh_isOwnChange_61, u_Sh_isOwnChange_62, u_Sh_isOwnChange_63, u_Sh_isOwnChange_64, u_Sh_isOwnChange_67, u_Sh_isOwnChange_70, u_Sh_isOwnChange_71, u_Sh_isOwnChange_72, u_Sh_isOwnChange_73, u_Sh_isOwnChange_74, u_Sh_isOwnChange_77, u_Sh_isOwnChange_80, u_Sh_isOwnChange_81, u_Sh_isOwnChange_84, u_Sh_isOwnChange_85, h1_18, gt_18_0, xT_h1, ne_eq, not_false_eq_true, not_true_eq_false, true_and, and_true, true_or, or_true, eq_self, Option.toList_some, Option.toList_none, List.cons_append, List.nil_append, tc_0, tc_I, tc_L, tc_A, Nat.reduceAdd, Nat.reduceLeDiff, Nat.reduceEqDiff, Int.reduceEq, Int.reduceLT, Int.reduceLE, Int.reduceNeg, Int.reduceToNat, Int.cast_ofNat_Int, if_true, if_false, and_self, or_self, ite_self, bI_0, bI_1, bI_01, Bool.false_eq_true, reduceCtorEq, h.hf, b0, hT, s_Tx_body hT h.h9, h.h5, w1, w2, s_Tx_token hT h.hl, hs1, ha, s_Sh_nameOf h, hc, s_Tk_isSumSign, hsu, bB_t, bB_f, h124, own2, hin, decide_false, one]
            | false =>
              rw [ho] at one
              simp only [u_Sh_isOwnChange_0, u_Sh_isOwnChange_1, u_Sh_isOwnChange_4, u_Sh_isOwnChange_5, u_Sh_isOwnChange_8, u_Sh_isOwnChange_9, u_Sh_isOwnChange_10, u_Sh_isOwnChange_13, u_Sh_isOwnChange_14, u_Sh_isOwnChange_15, u_Sh_isOwnChange_16, u_Sh_isOwnChange_19, u_Sh_isOwnChange_20, u_Sh_isOwnChange_21, u_Sh_isOwnChange_24, u_Sh_isOwnChange_25, u_Sh_isOwnChange_28, u_Sh_isOwnChange_29, u_Sh_isOwnChange_30, u_Sh_isOwnChange_33, u_Sh_isOwnChange_36, u_Sh_isOwnChange_37, u_Sh_isOwnChange_40, u_Sh_isOwnChange_43, u_Sh_isOwnChange_44, u_Sh_isOwnChange_46, u_Sh_isOwnChange_49, u_Sh_isOwnChange_50, u_Sh_isOwnChange_53, u_Sh_isOwnChange_54, u_Sh_isOwnChange_56, u_Sh_isOwnChange_58, u_Sh_isOwnChange_61, u_Sh_isOwnChange_62, u_Sh_isOwnChange_63, u_Sh_isOwnChange_64, u_Sh_isOwnChange_67, u_Sh_isOwnChange_70, u_Sh_isOwnChange_71, u_Sh_isOwnChange_72, u_Sh_isOwnChange_73, u_Sh_isOwnChange_74, u_Sh_isOwnChange_77, u_Sh_isOwnChange_80, u_Sh_isOwnChange_81, u_Sh_isOwnChange_84, u_Sh_isOwnChange_85, h1_18, gt_18_0, xT_h1, ne_eq, not_false_eq_true, not_true_eq_false, true_and, and_true, true_or, or_true, eq_self, Option.toList_some, Option.toList_none, List.cons_append, List.nil_append, tc_0, tc_I, tc_L, tc_A, Nat.reduceAdd, Nat.reduceLeDiff, Nat.reduceEqDiff, Int.reduceEq, Int.reduceLT, Int.reduceLE, Int.reduceNeg, Int.reduceToNat, Int.cast_ofNat_Int, if_true, if_false, and_self, or_self, ite_self, bI_0, bI_1, bI_01, Bool.false_eq_true, reduceCtorEq, h.hf, b0, hT, s_Tx_body hT h.h9, h.h5, w1, w2, s_Tx_token hT h.hl, hs1, ha, s_Sh_nameOf h, hc, s_Tk_isSumSign, hsu, bB_t, bB_f, h124, own2, hin, decide_false, one]
      · have hsu' : kSum s = false := by simpa using hsu
        rw [ep, decide_eq_false (fun hh => hsu hh.2.1), Bool.false_and]
        simp only [u_Sh_isOwnChange_0, u_Sh_isOwnChange_1, u_Sh_isOwnChange_4, u_Sh_isOwnChange_5, u_Sh_isOwnChange_8, u_Sh_isOwnChange_9, u_Sh_isOwnChange_10, u_Sh_isOwnChange_13, u_Sh_isOwnChange_14, u_Sh_isOwnChange_15, u_Sh_isOwnChange_16, u_Sh_isOwnChange_19, u_Sh_isOwnChange_20, u_Sh_isOwnChange_21, u_Sh_isOwnChange_24, u_Sh_isOwnChange_25, u_Sh_isOwnChange_28, u_Sh_isOwnChange_29, u_Sh_isOwnChange_30, u_Sh_isOwnChange_33, u_Sh_isOwnChange_36, u_Sh_isOwnChange_37, u_Sh_isOwnChange_40, u_Sh_isOwnChange_43, u_Sh_isOwnChange_44, u_Sh_isOwnChange_46, u_Sh_isOwnChange_49, u_Sh_isOwnChange_50, u_Sh_isOwnChange_53, u_Sh_isOwnChange_54, u_Sh_isOwnChange_56, u_Sh_isOwnChange_58, u_Sh_isOwnChange_61, u_Sh_isOwnChange_62, u_Sh_isOwnChange_63, u_Sh_isOwnChange_64, u_Sh_isOwnChange_67, u_Sh_isOwnChange_70, u_Sh_isOwnChange_71, u_Sh_isOwnChange_72, u_Sh_isOwnChange_73, u_Sh_isOwnChange_74, u_Sh_isOwnChange_77, u_Sh_isOwnChange_80, u_Sh_isOwnChange_81, u_Sh_isOwnChange_84, u_Sh_isOwnChange_85, h1_18, gt_18_0, xT_h1, ne_eq, not_false_eq_true, not_true_eq_false, true_and, and_true, true_or, or_true, eq_self, Option.toList_some, Option.toList_none, List.cons_append, List.nil_append, tc_0, tc_I, tc_L, tc_A, Nat.reduceAdd, Nat.reduceLeDiff, Nat.reduceEqDiff, Int.reduceEq, Int.reduceLT, Int.reduceLE, Int.reduceNeg, Int.reduceToNat, Int.cast_ofNat_Int, if_true, if_false, and_self, or_self, ite_self, bI_0, bI_1, bI_01, Bool.false_eq_true, reduceCtorEq, h.hf, b0, hT, s_Tx_body hT h.h9, h.h5, w1, s_Tx_token hT h.hl, hs1, ha, s_Sh_nameOf h, hc, s_Tk_isSumSign, hsu', bB_f]
    · rw [ep, decide_eq_false (fun hh => hc hh.1), Bool.false_and]
      simp only [u_Sh_isOwnChange_0, u_Sh_isOwnChange_1, u_Sh_isOwnChange_4, u_Sh_isOwnChange_5, u_Sh_isOwnChange_8, u_Sh_isOwnChange_9, u_Sh_isOwnChange_10, u_Sh_isOwnChange_13, u_Sh_isOwnChange_14, u_Sh_isOwnChange_15, u_Sh_isOwnChange_16, u_Sh_isOwnChange_19, u_Sh_isOwnChange_20, u_Sh_isOwnChange_21, u_Sh_isOwnChange_24, u_Sh_isOwnChange_25, u_Sh_isOwnChange_28, u_Sh_isOwnChange_29, u_Sh_isOwnChange_30, u_Sh_isOwnChange_33, u_Sh_isOwnChange_36, u_Sh_isOwnChange_37, u_Sh_isOwnChange_40, u_Sh_isOwnChange_43, u_Sh_isOwnChange_44, u_Sh_isOwnChange_46, u_Sh_isOwnChange_49, u_Sh_isOwnChange_50, u_Sh_isOwnChange_53, u_Sh_isOwnChange_54, u_Sh_isOwnChange_56, u_Sh_isOwnChange_58, u_Sh_isOwnChange_61, u_Sh_isOwnChange_62, u_Sh_isOwnChange_63, u_Sh_isOwnChange_64, u_Sh_isOwnChange_67, u_Sh_isOwnChange_70, u_Sh_isOwnChange_71, u_Sh_isOwnChange_72, u_Sh_isOwnChange_73, u_Sh_isOwnChange_74, u_Sh_isOwnChange_77, u_Sh_isOwnChange_80, u_Sh_isOwnChange_81, u_Sh_isOwnChange_84, u_Sh_isOwnChange_85, h1_18, gt_18_0, xT_h1, ne_eq, not_false_eq_true, not_true_eq_false, true_and, and_true, true_or, or_true, eq_self, Option.toList_some, Option.toList_none, List.cons_append, List.nil_append, tc_0, tc_I, tc_L, tc_A, Nat.reduceAdd, Nat.reduceLeDiff, Nat.reduceEqDiff, Int.reduceEq, Int.reduceLT, Int.reduceLE, Int.reduceNeg, Int.reduceToNat, Int.cast_ofNat_Int, if_true, if_false, and_self, or_self, ite_self, bI_0, bI_1, bI_01, Bool.false_eq_true, reduceCtorEq, h.hf, b0, hT, s_Tx_body hT h.h9, h.h5, w1, s_Tx_token hT h.hl, hs1, ha, s_Sh_nameOf h, hc, bB_f]
end
