/-! Text: leaf methods -/
def tok (t : Mem) (a : Nat) (i : Int) : Int := if 0 ≤ i ∧ i < t a 1 then t (a + 1) i.toNat else 0
theorem rd {f : Mem} {a k b j : Nat} {v : Int} : mset f a k v b j = if b = a ∧ j = k then v else f b j := rfl
theorem mset_mset {f : Mem} {a k : Nat} {u v : Int} : mset (mset f a k u) a k v = mset f a k v := by
  funext b j; unfold mset; split <;> rfl
theorem tok_ne {t : Mem} {a : Nat} {i : Int} (h : ¬ tok t a i = 0) : 0 ≤ i ∧ i < t a 1 := by
  unfold tok at h; split at h
  · assumption
  · exact absurd rfl h
section
variable {L d a : Nat} {f t g : Mem} {Q : Option TV → Wd → Prop} {i k tk : Int}
theorem s_Tx_token (hT : isT a) (hl : t a 1 ≤ 1000) : VV L d m_Tx_token 0 [some (tA a), some (tI i)] [] (WW f t g) Q = Q (some (tI (tok t a i))) (WW f t g) := by
  simp only [u_Tx_token_0, u_Tx_token_1, u_Tx_token_4, u_Tx_token_5, u_Tx_token_6, u_Tx_token_9, u_Tx_token_12, u_Tx_token_13, u_Tx_token_16, u_Tx_token_17, u_Tx_token_18, u_Tx_token_21, u_Tx_token_22, xT_0, xT_h1, xT_g1, xT_p1, xT_g0, xA_h1, xA_z1, xA_g1, xA_p1, ne_eq, not_false_eq_true, not_true_eq_false, true_and, and_true, true_or, or_true, eq_self, Option.toList_some, Option.toList_none, List.cons_append, List.nil_append, tc_0, tc_I, tc_L, tc_A, Nat.reduceAdd, Nat.reduceLeDiff, Nat.reduceEqDiff, Int.reduceEq, Int.reduceLT, Int.reduceLE, Int.reduceNeg, Int.reduceToNat, Int.cast_ofNat_Int, if_true, if_false, and_self, or_self, ite_self, bI_0, bI_1, bI_01, Bool.false_eq_true, reduceCtorEq, hT]
  simp only [tok]
  grind
theorem s_Tx_length (hT : isT a) : VV L d m_Tx_length 0 [some (tA a)] [] (WW f t g) Q = Q (some (tI (t a 1))) (WW f t g) := by
  simp only [u_Tx_length_0, u_Tx_length_1, u_Tx_length_4, xT_0, xT_h1, xT_g1, xT_p1, ne_eq, not_false_eq_true, not_true_eq_false, true_and, and_true, true_or, or_true, eq_self, Option.toList_some, Option.toList_none, List.cons_append, List.nil_append, tc_0, tc_I, tc_L, tc_A, Nat.reduceAdd, Nat.reduceLeDiff, Nat.reduceEqDiff, Int.reduceEq, Int.reduceLT, Int.reduceLE, Int.reduceNeg, Int.reduceToNat, Int.cast_ofNat_Int, if_true, if_false, and_self, or_self, ite_self, bI_0, bI_1, bI_01, Bool.false_eq_true, reduceCtorEq, hT]
end
/-! Reader: the parse -/
abbrev PR (α : Type) : Type := Except (Int × Int × Int) (α × Int)
section
variable (T : Int → Int)
def pMore {F : Type} (pf : Int → PR F) (sg : Int → Bool) : Nat → Int → PR (List (Int × F))
  | 0, i => .ok ([], i)
  | n + 1, i => if sg (T i) = true then (match pf (i + 1) with
    | .error e => .error e
    | .ok (x, j) => match pMore pf sg n j with
      | .error e => .error e
      | .ok (l, k) => .ok ((T i, x) :: l, k)) else .ok ([], i)
def pTX {F : Type} (pf : Int → PR F) (i : Int) : PR (Ter F) := match pf i with
  | .error e => .error e
  | .ok (x, j) => match pMore T pf kPro 600 j with
    | .error e => .error e
    | .ok (l, k) => .ok ((x, l), k)
def pEX {F : Type} (pf : Int → PR F) (i : Int) : PR (F × List (Int × F)) := match pf i with
  | .error e => .error e
  | .ok (x, j) => match pMore T pf kSum 600 j with
    | .error e => .error e
    | .ok (l, k) => .ok ((x, l), k)
def pE {F : Type} (pf : Int → PR F) (i : Int) : PR (Exq F) := pEX T (pTX T pf) i
def pL (i : Int) : PR (Int ⊕ Int) :=
  if T i = 35 then (if kRow (T (i + 1)) = true then .ok (.inr (T (i + 1)), i + 2) else .error (1, i + 1, i + 1))
  else if kNum (T i) = true ∨ kName (T i) = true then .ok (.inl (T i), i + 1) else .error (1, i, i)
def pL0 (i : Int) : PR (FF 0) := pL T i
def pF : (n : Nat) → Int → PR (FF n)
  | 0, i => if T i = 45 ∨ T i = 40 then .error (2, i, i)
    else if kRow (T i) = true then (if T (i + 1) = 91 then .error (2, i + 1, i + 1) else .error (1, i + 1, i + 1))
    else pL0 T i
  | n + 1, i => if T i = 45 then (match pF n (i + 1) with
      | .error e => .error e
      | .ok (x, j) => .ok (.inr (.inl x), j))
    else if T i = 40 then (match pE T (pF n) (i + 1) with
      | .error e => .error e
      | .ok (x, j) => if T j = 60 ∨ T j = 61 then (match pE T (pF n) (j + 1) with
          | .error e => .error e
          | .ok (y, k) => if T k = 41 then .ok (.inr (.inr (.inr (.inr (T j, x, y)))), k + 1) else .error (1, k, k))
        else if T j = 41 then .ok (.inr (.inr (.inr (.inl x))), j + 1) else .error (1, j, j))
    else if kRow (T i) = true then (if T (i + 1) = 91 then (match pE T (pF n) (i + 2) with
        | .error e => .error e
        | .ok (x, j) => if T j = 93 then .ok (.inr (.inr (.inl (T i, x))), j + 1) else .error (1, j, j)) else .error (1, i + 1, i + 1))
    else (match pL T i with
      | .error e => .error e
      | .ok (x, j) => .ok (.inl x, j))
end
def bg (f : Mem) (i : Int) : Int := if 0 ≤ i ∧ i < 601 then f 15 i.toNat else 0
def erR (f : Mem) (e : Int × Int × Int) : Mem := mset (mset (mset f 14 2 e.2.2) 14 3 e.1) 14 4 (bg f e.2.1)
def resR (f t g : Mem) (Q : Option TV → Wd → Prop) {α : Type} : PR α → Prop
  | .ok (_, j) => Q (some (tI 1)) (WW (mset f 14 2 j) t g)
  | .error e => Q (some (tI 0)) (WW (erR f e) t g)
theorem resR_ok {f t g : Mem} {Q : Option TV → Wd → Prop} {α : Type} {x : α} {j : Int} : resR f t g Q (.ok (x, j) : PR α) = Q (some (tI 1)) (WW (mset f 14 2 j) t g) := rfl
theorem resR_er {f t g : Mem} {Q : Option TV → Wd → Prop} {α : Type} {e : Int × Int × Int} : resR f t g Q (.error e : PR α) = Q (some (tI 0)) (WW (erR f e) t g) := rfl
theorem bg_m {f : Mem} {k : Nat} {v i : Int} : bg (mset f 14 k v) i = bg f i := by
  unfold bg; simp only [rd, Nat.reduceEqDiff, false_and, if_false]
section
variable {L d a : Nat} {f t g : Mem} {Q : Option TV → Wd → Prop} {i j k y v tk : Int} {q : Bool}
theorem s_Re_fails : VV L d m_Re_fails 0 [some (tA 14), some (tI y), some (tI k)] [] (WW f t g) Q = Q (some (tI 0)) (WW (mset (mset f 14 3 y) 14 4 (bg f k)) t g) := by
  simp only [u_Re_fails_0, u_Re_fails_1, u_Re_fails_2, u_Re_fails_5, u_Re_fails_6, u_Re_fails_7, u_Re_fails_10, u_Re_fails_11, u_Re_fails_12, u_Re_fails_15, u_Re_fails_16, u_Re_fails_19, u_Re_fails_20, u_Re_fails_23, u_Re_fails_24, u_Re_fails_25, u_Re_fails_28, u_Re_fails_29, u_Re_fails_32, u_Re_fails_33, h1_14, gt_14_3, pt_14_3, gt_14_0, h1_15, h2_15, gt_15, pt_15, gt_14_4, pt_14_4, ne_eq, not_false_eq_true, not_true_eq_false, true_and, and_true, true_or, or_true, eq_self, Option.toList_some, Option.toList_none, List.cons_append, List.nil_append, tc_0, tc_I, tc_L, tc_A, Nat.reduceAdd, Nat.reduceLeDiff, Nat.reduceEqDiff, Int.reduceEq, Int.reduceLT, Int.reduceLE, Int.reduceNeg, Int.reduceToNat, Int.cast_ofNat_Int, if_true, if_false, and_self, or_self, ite_self, bI_0, bI_1, bI_01, Bool.false_eq_true, reduceCtorEq, rd, false_and, if_false, Nat.reduceLeDiff]
  simp only [bg]
  grind
theorem s_Re_passesIf : VV L (d + 1) m_Re_passesIf 0 [some (tA 14), some (tI (bB q))] [] (WW (mset f 14 2 i) t g) Q = if q = true then Q (some (tI 1)) (WW (mset f 14 2 (w32 (i + 1))) t g) else Q (some (tI 0)) (WW (erR f (1, i, i)) t g) := by
  simp only [u_Re_passesIf_0, u_Re_passesIf_1, u_Re_passesIf_4, u_Re_passesIf_5, u_Re_passesIf_6, u_Re_passesIf_7, u_Re_passesIf_10, u_Re_passesIf_13, u_Re_passesIf_14, u_Re_passesIf_15, u_Re_passesIf_16, u_Re_passesIf_19, u_Re_passesIf_20, u_Re_passesIf_21, u_Re_passesIf_24, u_Re_passesIf_25, h1_14, gt_14_2, pt_14_2, ne_eq, not_false_eq_true, not_true_eq_false, true_and, and_true, true_or, or_true, eq_self, Option.toList_some, Option.toList_none, List.cons_append, List.nil_append, tc_0, tc_I, tc_L, tc_A, Nat.reduceAdd, Nat.reduceLeDiff, Nat.reduceEqDiff, Int.reduceEq, Int.reduceLT, Int.reduceLE, Int.reduceNeg, Int.reduceToNat, Int.cast_ofNat_Int, if_true, if_false, and_self, or_self, ite_self, bI_0, bI_1, bI_01, Bool.false_eq_true, reduceCtorEq, s_Re_fails, rd, bB_0, mset_mset, bg_m, ite_not]
  rfl
theorem s_Re_pass1 : VV L (d + 1) m_Re_passesIf 0 [some (tA 14), some (tI 1)] [] (WW (mset f 14 2 i) t g) Q = Q (some (tI 1)) (WW (mset f 14 2 (w32 (i + 1))) t g) := (s_Re_passesIf (q := true)).trans (if_pos rfl)
theorem s_Re_pass0 : VV L (d + 1) m_Re_passesIf 0 [some (tA 14), some (tI 0)] [] (WW (mset f 14 2 i) t g) Q = Q (some (tI 0)) (WW (erR f (1, i, i)) t g) := (s_Re_passesIf (q := false)).trans (if_neg (by decide))
theorem s_Re_passes (hT : isT a) (hl : t a 1 ≤ 1000) (hX : (f 14 1).toNat = a) : VV L (d + 2) m_Re_passes 0 [some (tA 14), some (tI tk)] [] (WW (mset f 14 2 i) t g) Q = if tok t a i = tk then Q (some (tI 1)) (WW (mset f 14 2 (w32 (i + 1))) t g) else Q (some (tI 0)) (WW (erR f (1, i, i)) t g) := by
  simp only [u_Re_passes_0, u_Re_passes_1, u_Re_passes_2, u_Re_passes_5, u_Re_passes_6, u_Re_passes_9, u_Re_passes_12, u_Re_passes_13, u_Re_passes_16, u_Re_passes_17, u_Re_passes_20, u_Re_passes_21, u_Re_passes_24, h1_14, gt_14_1, pt_14_1, gt_14_2, pt_14_2, xT_0, xT_h1, ne_eq, not_false_eq_true, not_true_eq_false, true_and, and_true, true_or, or_true, eq_self, Option.toList_some, Option.toList_none, List.cons_append, List.nil_append, tc_0, tc_I, tc_L, tc_A, Nat.reduceAdd, Nat.reduceLeDiff, Nat.reduceEqDiff, Int.reduceEq, Int.reduceLT, Int.reduceLE, Int.reduceNeg, Int.reduceToNat, Int.cast_ofNat_Int, if_true, if_false, and_self, or_self, ite_self, bI_0, bI_1, bI_01, Bool.false_eq_true, reduceCtorEq, rd, hX, hT, s_Tx_token hT hl, Nat.reduceEqDiff, and_false, if_false, s_Re_pass1, s_Re_pass0]
end
