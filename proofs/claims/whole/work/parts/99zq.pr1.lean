/-! What is printed -/
/-- the bytes l stand at the front of a, their number in e, k -/
def PSt (a e k : Nat) (f : Mem) (l : List Int) : Mem := fun b j => if b = a ∧ j < l.length then l.getD j 0 else if b = e ∧ j = k then (l.length : Int) else f b j
theorem PS_e {a e k : Nat} {f : Mem} {l : List Int} (h : ¬ a = e) : PSt a e k f l e k = (l.length : Int) := by
  unfold PSt; rw [if_neg (fun hh => h hh.1.symm), if_pos ⟨rfl, rfl⟩]
theorem PS_o {a e k b j : Nat} {f : Mem} {l : List Int} (h : ¬ b = a) (h' : ¬ (b = e ∧ j = k)) : PSt a e k f l b j = f b j := by
  unfold PSt; rw [if_neg (fun hh => h hh.1), if_neg h']
theorem PS_v {a e k j : Nat} {f : Mem} {l : List Int} (h : j < l.length) : PSt a e k f l a j = l.getD j 0 := by
  unfold PSt; rw [if_pos ⟨rfl, h⟩]
theorem gD_app {l : List Int} {v : Int} {j : Nat} : (l ++ [v]).getD j 0 = if j = l.length then v else l.getD j 0 := by
  by_cases h : j < l.length
  · rw [if_neg (by omega), List.getD_eq_getElem?_getD, List.getElem?_append_left h, ← List.getD_eq_getElem?_getD]
  · by_cases e : j = l.length
    · rw [if_pos e, List.getD_eq_getElem?_getD, List.getElem?_append_right (by omega), e, Nat.sub_self]; rfl
    · rw [if_neg e, List.getD_eq_getElem?_getD, List.getElem?_append_right (by omega), List.getD_eq_getElem?_getD, List.getElem?_eq_none (by simp; omega), List.getElem?_eq_none (by omega)]
theorem PS_s {a e k : Nat} {f : Mem} {l : List Int} {v : Int} (h : ¬ a = e) : mset (mset (PSt a e k f l) e k ((l.length + 1 : Nat) : Int)) a l.length v = PSt a e k f (l ++ [v]) := by
  funext b j
  simp only [mset, PSt, gD_app, List.length_append, List.length_singleton]
  grind
theorem PS_s2 {a e k : Nat} {f : Mem} {l : List Int} {v : Int} (h : ¬ a = e) : mset (mset (PSt a e k f l) a l.length v) e k ((l.length + 1 : Nat) : Int) = PSt a e k f (l ++ [v]) := by
  funext b j
  simp only [mset, PSt, gD_app, List.length_append, List.length_singleton]
  grind
theorem PS_0 {a e k : Nat} {f : Mem} : mset f e k 0 = PSt a e k f [] := by
  funext b j
  simp only [mset, PSt, List.length_nil]
  grind
def dL (n : Int) : Nat → List Int
  | 0 => [48 + n % 10]
  | k + 1 => (48 + n / 10 ^ (k + 1) % 10) :: dL n k
def kyL (q : Nat) : List Int := (List.range (ksL q)).map (fun (j : Nat) => KM (((ksS q + j : Nat)) : Int))
def ptk (t : Int) : List Int := if t < 0 then dL (-1 - t) (dgt (-1 - t) - 1) else if 200 ≤ t then kyL (t - 200).toNat else if t = 128 then [43, 61] else if t = 129 then [45, 61] else if t = 130 then [60, 60] else if t = 131 then [62, 62] else if t = 132 then [94, 61] else if t = 133 then [60, 62] else [t]
section
variable {L d : Nat} {f t g : Mem} {Q : Option TV → Wd → Prop} {l : List Int} {v n : Int}
theorem s_Pr_add (hl : l.length < 4096) (hv : 32 ≤ v ∧ v ≤ 126) : VV L d m_Pr_add 0 [some (tA 16), some (tI v)] [] (WW (PSt 17 16 1 f l) t g) Q = Q none (WW (PSt 17 16 1 f (l ++ [v])) t g) := by
  have e := PS_e (a := 17) (e := 16) (k := 1) (f := f) (l := l) (by decide)
  have w1 : w32 ((l.length : Int) + 1) = ((l.length + 1 : Nat) : Int) := by rw [w32_id (by omega) (by omega)]; omega
  simp only [u_Pr_add_0, u_Pr_add_1, u_Pr_add_4, u_Pr_add_7, u_Pr_add_10, u_Pr_add_11, u_Pr_add_14, u_Pr_add_15, u_Pr_add_16, u_Pr_add_19, u_Pr_add_20, u_Pr_add_21, u_Pr_add_22, u_Pr_add_25, u_Pr_add_26, u_Pr_add_27b h1_17, u_Pr_add_28, h1_16, gt_16_0, gt_16_1, pt_16_1, h1_17, h2_17, gt_17, pt_17, ne_eq, not_false_eq_true, not_true_eq_false, true_and, and_true, true_or, or_true, eq_self, Option.toList_some, Option.toList_none, List.cons_append, List.nil_append, tc_0, tc_I, tc_L, tc_A, Nat.reduceAdd, Nat.reduceLeDiff, Nat.reduceEqDiff, Int.reduceEq, Int.reduceLT, Int.reduceLE, Int.reduceNeg, Int.reduceToNat, Int.cast_ofNat_Int, if_true, if_false, and_self, or_self, ite_self, bI_0, bI_1, bI_01, Bool.false_eq_true, reduceCtorEq, e, show ¬ (4096 : Int) ≤ (l.length : Int) by omega, w1, bm_id hv, show (0 : Int) ≤ (l.length : Int) by omega, show (l.length : Int) < 4096 by omega, Int.toNat_natCast, PS_s (show ¬ 17 = 16 by decide)]
theorem s_M_write {F : Mem} (hl : l.length < 12000) (hv : 32 ≤ v ∧ v ≤ 126) : VV L d m_M_write 0 [some (tA 156), some (tI v)] [] (WW F t (PSt 158 156 3 g l)) Q = Q none (WW F t (PSt 158 156 3 g (l ++ [v]))) := by
  have e := PS_e (a := 158) (e := 156) (k := 3) (f := g) (l := l) (by decide)
  have e' : (mset (PSt 158 156 3 g l) 158 l.length v) 156 3 = (l.length : Int) := by rw [rd, if_neg (by omega)]; exact e
  have w1 : w32 ((l.length : Int) + 1) = ((l.length + 1 : Nat) : Int) := by rw [w32_id (by omega) (by omega)]; omega
  simp only [u_M_write_0, u_M_write_1, u_M_write_4, u_M_write_5, u_M_write_8, u_M_write_9, u_M_write_10b h1_158, u_M_write_11, u_M_write_12, u_M_write_13, u_M_write_16, u_M_write_17, u_M_write_18, u_M_write_21, h1_156, gt_156_2, gt_156_3, pt_156_3, h1_158, h2_158, gt_158, pt_158, ne_eq, not_false_eq_true, not_true_eq_false, true_and, and_true, true_or, or_true, eq_self, Option.toList_some, Option.toList_none, List.cons_append, List.nil_append, tc_0, tc_I, tc_L, tc_A, Nat.reduceAdd, Nat.reduceLeDiff, Nat.reduceEqDiff, Int.reduceEq, Int.reduceLT, Int.reduceLE, Int.reduceNeg, Int.reduceToNat, Int.cast_ofNat_Int, if_true, if_false, and_self, or_self, ite_self, bI_0, bI_1, bI_01, Bool.false_eq_true, reduceCtorEq, e, e', w1, bm_id hv, show (0 : Int) ≤ (l.length : Int) by omega, show (l.length : Int) < 12000 by omega, Int.toNat_natCast, PS_s2 (show ¬ 158 = 156 by decide)]
end
