/-! Mirrors, the reference: steps -/
theorem whc_key {k : Int} (h : 200 ≤ k ∧ k ≤ 221) : whc k = k - 200 := by
  unfold whc kName kRow kStk; simp; omega
theorem srt_key {k : Int} (h : 200 ≤ k ∧ k ≤ 221) : srt k = 5 := by
  unfold srt kName kRow kStk; simp; omega
theorem kEnd_hi {k : Int} (h : 122 < k) : kEnd k = false := by
  unfold kEnd; simp; omega
theorem pq_key {k : Int} (h : 200 ≤ k ∧ k ≤ 207) : (5, k - 200 + 1 - 2 * ((k - 200) % 2)) = (eSl 0 (undo k), whc (undo k)) ∧ 122 < undo k := by
  have : k = 200 ∨ k = 201 ∨ k = 202 ∨ k = 203 ∨ k = 204 ∨ k = 205 ∨ k = 206 ∨ k = 207 := by omega
  rcases this with rfl | rfl | rfl | rfl | rfl | rfl | rfl | rfl <;> decide
theorem noM_P {c : Nat} (p : PP c) (hp : wP p) (m : List Int) : noM (kP p ++ m) ∧ 0 < (kP p).length := by
  match p, hp with
  | .inl n, hp =>
    have : kName n = true := hp
    refine ⟨?_, by simp [kP]⟩
    show ¬ n = 45
    unfold kName at this; simp at this; omega
  | .inr (rr, e), hp =>
    have : kRow rr = true := hp.1
    refine ⟨?_, by simp [kP]⟩
    show ¬ rr = 45
    unfold kRow at this; simp at this; omega
theorem pqL_a {l w m : List Int} {v : Int} (h : ¬ v = 45) : pqL 0 (l ++ ((v :: w) ++ m)) = pqL 0 l ++ pqL 0 ((v :: w) ++ m) := pqL_j (Or.inl h)
theorem pqL_1 {l m : List Int} {v : Int} (h : ¬ v = 45) : pqL 0 (l ++ v :: m) = pqL 0 l ++ pqL 0 (v :: m) := pqL_j (Or.inl h)
theorem pq_C {k mid fin : Int} {E1 E2 A B : List Int} (hk : kEnd k = false) (hf : kEnd fin = false) : pqL 0 (k :: (E2 ++ 123 :: (A ++ 125 :: mid :: 123 :: (B ++ 125 :: fin :: (E1 ++ [59]))))) = pqL 0 [k] ++ pqL 0 E2 ++ pqL 0 [123] ++ pqL 0 A ++ pqL 0 [125, mid, 123] ++ pqL 0 B ++ pqL 0 [125, fin] ++ pqL 0 E1 ++ pqL 0 [59] := by
  have e : k :: (E2 ++ 123 :: (A ++ 125 :: mid :: 123 :: (B ++ 125 :: fin :: (E1 ++ [59])))) = [k] ++ (E2 ++ ([123] ++ (A ++ ([125, mid, 123] ++ (B ++ ([125, fin] ++ (E1 ++ [59]))))))) := by simp
  rw [e, pqL_j (l := [k]) (Or.inr hk), pqL_a (l := E2) (show ¬ (123 : Int) = 45 by decide), pqL_j (l := [123]) (Or.inr (by decide)), pqL_a (l := A) (show ¬ (125 : Int) = 45 by decide), pqL_j (l := [125, mid, 123]) (Or.inr (show kEnd 123 = false by decide)), pqL_a (l := B) (show ¬ (125 : Int) = 45 by decide), pqL_j (l := [125, fin]) (Or.inr hf), pqL_1 (l := E1) (show ¬ (59 : Int) = 45 by decide)]
  simp only [List.append_assoc]
section
variable {L d D r len c : Nat} {f t g : Mem} {T : Int → Int} {Q : Option TV → Wd → Prop} {i j : Int} {P : List (Int × Int)}
theorem s_M_mKey {k : Int} {m : List Int} (h : RT g r T len) (hk : 200 ≤ k ∧ k ≤ 207) (h0 : 0 ≤ i) (hj : j ≤ len) (hs : seg T i j (k :: m)) (hlen : P.length + m.length + 1 ≤ 1600) : VV L (d + 2) m_M_mirrorStep 0 [some (tA 156), some (tI r), some (tI i), some (tI j), none, none, none, none] [] (WW f t (emM g P)) Q = Q none (WW f t (emM g (P ++ pqL 0 (undo k :: m)))) := by
  have hl1 := h.l1
  have el := seg_len hs
  rw [List.length_cons] at el
  obtain ⟨hv, hs'⟩ := seg_hd hs
  obtain ⟨x1, x2, x3, x4, x5, x6⟩ := (RT_em (P := P) h).ix h0 (show i < len by omega)
  have hn : eS T i = 5 := eS_key (by rw [hv]; omega) (by rw [hv]; omega)
  have hw : whc (T i) = k - 200 := by rw [hv]; exact whc_key (by omega)
  rw [hn] at x5
  rw [hw] at x6
  have wi : w32 (i + 1) = i + 1 := w32_id (by omega) (by omega)
  obtain ⟨q1, q2⟩ := pq_key hk
  have C2 := fun D Q => s_M_copies (L := L) (d := D) (f := f) (t := t) (Q := Q) (P := P ++ [(eSl 0 (undo k), whc (undo k))]) h hj (show 0 ≤ i + 1 by omega) hs' (by rw [List.length_append, List.length_singleton]; omega)
  have hfin : P ++ [(eSl 0 (undo k), whc (undo k))] ++ pqL (T (i + 1 - 1)) m = P ++ pqL 0 (undo k :: m) := by
    rw [show i + 1 - 1 = i by omega, hv, List.append_assoc, pqL_e (kEnd_hi (show 122 < k by omega)) (kEnd_hi q2)]
    rfl
  rw [hfin] at C2
  have E1 := fun D Q => s_M_emM (L := L) (d := D) (f := f) (t := t) (g := g) (Q := Q) (P := P) (x := 5) (y := k - 200 + 1 - 2 * ((k - 200) % 2)) (by omega)
  rw [q1] at E1
  simp only [u_M_mirrorStep_0, u_M_mirrorStep_1, u_M_mirrorStep_4, u_M_mirrorStep_7, u_M_mirrorStep_8, u_M_mirrorStep_9, u_M_mirrorStep_10, u_M_mirrorStep_11, u_M_mirrorStep_12, u_M_mirrorStep_13, u_M_mirrorStep_105, u_M_mirrorStep_106, u_M_mirrorStep_109, u_M_mirrorStep_112, u_M_mirrorStep_113, u_M_mirrorStep_114, u_M_mirrorStep_115, u_M_mirrorStep_116, u_M_mirrorStep_117, u_M_mirrorStep_119, u_M_mirrorStep_121, u_M_mirrorStep_123, u_M_mirrorStep_126, u_M_mirrorStep_128, u_M_mirrorStep_130, u_M_mirrorStep_133, u_M_mirrorStep_134, u_M_mirrorStep_135, u_M_mirrorStep_137, u_M_mirrorStep_140, u_M_mirrorStep_143, u_M_mirrorStep_144, u_M_mirrorStep_145, u_M_mirrorStep_146, u_M_mirrorStep_147, u_M_mirrorStep_148, u_M_mirrorStep_149, u_M_mirrorStep_152, h1_156, gt_156_25, gt_156_26, h1_164, h2_164, gt_164, pt_164, h1_165, h2_165, gt_165, pt_165, ne_eq, not_false_eq_true, not_true_eq_false, true_and, and_true, true_or, or_true, eq_self, Option.toList_some, Option.toList_none, List.cons_append, List.nil_append, tc_0, tc_I, tc_L, tc_A, Nat.reduceAdd, Nat.reduceLeDiff, Nat.reduceEqDiff, Int.reduceEq, Int.reduceLT, Int.reduceLE, Int.reduceNeg, Int.reduceToNat, Int.cast_ofNat_Int, if_true, if_false, and_self, or_self, ite_self, bI_0, bI_1, bI_01, Bool.false_eq_true, reduceCtorEq, x1, x2, x3, x4, x5, x6, show ¬ k - 200 = 8 by omega, show ¬ k - 200 = 11 by omega, s_M_opposite (show 0 ≤ k - 200 by omega) (show k - 200 ≤ 7 by omega), E1, wi, C2]
theorem s_M_mPair (p : PP c) (hp : wP p) {o : Int} {m : List Int} (h : RT g r T len) (ho : 128 ≤ o ∧ o ≤ 133) (h0 : 0 ≤ i) (hj : j ≤ len) (hs : seg T i j (kP p ++ o :: m)) (hlen : P.length + (kP p).length + m.length + 1 ≤ 1600) : VV L (d + 2) m_M_mirrorStep 0 [some (tA 156), some (tI r), some (tI i), some (tI j), none, none, none, none] [] (WW f t (emM g P)) Q = Q none (WW f t (emM g (P ++ pqL 0 (kP p ++ undo o :: m)))) := by
  have hl1 := h.l1
  obtain ⟨r1, r2⟩ := seg_split hs
  obtain ⟨hv, r3⟩ := seg_hd r2
  have l1 := seg_len r2
  rw [List.length_cons] at l1
  obtain ⟨nm, np⟩ := noM_P p hp []
  rw [List.append_nil] at nm
  have hn : ¬ eS T i = 5 := by
    match p, hp, r1 with
    | .inl n, hp, r1 => have := eS_name (T := T) (x := i) (by rw [(seg_hd r1).1]; exact hp); omega
    | .inr (rr, e), hp, r1 => have := (eS_row (T := T) (x := i) (by rw [(seg_hd r1).1]; exact hp.1)).1; omega
  generalize hq : i + ((kP p).length : Int) = q at *
  have hqi : i < q := by omega
  obtain ⟨x1, x2, x3, x4, x5, _⟩ := (RT_em (P := P) h).ix h0 (show i < len by omega)
  have wq : w32 (q + 1) = q + 1 := w32_id (by omega) (by omega)
  obtain ⟨_, y2, y3, y4, _, y6⟩ := (RT_em (P := P) h).ix (show 0 ≤ q by omega) (show q < len by omega)
  rw [hv] at y6
  have B1 := fun D Q => s_M_behindP (L := L) (d := D) (f := f) (t := t) (Q := Q) (RT_em (P := P) h) p hp h0 (show q < len by omega) r1
  have C1 := fun D Q => s_M_copies (L := L) (d := D) (f := f) (t := t) (Q := Q) (P := P) h (show q ≤ len by omega) h0 r1 (by omega)
  rw [pqL_h (y := 0) nm] at C1
  obtain ⟨P1, e1⟩ : ∃ P1, P1 = P ++ pqL 0 (kP p) := ⟨_, rfl⟩
  rw [← e1] at C1
  have n1' : P1.length = P.length + (kP p).length := by rw [e1, List.length_append, pqL_len]
  have C2 := fun D Q => s_M_copies (L := L) (d := D) (f := f) (t := t) (Q := Q) (P := P1 ++ [(6, whc (undo o))]) h hj (show 0 ≤ q + 1 by omega) r3 (by rw [List.length_append, List.length_singleton]; omega)
  have hu : 122 < undo o ∧ eSl (lstD 0 (kP p)) (undo o) = 6 := by
    have hs6 : ∀ v : Int, 128 ≤ v ∧ v ≤ 133 → eSl (lstD 0 (kP p)) v = 6 := fun v hv => by
      unfold eSl; rw [if_neg (by omega)]; unfold srt kName kRow kStk; simp; omega
    have : 128 ≤ undo o ∧ undo o ≤ 133 := by unfold undo; split <;> omega
    exact ⟨by omega, hs6 _ this⟩
  have hfin : P1 ++ [(6, whc (undo o))] ++ pqL (T (q + 1 - 1)) m = P ++ pqL 0 (kP p ++ undo o :: m) := by
    rw [show q + 1 - 1 = q by omega, hv, pqL_app, e1, pqL_e (kEnd_hi (show 122 < o by omega)) (kEnd_hi hu.1)]
    show _ = P ++ (pqL 0 (kP p) ++ (eSl (lstD 0 (kP p)) (undo o), whc (undo o)) :: pqL (undo o) m)
    rw [hu.2]; simp
  rw [hfin] at C2
  have E1 := fun D Q => s_M_emM (L := L) (d := D) (f := f) (t := t) (g := g) (Q := Q) (P := P1) (x := 6) (y := whc (undo o)) (by omega)
  have z3 := y3
  have z4 := y4
  have hoo : o = 128 ∨ o = 129 ∨ o = 130 ∨ o = 131 ∨ o = 132 ∨ o = 133 := by omega
  have k0 : whc (undo 128) = 1 := by decide
  have k1 : whc (undo 129) = 0 := by decide
  have k2 : whc (undo 130) = 5 := by decide
  have k3 : whc (undo 131) = 4 := by decide
  have k4 : whc (undo 132) = 2 := by decide
  have k5 : whc (undo 133) = 3 := by decide
  have j0 : whc 128 = 0 := by decide
  have j1 : whc 129 = 1 := by decide
  have j2 : whc 130 = 4 := by decide
  have j3 : whc 131 = 5 := by decide
  have j4 : whc 132 = 2 := by decide
  have j5 : whc 133 = 3 := by decide
  rcases hoo with rfl | rfl | rfl | rfl | rfl | rfl
  · rw [j0] at y6
    rw [k0] at E1 C2
    simp only [u_M_mirrorStep_0, u_M_mirrorStep_1, u_M_mirrorStep_4, u_M_mirrorStep_7, u_M_mirrorStep_8, u_M_mirrorStep_9, u_M_mirrorStep_10, u_M_mirrorStep_11, u_M_mirrorStep_12, u_M_mirrorStep_13, u_M_mirrorStep_16, u_M_mirrorStep_17, u_M_mirrorStep_18, u_M_mirrorStep_19, u_M_mirrorStep_22, u_M_mirrorStep_24, u_M_mirrorStep_25, u_M_mirrorStep_28, u_M_mirrorStep_31, u_M_mirrorStep_32, u_M_mirrorStep_33, u_M_mirrorStep_35, u_M_mirrorStep_36, u_M_mirrorStep_37, u_M_mirrorStep_39, u_M_mirrorStep_40, u_M_mirrorStep_41, u_M_mirrorStep_42, u_M_mirrorStep_44, u_M_mirrorStep_47, u_M_mirrorStep_48, u_M_mirrorStep_50, u_M_mirrorStep_52, u_M_mirrorStep_55, u_M_mirrorStep_56, u_M_mirrorStep_59, u_M_mirrorStep_61, u_M_mirrorStep_62, u_M_mirrorStep_65, u_M_mirrorStep_66, u_M_mirrorStep_69, u_M_mirrorStep_71, u_M_mirrorStep_72, u_M_mirrorStep_75, u_M_mirrorStep_76, u_M_mirrorStep_79, u_M_mirrorStep_81, u_M_mirrorStep_82, u_M_mirrorStep_85, u_M_mirrorStep_86, u_M_mirrorStep_89, u_M_mirrorStep_91, u_M_mirrorStep_94, u_M_mirrorStep_95, u_M_mirrorStep_96, u_M_mirrorStep_98, u_M_mirrorStep_99, u_M_mirrorStep_100, u_M_mirrorStep_101, u_M_mirrorStep_104, h1_156, gt_156_25, gt_156_26, h1_164, h2_164, gt_164, pt_164, h1_165, h2_165, gt_165, pt_165, ne_eq, not_false_eq_true, not_true_eq_false, true_and, and_true, true_or, or_true, eq_self, Option.toList_some, Option.toList_none, List.cons_append, List.nil_append, tc_0, tc_I, tc_L, tc_A, Nat.reduceAdd, Nat.reduceLeDiff, Nat.reduceEqDiff, Int.reduceEq, Int.reduceLT, Int.reduceLE, Int.reduceNeg, Int.reduceToNat, Int.cast_ofNat_Int, if_true, if_false, and_self, or_self, ite_self, bI_0, bI_1, bI_01, Bool.false_eq_true, reduceCtorEq, x1, x2, x3, x4, x5, hn, B1, y2, y3, y4, y6, C1, Int.reduceEq, E1, wq, C2]
  · rw [j1] at y6
    rw [k1] at E1 C2
    simp only [u_M_mirrorStep_0, u_M_mirrorStep_1, u_M_mirrorStep_4, u_M_mirrorStep_7, u_M_mirrorStep_8, u_M_mirrorStep_9, u_M_mirrorStep_10, u_M_mirrorStep_11, u_M_mirrorStep_12, u_M_mirrorStep_13, u_M_mirrorStep_16, u_M_mirrorStep_17, u_M_mirrorStep_18, u_M_mirrorStep_19, u_M_mirrorStep_22, u_M_mirrorStep_24, u_M_mirrorStep_25, u_M_mirrorStep_28, u_M_mirrorStep_31, u_M_mirrorStep_32, u_M_mirrorStep_33, u_M_mirrorStep_35, u_M_mirrorStep_36, u_M_mirrorStep_37, u_M_mirrorStep_39, u_M_mirrorStep_40, u_M_mirrorStep_41, u_M_mirrorStep_42, u_M_mirrorStep_44, u_M_mirrorStep_47, u_M_mirrorStep_48, u_M_mirrorStep_50, u_M_mirrorStep_52, u_M_mirrorStep_55, u_M_mirrorStep_56, u_M_mirrorStep_59, u_M_mirrorStep_61, u_M_mirrorStep_62, u_M_mirrorStep_65, u_M_mirrorStep_66, u_M_mirrorStep_69, u_M_mirrorStep_71, u_M_mirrorStep_72, u_M_mirrorStep_75, u_M_mirrorStep_76, u_M_mirrorStep_79, u_M_mirrorStep_81, u_M_mirrorStep_82, u_M_mirrorStep_85, u_M_mirrorStep_86, u_M_mirrorStep_89, u_M_mirrorStep_91, u_M_mirrorStep_94, u_M_mirrorStep_95, u_M_mirrorStep_96, u_M_mirrorStep_98, u_M_mirrorStep_99, u_M_mirrorStep_100, u_M_mirrorStep_101, u_M_mirrorStep_104, h1_156, gt_156_25, gt_156_26, h1_164, h2_164, gt_164, pt_164, h1_165, h2_165, gt_165, pt_165, ne_eq, not_false_eq_true, not_true_eq_false, true_and, and_true, true_or, or_true, eq_self, Option.toList_some, Option.toList_none, List.cons_append, List.nil_append, tc_0, tc_I, tc_L, tc_A, Nat.reduceAdd, Nat.reduceLeDiff, Nat.reduceEqDiff, Int.reduceEq, Int.reduceLT, Int.reduceLE, Int.reduceNeg, Int.reduceToNat, Int.cast_ofNat_Int, if_true, if_false, and_self, or_self, ite_self, bI_0, bI_1, bI_01, Bool.false_eq_true, reduceCtorEq, x1, x2, x3, x4, x5, hn, B1, y2, y3, y4, y6, C1, Int.reduceEq, E1, wq, C2]
  · rw [j2] at y6
    rw [k2] at E1 C2
    simp only [u_M_mirrorStep_0, u_M_mirrorStep_1, u_M_mirrorStep_4, u_M_mirrorStep_7, u_M_mirrorStep_8, u_M_mirrorStep_9, u_M_mirrorStep_10, u_M_mirrorStep_11, u_M_mirrorStep_12, u_M_mirrorStep_13, u_M_mirrorStep_16, u_M_mirrorStep_17, u_M_mirrorStep_18, u_M_mirrorStep_19, u_M_mirrorStep_22, u_M_mirrorStep_24, u_M_mirrorStep_25, u_M_mirrorStep_28, u_M_mirrorStep_31, u_M_mirrorStep_32, u_M_mirrorStep_33, u_M_mirrorStep_35, u_M_mirrorStep_36, u_M_mirrorStep_37, u_M_mirrorStep_39, u_M_mirrorStep_40, u_M_mirrorStep_41, u_M_mirrorStep_42, u_M_mirrorStep_44, u_M_mirrorStep_47, u_M_mirrorStep_48, u_M_mirrorStep_50, u_M_mirrorStep_52, u_M_mirrorStep_55, u_M_mirrorStep_56, u_M_mirrorStep_59, u_M_mirrorStep_61, u_M_mirrorStep_62, u_M_mirrorStep_65, u_M_mirrorStep_66, u_M_mirrorStep_69, u_M_mirrorStep_71, u_M_mirrorStep_72, u_M_mirrorStep_75, u_M_mirrorStep_76, u_M_mirrorStep_79, u_M_mirrorStep_81, u_M_mirrorStep_82, u_M_mirrorStep_85, u_M_mirrorStep_86, u_M_mirrorStep_89, u_M_mirrorStep_91, u_M_mirrorStep_94, u_M_mirrorStep_95, u_M_mirrorStep_96, u_M_mirrorStep_98, u_M_mirrorStep_99, u_M_mirrorStep_100, u_M_mirrorStep_101, u_M_mirrorStep_104, h1_156, gt_156_25, gt_156_26, h1_164, h2_164, gt_164, pt_164, h1_165, h2_165, gt_165, pt_165, ne_eq, not_false_eq_true, not_true_eq_false, true_and, and_true, true_or, or_true, eq_self, Option.toList_some, Option.toList_none, List.cons_append, List.nil_append, tc_0, tc_I, tc_L, tc_A, Nat.reduceAdd, Nat.reduceLeDiff, Nat.reduceEqDiff, Int.reduceEq, Int.reduceLT, Int.reduceLE, Int.reduceNeg, Int.reduceToNat, Int.cast_ofNat_Int, if_true, if_false, and_self, or_self, ite_self, bI_0, bI_1, bI_01, Bool.false_eq_true, reduceCtorEq, x1, x2, x3, x4, x5, hn, B1, y2, y3, y4, y6, C1, Int.reduceEq, E1, wq, C2]
  · rw [j3] at y6
    rw [k3] at E1 C2
    simp only [u_M_mirrorStep_0, u_M_mirrorStep_1, u_M_mirrorStep_4, u_M_mirrorStep_7, u_M_mirrorStep_8, u_M_mirrorStep_9, u_M_mirrorStep_10, u_M_mirrorStep_11, u_M_mirrorStep_12, u_M_mirrorStep_13, u_M_mirrorStep_16, u_M_mirrorStep_17, u_M_mirrorStep_18, u_M_mirrorStep_19, u_M_mirrorStep_22, u_M_mirrorStep_24, u_M_mirrorStep_25, u_M_mirrorStep_28, u_M_mirrorStep_31, u_M_mirrorStep_32, u_M_mirrorStep_33, u_M_mirrorStep_35, u_M_mirrorStep_36, u_M_mirrorStep_37, u_M_mirrorStep_39, u_M_mirrorStep_40, u_M_mirrorStep_41, u_M_mirrorStep_42, u_M_mirrorStep_44, u_M_mirrorStep_47, u_M_mirrorStep_48, u_M_mirrorStep_50, u_M_mirrorStep_52, u_M_mirrorStep_55, u_M_mirrorStep_56, u_M_mirrorStep_59, u_M_mirrorStep_61, u_M_mirrorStep_62, u_M_mirrorStep_65, u_M_mirrorStep_66, u_M_mirrorStep_69, u_M_mirrorStep_71, u_M_mirrorStep_72, u_M_mirrorStep_75, u_M_mirrorStep_76, u_M_mirrorStep_79, u_M_mirrorStep_81, u_M_mirrorStep_82, u_M_mirrorStep_85, u_M_mirrorStep_86, u_M_mirrorStep_89, u_M_mirrorStep_91, u_M_mirrorStep_94, u_M_mirrorStep_95, u_M_mirrorStep_96, u_M_mirrorStep_98, u_M_mirrorStep_99, u_M_mirrorStep_100, u_M_mirrorStep_101, u_M_mirrorStep_104, h1_156, gt_156_25, gt_156_26, h1_164, h2_164, gt_164, pt_164, h1_165, h2_165, gt_165, pt_165, ne_eq, not_false_eq_true, not_true_eq_false, true_and, and_true, true_or, or_true, eq_self, Option.toList_some, Option.toList_none, List.cons_append, List.nil_append, tc_0, tc_I, tc_L, tc_A, Nat.reduceAdd, Nat.reduceLeDiff, Nat.reduceEqDiff, Int.reduceEq, Int.reduceLT, Int.reduceLE, Int.reduceNeg, Int.reduceToNat, Int.cast_ofNat_Int, if_true, if_false, and_self, or_self, ite_self, bI_0, bI_1, bI_01, Bool.false_eq_true, reduceCtorEq, x1, x2, x3, x4, x5, hn, B1, y2, y3, y4, y6, C1, Int.reduceEq, E1, wq, C2]
  · rw [j4] at y6
    rw [k4] at E1 C2
    simp only [u_M_mirrorStep_0, u_M_mirrorStep_1, u_M_mirrorStep_4, u_M_mirrorStep_7, u_M_mirrorStep_8, u_M_mirrorStep_9, u_M_mirrorStep_10, u_M_mirrorStep_11, u_M_mirrorStep_12, u_M_mirrorStep_13, u_M_mirrorStep_16, u_M_mirrorStep_17, u_M_mirrorStep_18, u_M_mirrorStep_19, u_M_mirrorStep_22, u_M_mirrorStep_24, u_M_mirrorStep_25, u_M_mirrorStep_28, u_M_mirrorStep_31, u_M_mirrorStep_32, u_M_mirrorStep_33, u_M_mirrorStep_35, u_M_mirrorStep_36, u_M_mirrorStep_37, u_M_mirrorStep_39, u_M_mirrorStep_40, u_M_mirrorStep_41, u_M_mirrorStep_42, u_M_mirrorStep_44, u_M_mirrorStep_47, u_M_mirrorStep_48, u_M_mirrorStep_50, u_M_mirrorStep_52, u_M_mirrorStep_55, u_M_mirrorStep_56, u_M_mirrorStep_59, u_M_mirrorStep_61, u_M_mirrorStep_62, u_M_mirrorStep_65, u_M_mirrorStep_66, u_M_mirrorStep_69, u_M_mirrorStep_71, u_M_mirrorStep_72, u_M_mirrorStep_75, u_M_mirrorStep_76, u_M_mirrorStep_79, u_M_mirrorStep_81, u_M_mirrorStep_82, u_M_mirrorStep_85, u_M_mirrorStep_86, u_M_mirrorStep_89, u_M_mirrorStep_91, u_M_mirrorStep_94, u_M_mirrorStep_95, u_M_mirrorStep_96, u_M_mirrorStep_98, u_M_mirrorStep_99, u_M_mirrorStep_100, u_M_mirrorStep_101, u_M_mirrorStep_104, h1_156, gt_156_25, gt_156_26, h1_164, h2_164, gt_164, pt_164, h1_165, h2_165, gt_165, pt_165, ne_eq, not_false_eq_true, not_true_eq_false, true_and, and_true, true_or, or_true, eq_self, Option.toList_some, Option.toList_none, List.cons_append, List.nil_append, tc_0, tc_I, tc_L, tc_A, Nat.reduceAdd, Nat.reduceLeDiff, Nat.reduceEqDiff, Int.reduceEq, Int.reduceLT, Int.reduceLE, Int.reduceNeg, Int.reduceToNat, Int.cast_ofNat_Int, if_true, if_false, and_self, or_self, ite_self, bI_0, bI_1, bI_01, Bool.false_eq_true, reduceCtorEq, x1, x2, x3, x4, x5, hn, B1, y2, y3, y4, y6, C1, Int.reduceEq, E1, wq, C2]
  · rw [j5] at y6
    rw [k5] at E1 C2
    simp only [u_M_mirrorStep_0, u_M_mirrorStep_1, u_M_mirrorStep_4, u_M_mirrorStep_7, u_M_mirrorStep_8, u_M_mirrorStep_9, u_M_mirrorStep_10, u_M_mirrorStep_11, u_M_mirrorStep_12, u_M_mirrorStep_13, u_M_mirrorStep_16, u_M_mirrorStep_17, u_M_mirrorStep_18, u_M_mirrorStep_19, u_M_mirrorStep_22, u_M_mirrorStep_24, u_M_mirrorStep_25, u_M_mirrorStep_28, u_M_mirrorStep_31, u_M_mirrorStep_32, u_M_mirrorStep_33, u_M_mirrorStep_35, u_M_mirrorStep_36, u_M_mirrorStep_37, u_M_mirrorStep_39, u_M_mirrorStep_40, u_M_mirrorStep_41, u_M_mirrorStep_42, u_M_mirrorStep_44, u_M_mirrorStep_47, u_M_mirrorStep_48, u_M_mirrorStep_50, u_M_mirrorStep_52, u_M_mirrorStep_55, u_M_mirrorStep_56, u_M_mirrorStep_59, u_M_mirrorStep_61, u_M_mirrorStep_62, u_M_mirrorStep_65, u_M_mirrorStep_66, u_M_mirrorStep_69, u_M_mirrorStep_71, u_M_mirrorStep_72, u_M_mirrorStep_75, u_M_mirrorStep_76, u_M_mirrorStep_79, u_M_mirrorStep_81, u_M_mirrorStep_82, u_M_mirrorStep_85, u_M_mirrorStep_86, u_M_mirrorStep_89, u_M_mirrorStep_91, u_M_mirrorStep_94, u_M_mirrorStep_95, u_M_mirrorStep_96, u_M_mirrorStep_98, u_M_mirrorStep_99, u_M_mirrorStep_100, u_M_mirrorStep_101, u_M_mirrorStep_104, h1_156, gt_156_25, gt_156_26, h1_164, h2_164, gt_164, pt_164, h1_165, h2_165, gt_165, pt_165, ne_eq, not_false_eq_true, not_true_eq_false, true_and, and_true, true_or, or_true, eq_self, Option.toList_some, Option.toList_none, List.cons_append, List.nil_append, tc_0, tc_I, tc_L, tc_A, Nat.reduceAdd, Nat.reduceLeDiff, Nat.reduceEqDiff, Int.reduceEq, Int.reduceLT, Int.reduceLE, Int.reduceNeg, Int.reduceToNat, Int.cast_ofNat_Int, if_true, if_false, and_self, or_self, ite_self, bI_0, bI_1, bI_01, Bool.false_eq_true, reduceCtorEq, x1, x2, x3, x4, x5, hn, B1, y2, y3, y4, y6, C1, Int.reduceEq, E1, wq, C2]
theorem s_M_mS (h : RT g r T len) (s : SS c) (hw : wS false s) (h0 : 0 ≤ i) (hj : j ≤ len) (hs : seg T i j (kS s)) (hlen : P.length + (kS s).length ≤ 1600) : VV L (d + 2) m_M_mirrorStep 0 [some (tA 156), some (tI r), some (tI i), some (tI j), none, none, none, none] [] (WW f t (emM g P)) Q = Q none (WW f t (emM g (P ++ pqL 0 (kS (mS s))))) := by
  match s, hw, hs, hlen with
  | .inl (k, n, e), hw, hs, hlen =>
    have hk : k = 200 ∨ k = 201 := by have := hw.1; simpa using this
    simp only [kS, List.length_cons] at hlen
    exact s_M_mKey h (by omega) h0 hj hs (by simp only [List.length_cons]; omega)
  | .inr (.inl (p, o, e)), hw, hs, hlen =>
    have ho := hw.2.2.1
    simp only [kS, List.length_append, List.length_cons] at hlen
    exact s_M_mPair p hw.2.1 h (by omega) h0 hj hs (by simp only [List.length_append, List.length_cons]; omega)
  | .inr (.inr (.inl (p, q))), hw, hs, hlen =>
    simp only [kS, List.length_append, List.length_cons] at hlen
    have e133 : undo 133 = 133 := by decide
    have := s_M_mPair (L := L) (d := d) (f := f) (t := t) (Q := Q) (P := P) p hw.2.1 h (o := 133) (by omega) h0 hj hs (by simp only [List.length_append, List.length_cons]; omega)
    rw [e133] at this
    exact this
  | .inr (.inr (.inr (.inl (k, n, s)))), hw, hs, hlen =>
    have hk := hw.2.1
    simp only [kS, List.length_cons] at hlen
    exact s_M_mKey h (by omega) h0 hj hs (by simp only [List.length_cons]; omega)
  | .inr (.inr (.inr (.inr (.inl (k, rr, dd, e))))), hw, hs, hlen =>
    have hk := hw.2.1
    simp only [kS, List.length_cons] at hlen
    exact s_M_mKey h (by omega) h0 hj hs (by simp only [List.length_cons]; omega)
  | .inr (.inr (.inr (.inr (.inr (k, n))))), hw, hs, hlen =>
    have hk := hw.2.1
    simp only [kS, List.length_cons] at hlen
    exact s_M_mKey h (by omega) h0 hj hs (by simp only [List.length_cons]; omega)
end
