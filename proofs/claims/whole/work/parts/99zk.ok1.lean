/-! Which tokens stand in a text; same -/
def okT (x : Int) : Prop := (-1000000000 ≤ x ∧ x < 0) ∨ (97 ≤ x ∧ x ≤ 122) ∨ (65 ≤ x ∧ x ≤ 70) ∨ (83 ≤ x ∧ x ≤ 86) ∨ (128 ≤ x ∧ x ≤ 133) ∨ (200 ≤ x ∧ x ≤ 221) ∨ x = 35 ∨ x = 37 ∨ x = 38 ∨ x = 40 ∨ x = 41 ∨ x = 42 ∨ x = 43 ∨ x = 45 ∨ x = 47 ∨ x = 59 ∨ x = 60 ∨ x = 61 ∨ x = 91 ∨ x = 93 ∨ x = 94 ∨ x = 123 ∨ x = 124 ∨ x = 125
theorem ok_n {x : Int} (h : kName x = true) : okT x := by unfold kName at h; simp only [decide_eq_true_eq] at h; unfold okT; omega
theorem ok_r {x : Int} (h : kRow x = true) : okT x := by unfold kRow at h; simp only [decide_eq_true_eq] at h; unfold okT; omega
theorem ok_st {x : Int} (h : kStk x = true) : okT x := by unfold kStk at h; simp only [decide_eq_true_eq] at h; unfold okT; omega
theorem ok_k {x : Int} (h : kKind x = true) : okT x := by unfold kKind at h; simp only [decide_eq_true_eq] at h; unfold okT; omega
theorem ok_su {x : Int} (h : kSum x = true) : okT x := by unfold kSum at h; simp only [decide_eq_true_eq] at h; unfold okT; omega
theorem ok_pr {x : Int} (h : kPro x = true) : okT x := by unfold kPro at h; simp only [decide_eq_true_eq] at h; unfold okT; omega
def alT (l : List Int) : Prop := ∀ v ∈ l, okT v
theorem al_n : alT [] := fun v h => absurd h (by simp)
theorem al_c {v : Int} {l : List Int} (h : okT v) (hl : alT l) : alT (v :: l) := by
  intro u hu
  rcases List.mem_cons.mp hu with rfl | hu
  · exact h
  · exact hl u hu
theorem al_a {l m : List Int} (h : alT l) (hm : alT m) : alT (l ++ m) := by
  intro u hu
  rcases List.mem_append.mp hu with hu | hu
  · exact h u hu
  · exact hm u hu
theorem al_f {α : Type} {l : List α} {k : α → List Int} (h : ∀ s ∈ l, alT (k s)) : alT (l.flatMap k) := by
  intro v hv
  obtain ⟨p, hp, hv⟩ := List.mem_flatMap.mp hv
  exact h p hp v hv
theorem al_1 {v : Int} (h : okT v) : alT [v] := al_c h al_n
theorem ok_q {v : Int} (h : 200 ≤ v ∧ v ≤ 221) : okT v := by unfold okT; omega
theorem kL_a (x : Int ⊕ Int) (h : wL x) : alT (kL x) := by
  match x with
  | .inl t =>
    refine al_1 ?_
    rcases h with h | h
    · exact Or.inl h
    · exact ok_n h
  | .inr r => exact al_c (by unfold okT; omega) (al_1 (ok_r h))
theorem kT_a {F : Type} {kf : F → List Int} {wf : F → Prop} (hf : ∀ x, wf x → alT (kf x)) (x : Ter F) (h : wT wf x) : alT (kT kf x) :=
  al_a (hf _ h.1) (al_f (fun p hp => al_c (ok_pr (h.2 p hp).1) (hf _ (h.2 p hp).2)))
theorem kE_a {F : Type} {kf : F → List Int} {wf : F → Prop} (hf : ∀ x, wf x → alT (kf x)) (x : Exq F) (h : wE wf x) : alT (kE kf x) :=
  al_a (kT_a hf _ h.1) (al_f (fun p hp => al_c (ok_su (h.2 p hp).1) (kT_a hf _ (h.2 p hp).2)))
theorem ok_35 : okT 35 := by unfold okT; omega
theorem ok_45 : okT 45 := by unfold okT; omega
theorem ok_91 : okT 91 := by unfold okT; omega
theorem ok_93 : okT 93 := by unfold okT; omega
theorem ok_40 : okT 40 := by unfold okT; omega
theorem ok_41 : okT 41 := by unfold okT; omega
theorem ok_59 : okT 59 := by unfold okT; omega
theorem ok_61 : okT 61 := by unfold okT; omega
theorem ok_123 : okT 123 := by unfold okT; omega
theorem ok_125 : okT 125 := by unfold okT; omega
theorem kF_a : ∀ (b : Nat) (x : FF b), wF b x → alT (kF b x) := by
  intro b
  induction b with
  | zero => intro x h; exact kL_a x h
  | succ b ih =>
    intro x h
    match x with
    | .inl x => exact kL_a x h
    | .inr (.inl x) => exact al_c ok_45 (ih x h)
    | .inr (.inr (.inl (r, e))) => exact al_c (ok_r h.1) (al_c ok_91 (al_a (kE_a ih e h.2) (al_1 ok_93)))
    | .inr (.inr (.inr (.inl e))) => exact al_c ok_40 (al_a (kE_a ih e h) (al_1 ok_41))
    | .inr (.inr (.inr (.inr (c, e1, e2)))) =>
      have hc : okT c := by have := h.1; unfold okT; omega
      exact al_c ok_40 (al_a (kE_a ih e1 h.2.1) (al_c hc (al_a (kE_a ih e2 h.2.2) (al_1 ok_41))))
theorem kX_a {c : Nat} (x : EE c) (h : wX x) : alT (kX x) := kE_a (kF_a c) x h
theorem kP_a {c : Nat} (x : PP c) (h : wP x) : alT (kP x) := by
  match x with
  | .inl n => exact al_1 (ok_n h)
  | .inr (r, e) => exact al_c (ok_r h.1) (al_c ok_91 (al_a (kX_a e h.2) (al_1 ok_93)))
theorem kS_a {c : Nat} {o : Bool} (s : SS c) (h : wS o s) : alT (kS s) := by
  match s with
  | .inl (k, n, e) =>
    have hk : okT k := by
      have := h.1
      refine ok_q ?_
      cases o <;> simp at this <;> omega
    exact al_c hk (al_c (ok_n h.2.1) (al_c ok_61 (al_a (kX_a e h.2.2) (al_1 ok_59))))
  | .inr (.inl (p, op, e)) =>
    have ho : okT op := by have := h.2.2.1; unfold okT; omega
    exact al_a (kP_a p h.2.1) (al_c ho (al_a (kX_a e h.2.2.2) (al_1 ok_59)))
  | .inr (.inr (.inl (p, q))) => exact al_a (kP_a p h.2.1) (al_c (by unfold okT; omega) (al_a (kP_a q h.2.2) (al_1 ok_59)))
  | .inr (.inr (.inr (.inl (k, n, s)))) =>
    have hk : okT k := by have := h.2.1; exact ok_q (by omega)
    exact al_c hk (al_c (ok_n h.2.2.1) (al_c (ok_st h.2.2.2) (al_1 ok_59)))
  | .inr (.inr (.inr (.inr (.inl (k, r, d, e))))) =>
    have hk : okT k := by have := h.2.1; exact ok_q (by omega)
    exact al_c hk (al_c (ok_r h.2.2.1) (al_c (ok_k h.2.2.2.1) (al_a (kX_a e h.2.2.2.2) (al_1 ok_59))))
  | .inr (.inr (.inr (.inr (.inr (k, n))))) =>
    have hk : okT k := by have := h.2.1; exact ok_q (by omega)
    have hn : okT n := by have := h.2.2; unfold okT; omega
    exact al_c hk (al_c hn (al_1 ok_59))
theorem kC_a {c : Nat} {T : Type} {o : Bool} {kb : T → List Int} {wb : T → Prop} (hb : ∀ x, wb x → alT (kb x)) (s : CC c T) (h : wC o wb s) : alT (kC kb s) := by
  match s with
  | .inl (k, e, a, b, e2) =>
    have hk : okT k := by have := h.2.1; exact ok_q (by omega)
    have h1 : okT (if k = 208 then 209 else 212) := by split <;> exact ok_q (by omega)
    have h2 : okT (if k = 208 then 210 else 213) := by split <;> exact ok_q (by omega)
    exact al_c hk (al_a (kX_a e h.2.2.1) (al_c ok_123 (al_a (hb a h.2.2.2.1) (al_c ok_125 (al_c h1 (al_c ok_123 (al_a (hb b h.2.2.2.2.1) (al_c ok_125 (al_c h2 (al_a (kX_a e2 h.2.2.2.2.2) (al_1 ok_59)))))))))))
  | .inr (.inl (e, a, b)) => exact al_c (ok_q (by omega)) (al_a (kX_a e h.2.1) (al_c ok_123 (al_a (hb a h.2.2.1) (al_c ok_125 (al_c (ok_q (by omega)) (al_c ok_123 (al_a (hb b h.2.2.2) (al_c ok_125 (al_1 ok_59)))))))))
  | .inr (.inr (e, a)) => exact al_c (ok_q (by omega)) (al_a (kX_a e h.2.1) (al_c ok_123 (al_a (hb a h.2.2) (al_c ok_125 (al_1 ok_59)))))
theorem kB_a {c : Nat} {o : Bool} : ∀ (b : Nat) (x : TB c b), wB o b x → alT (kB b x) := by
  intro b
  induction b with
  | zero => intro x; exact nomatch x
  | succ b ih =>
    intro x h
    refine al_f (fun s hs => ?_)
    have hw := h s hs
    match s, hw with
    | .inl s, hw => exact kS_a s hw
    | .inr s, hw => exact kC_a ih s hw
theorem tk_ok {T : Int → Int} {i j : Int} {l : List Int} (h : seg T i j l) (hl : alT l) {k : Int} (h0 : i ≤ k) (h1 : k < j) : okT (T k) := by
  have hg : ∀ (m : Nat) (i : Int) (q : Nat), q < m → T (i + q) ∈ tks T i m := by
    intro m
    induction m with
    | zero => intro i q h; omega
    | succ m ih =>
      intro i q hq
      rw [tks]
      cases q with
      | zero => simp
      | succ q =>
        refine List.mem_cons_of_mem _ ?_
        have := ih (i + 1) q (by omega)
        rw [show i + ((q + 1 : Nat) : Int) = i + 1 + q by omega]
        exact this
  have := hg (j - i).toNat i (k - i).toNat (by omega)
  rw [← h.2, show i + (((k - i).toNat : Nat) : Int) = k by omega] at this
  exact hl _ this
theorem TCo_ok {c : Nat} {t : Mem} {a : Nat} {o : Bool} {x : TB c 6} (h : TCo t a o x) {k : Int} (h0 : 0 ≤ k) (h1 : k < t a 1) : okT (tok t a k) := tk_ok h.sg (kB_a 6 x h.w) h0 h1
/-- sort and which of a token -/
def sgT (x : Int) : Prop := x = 35 ∨ x = 37 ∨ x = 38 ∨ x = 40 ∨ x = 41 ∨ x = 42 ∨ x = 43 ∨ x = 45 ∨ x = 47 ∨ x = 59 ∨ x = 60 ∨ x = 61 ∨ x = 91 ∨ x = 93 ∨ x = 94 ∨ x = 123 ∨ x = 124 ∨ x = 125
theorem cls {x : Int} (hx : okT x) : ((-1000000000 ≤ x ∧ x < 0) ∧ srt x = 2 ∧ whc x = -1 - x) ∨ ((97 ≤ x ∧ x ≤ 122) ∧ srt x = 1 ∧ whc x = x - 97) ∨ ((65 ≤ x ∧ x ≤ 70) ∧ srt x = 3 ∧ whc x = x - 65) ∨ ((83 ≤ x ∧ x ≤ 86) ∧ srt x = 4 ∧ whc x = x - 83) ∨ ((200 ≤ x ∧ x ≤ 221) ∧ srt x = 5 ∧ whc x = x - 200) ∨ (srt x = 6 ∧ ((x = 128 ∧ whc x = 0) ∨ (x = 129 ∧ whc x = 1) ∨ (x = 130 ∧ whc x = 4) ∨ (x = 131 ∧ whc x = 5) ∨ (x = 132 ∧ whc x = 2) ∨ (x = 133 ∧ whc x = 3))) ∨ (sgT x ∧ srt x = 7 ∧ whc x = x) := by
  unfold okT at hx
  rcases hx with h | h | h | h | h | h | h
  · left; exact ⟨h, srt_num h.2⟩
  · right; left; exact ⟨h, srt_name (by unfold kName; simp only [decide_eq_true_eq]; exact h)⟩
  · right; right; left
    have e1 : kName x = false := by unfold kName; simp; omega
    have e2 : kRow x = true := by unfold kRow; simp; omega
    refine ⟨h, ?_, ?_⟩
    · unfold srt; rw [if_neg (by omega), e1, if_neg (by decide), if_pos e2]
    · unfold whc; rw [if_neg (by omega), e1, if_neg (by decide), if_pos e2]
  · right; right; right; left
    have e1 : kName x = false := by unfold kName; simp; omega
    have e2 : kRow x = false := by unfold kRow; simp; omega
    have e3 : kStk x = true := by unfold kStk; simp; omega
    refine ⟨h, ?_, ?_⟩
    · unfold srt; rw [if_neg (by omega), e1, if_neg (by decide), e2, if_neg (by decide), if_pos e3]
    · unfold whc; rw [if_neg (by omega), e1, if_neg (by decide), e2, if_neg (by decide), if_pos e3]
  · right; right; right; right; right; left
    have : x = 128 ∨ x = 129 ∨ x = 130 ∨ x = 131 ∨ x = 132 ∨ x = 133 := by omega
    rcases this with rfl | rfl | rfl | rfl | rfl | rfl <;> decide
  · right; right; right; right; left
    have e1 : kName x = false := by unfold kName; simp; omega
    have e2 : kRow x = false := by unfold kRow; simp; omega
    have e3 : kStk x = false := by unfold kStk; simp; omega
    refine ⟨h, ?_, ?_⟩
    · unfold srt; rw [if_neg (by omega), e1, if_neg (by decide), e2, if_neg (by decide), e3, if_neg (by decide), if_pos h]
    · unfold whc; rw [if_neg (by omega), e1, if_neg (by decide), e2, if_neg (by decide), e3, if_neg (by decide), if_pos h]
  · right; right; right; right; right; right
    refine ⟨h, ?_⟩
    rcases h with rfl | rfl | rfl | rfl | rfl | rfl | rfl | rfl | rfl | rfl | rfl | rfl | rfl | rfl | rfl | rfl | rfl | rfl <;> decide
theorem srt_inj {x y : Int} (hx : okT x) (hy : okT y) (h1 : srt x = srt y) (h2 : whc x = whc y) : x = y := by
  rcases cls hx with a | a | a | a | a | a | a <;> rcases cls hy with b | b | b | b | b | b | b <;> omega
theorem srt_8 {x : Int} (hx : okT x) : ¬ srt x = 8 := by
  rcases cls hx with a | a | a | a | a | a | a <;> omega
theorem eS_inj {T T' : Int → Int} {k : Int} (hx : okT (T k)) (hy : okT (T' k)) (h1 : eS T k = eS T' k) (h2 : whc (T k) = whc (T' k)) : T k = T' k := by
  unfold eS at h1
  by_cases a : T k = 45 ∧ ¬ kEnd (T (k - 1)) = true
  · by_cases b : T' k = 45 ∧ ¬ kEnd (T' (k - 1)) = true
    · rw [a.1, b.1]
    · rw [if_pos a, if_neg b] at h1; exact absurd h1.symm (srt_8 hy)
  · by_cases b : T' k = 45 ∧ ¬ kEnd (T' (k - 1)) = true
    · rw [if_neg a, if_pos b] at h1; exact absurd h1 (srt_8 hx)
    · rw [if_neg a, if_neg b] at h1; exact srt_inj hx hy h1 h2
theorem eS_eq {T T' : Int → Int} {k : Int} (h : T k = T' k) (hp : T (k - 1) = T' (k - 1)) : eS T k = eS T' k ∧ whc (T k) = whc (T' k) := by
  unfold eS; rw [h, hp]; exact ⟨rfl, rfl⟩
def sqN (T T' : Int → Int) : Nat → Bool
  | 0 => true
  | k + 1 => sqN T T' k && decide (T k = T' k)
theorem sqN_no {T T' : Int → Int} : ∀ (n k : Nat), k < n → ¬ T k = T' k → sqN T T' n = false := by
  intro n
  induction n with
  | zero => intro k h; omega
  | succ n ih =>
    intro k hk h
    rw [sqN]
    by_cases e : k = n
    · subst e; simp [h]
    · rw [ih k (by omega) h]; rfl
theorem sqN_pr {T T' : Int → Int} (h0 : T (-1) = T' (-1)) : ∀ (n : Nat), sqN T T' n = true → T ((n : Int) - 1) = T' ((n : Int) - 1) := by
  intro n h
  cases n with
  | zero => exact h0
  | succ n =>
    rw [sqN, Bool.and_eq_true, decide_eq_true_eq] at h
    rw [show ((n + 1 : Nat) : Int) - 1 = (n : Int) by omega]; exact h.2
section
variable {L d a b len : Nat} {f t g : Mem} {Q : Option TV → Wd → Prop}
theorem l_hasC (hTa : isT a) (hTb : isT b) (hla : t a 1 = (len : Int)) (hlb : t b 1 = (len : Int)) (hl : len ≤ 1000) : ∀ (m k : Nat), k + m = len → sqN (tok t a) (tok t b) k = true → VV L (d + 1) m_Tx_hasTokensOf 15 [some (tA a), some (tA b), some (tI k)] [] (WW f t g) Q = Q (some (tI (bB (sqN (tok t a) (tok t b) len)))) (WW f t g) := by
  have a0 := xT_0 hTa
  have b0 := xT_0 hTb
  intro m
  induction m with
  | zero =>
    intro k hk hp
    obtain rfl : k = len := by omega
    rw [u_Tx_hasTokensOf_15]
    simp only [u_Tx_hasTokensOf_16, u_Tx_hasTokensOf_17, u_Tx_hasTokensOf_20, u_Tx_hasTokensOf_44, u_Tx_hasTokensOf_45, xT_h1, xT_g1, ne_eq, not_false_eq_true, not_true_eq_false, true_and, and_true, true_or, or_true, eq_self, Option.toList_some, Option.toList_none, List.cons_append, List.nil_append, tc_0, tc_I, tc_L, tc_A, Nat.reduceAdd, Nat.reduceLeDiff, Nat.reduceEqDiff, Int.reduceEq, Int.reduceLT, Int.reduceLE, Int.reduceNeg, Int.reduceToNat, Int.cast_ofNat_Int, if_true, if_false, and_self, or_self, ite_self, bI_0, bI_1, bI_01, Bool.false_eq_true, reduceCtorEq, a0, hTa, hla, show (k : Int) ≤ k by omega, hp, bB_t]
  | succ m ih =>
    intro k hk hp
    have wk : w32 ((k : Int) + 1) = ((k + 1 : Nat) : Int) := by rw [w32_id (by omega) (by omega)]; omega
    have l1 : t a 1 ≤ 1000 := by omega
    have l2 : t b 1 ≤ 1000 := by omega
    rw [u_Tx_hasTokensOf_15]
    by_cases h : tok t a k = tok t b k
    · simp only [u_Tx_hasTokensOf_16, u_Tx_hasTokensOf_17, u_Tx_hasTokensOf_20, u_Tx_hasTokensOf_23, u_Tx_hasTokensOf_24, u_Tx_hasTokensOf_25, u_Tx_hasTokensOf_28, u_Tx_hasTokensOf_29, u_Tx_hasTokensOf_30, u_Tx_hasTokensOf_33, u_Tx_hasTokensOf_36, u_Tx_hasTokensOf_37, u_Tx_hasTokensOf_38, u_Tx_hasTokensOf_41, xT_h1, xT_g1, ne_eq, not_false_eq_true, not_true_eq_false, true_and, and_true, true_or, or_true, eq_self, Option.toList_some, Option.toList_none, List.cons_append, List.nil_append, tc_0, tc_I, tc_L, tc_A, Nat.reduceAdd, Nat.reduceLeDiff, Nat.reduceEqDiff, Int.reduceEq, Int.reduceLT, Int.reduceLE, Int.reduceNeg, Int.reduceToNat, Int.cast_ofNat_Int, if_true, if_false, and_self, or_self, ite_self, bI_0, bI_1, bI_01, Bool.false_eq_true, reduceCtorEq, a0, b0, hTa, hTb, hla, show ¬ (len : Int) ≤ k by omega, s_Tx_token hTa l1, s_Tx_token hTb l2, h, wk]
      exact ih (k + 1) (by omega) (by rw [sqN, hp, decide_eq_true h]; rfl)
    · rw [sqN_no len k (by omega) h, bB_f]
      simp only [u_Tx_hasTokensOf_16, u_Tx_hasTokensOf_17, u_Tx_hasTokensOf_20, u_Tx_hasTokensOf_23, u_Tx_hasTokensOf_24, u_Tx_hasTokensOf_25, u_Tx_hasTokensOf_28, u_Tx_hasTokensOf_29, u_Tx_hasTokensOf_30, u_Tx_hasTokensOf_33, u_Tx_hasTokensOf_36, u_Tx_hasTokensOf_37, u_Tx_hasTokensOf_38, u_Tx_hasTokensOf_41, xT_h1, xT_g1, ne_eq, not_false_eq_true, not_true_eq_false, true_and, and_true, true_or, or_true, eq_self, Option.toList_some, Option.toList_none, List.cons_append, List.nil_append, tc_0, tc_I, tc_L, tc_A, Nat.reduceAdd, Nat.reduceLeDiff, Nat.reduceEqDiff, Int.reduceEq, Int.reduceLT, Int.reduceLE, Int.reduceNeg, Int.reduceToNat, Int.cast_ofNat_Int, if_true, if_false, and_self, or_self, ite_self, bI_0, bI_1, bI_01, Bool.false_eq_true, reduceCtorEq, a0, b0, hTa, hTb, hla, show ¬ (len : Int) ≤ k by omega, s_Tx_token hTa l1, s_Tx_token hTb l2, h]
theorem s_Tx_hasTokensOf (hTa : isT a) (hTb : isT b) (hl0 : 0 ≤ t a 1) (hl : t a 1 ≤ 1000) : VV L (d + 1) m_Tx_hasTokensOf 0 [some (tA a), some (tA b), none] [] (WW f t g) Q = Q (some (tI (bB (decide (t a 1 = t b 1) && sqN (tok t a) (tok t b) (t a 1).toNat)))) (WW f t g) := by
  have a0 := xT_0 hTa
  have b0 := xT_0 hTb
  by_cases h : t a 1 = t b 1
  · obtain ⟨len, hn⟩ : ∃ n : Nat, t a 1 = (n : Int) := ⟨(t a 1).toNat, by omega⟩
    have := l_hasC (L := L) (d := d) (f := f) (t := t) (g := g) (Q := Q) hTa hTb hn (by omega) (by omega) len 0 (by omega) rfl
    rw [decide_eq_true h, Bool.true_and, hn, Int.toNat_natCast, ← this]
    simp only [u_Tx_hasTokensOf_0, u_Tx_hasTokensOf_1, u_Tx_hasTokensOf_4, u_Tx_hasTokensOf_5, u_Tx_hasTokensOf_8, u_Tx_hasTokensOf_13, u_Tx_hasTokensOf_14, xT_h1, xT_g1, ne_eq, not_false_eq_true, not_true_eq_false, true_and, and_true, true_or, or_true, eq_self, Option.toList_some, Option.toList_none, List.cons_append, List.nil_append, tc_0, tc_I, tc_L, tc_A, Nat.reduceAdd, Nat.reduceLeDiff, Nat.reduceEqDiff, Int.reduceEq, Int.reduceLT, Int.reduceLE, Int.reduceNeg, Int.reduceToNat, Int.cast_ofNat_Int, if_true, if_false, and_self, or_self, ite_self, bI_0, bI_1, bI_01, Bool.false_eq_true, reduceCtorEq, a0, b0, hTa, hTb, h]
  · rw [decide_eq_false h, Bool.false_and, bB_f]
    simp only [u_Tx_hasTokensOf_0, u_Tx_hasTokensOf_1, u_Tx_hasTokensOf_4, u_Tx_hasTokensOf_5, u_Tx_hasTokensOf_8, u_Tx_hasTokensOf_11, u_Tx_hasTokensOf_12, xT_h1, xT_g1, ne_eq, not_false_eq_true, not_true_eq_false, true_and, and_true, true_or, or_true, eq_self, Option.toList_some, Option.toList_none, List.cons_append, List.nil_append, tc_0, tc_I, tc_L, tc_A, Nat.reduceAdd, Nat.reduceLeDiff, Nat.reduceEqDiff, Int.reduceEq, Int.reduceLT, Int.reduceLE, Int.reduceNeg, Int.reduceToNat, Int.cast_ofNat_Int, if_true, if_false, and_self, or_self, ite_self, bI_0, bI_1, bI_01, Bool.false_eq_true, reduceCtorEq, a0, b0, hTa, hTb, h]
end
