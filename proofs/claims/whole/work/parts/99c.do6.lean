/-! Doing a step, the class: changes, swaps -/
section
variable {L d a c : Nat} {f t g : Mem} {Q : Option TV → Wd → Prop} {TH : Nat} {i j b m : Int}
theorem spC_FX {f f' : Mem} (h : FX f f') (p : Pl) : spC f' p = spC f p := by
  match p with
  | .inl k => rfl
  | .inr (r, i) => show 26 + f' 29 r.toNat * 12 + i = 26 + f 29 r.toNat * 12 + i; rw [h 29 _ (by omega)]
theorem OkP_FX {f f' : Mem} (h : FX f f') {p : Pl} (hp : OkP f p) : OkP f' p := by
  match p, hp with
  | .inl k, hp => exact ⟨hp.1, hp.2.1, by rw [h 20 _ (by omega)]; exact hp.2.2⟩
  | .inr (r, i), hp =>
    obtain ⟨a1, a2, a3, a4, a5, a6, a7, a8, a9⟩ := hp
    have e := h 29 r.toNat (by omega)
    refine ⟨a1, a2, by rw [e]; exact a3, by rw [e]; exact a4, a5, ?_, ?_, ?_, ?_⟩
    · rw [e, h 32 _ (by omega)]; exact a6
    · rw [e, h 32 _ (by omega)]; exact a7
    · rw [e, h 31 _ (by omega)]; exact a8
    · rw [e, h 31 _ (by omega)]; exact a9
theorem kdP_FX {f f' : Mem} (h : FX f f') (p : Pl) : kdP f' p = kdP f p := by
  match p with
  | .inl k => rfl
  | .inr (r, i) => show f' 31 (f' 29 r.toNat).toNat = f 31 (f 29 r.toNat).toNat; rw [h 29 _ (by omega), h 31 _ (by omega)]
theorem ldP_FX {f f' : Mem} (h : FX f f') {p : Pl} (hp : OkP f p) : ldP f' p = ldP f p := by
  match p, hp with
  | .inl k, hp => exact h 21 _ (by omega)
  | .inr (r, i), hp =>
    obtain ⟨a1, a2, a3, a4, a5, a6, a7, a8, a9⟩ := hp
    show f' (34 + (f' 29 r.toNat).toNat) i.toNat = f (34 + (f 29 r.toNat).toNat) i.toNat
    rw [h 29 _ (by omega), h _ _ (by omega)]
theorem stP_FX {f f' : Mem} {v : Int} (h : FX f f') {p : Pl} (hp : OkP f p) : FX (stP f v p) (stP f' v p) := by
  match p, hp with
  | .inl k, hp => intro b q hb; simp only [stP, rd]; rw [h b q hb]
  | .inr (r, i), hp =>
    intro b q hb
    simp only [stP, rd]
    rw [h 29 _ (by omega), h 31 _ (by omega), h b q hb]
theorem vP_ok {gg : Mem} (hS : RSt f gg TH) {br : Int → Int → Bool} (p : PP c) (hp : wP p) {pl : Pl} {q : List (Int × Int)} (h : vP (envC f br) p = .ok (pl, q)) : OkP f pl := by
  match p, hp, h with
  | .inl n, hp, h =>
    have hb : 97 ≤ n ∧ n ≤ 122 := by have : kName n = true := hp; unfold kName at this; simpa using this
    unfold vP at h
    dsimp only at h
    by_cases e : f 20 (n - 97).toNat = 1
    · have e2 : (envC f br).1 (n - 97) = some (f 21 (n - 97).toNat) := by unfold envC; simp only; rw [if_pos e]
      rw [e2] at h
      cases h
      exact ⟨by omega, by omega, e⟩
    · have e2 : (envC f br).1 (n - 97) = none := by unfold envC; simp only; rw [if_neg e]
      rw [e2] at h
      cases h
  | .inr (r, e), hp, h =>
    have hb : 65 ≤ r ∧ r ≤ 70 := by have : kRow r = true := hp.1; unfold kRow at this; simpa using this
    unfold vP at h
    dsimp only at h
    rw [vI_1] at h
    cases hv : vE (vF (envC f br) c) e with
    | error w => rw [hv] at h; cases h
    | ok z =>
      obtain ⟨u, q'⟩ := z
      rw [hv] at h
      dsimp only at h
      have hrr := hS.rw (r - 65).toNat (by omega)
      rw [hC_r (by omega)] at hrr
      rcases hrr with hrr | hrr
      · have e2 : (envC f br).2.1 (r - 65) = none := by unfold envC; simp only; rw [if_pos hrr.1]
        rw [e2] at h; cases h
      · have e2 : (envC f br).2.1 (r - 65) = some (f 32 (f 29 (r - 65).toNat).toNat) := by unfold envC; simp only; rw [if_neg (by omega)]
        rw [e2] at h
        dsimp only at h
        have hcc := hS.cC (f 29 (r - 65).toNat).toNat (by omega)
        split at h
        · cases h
        · rename_i hn
          split at hn
          · cases hn
          · cases hn
            cases h
            obtain ⟨q1, q2, q3, q4, q5, q6, q7, q8⟩ := hrr
            exact ⟨by omega, by omega, q1, q2, by omega, by omega, hcc.2, q7.1, q7.2⟩
def isN : Pl → Bool
  | .inl _ => true
  | .inr _ => false
/-- what a change does: code, memory -/
def ChC {c : Nat} (f : Mem) (op : Int) (p : PP c) (e : EE c) (code : Int) (f' : Mem) : Prop := match vP (envC f brN) p with
  | .error w => code = w ∧ ¬ w = 0 ∧ FX f f'
  | .ok (pl, q) => if isN pl = false ∧ rdP f (snN 0 q) (snI (hld f) (fun _ => 0) q) pl = true then code = 6 ∧ FX f f' else match vE (vF (envC f (brP f pl)) c) e with
    | .error w => code = w ∧ ¬ w = 0 ∧ FX f f'
    | .ok (v, _) => code = 0 ∧ FX (stP f (chgI op (ldP f pl) v (bits (kdP f pl))) pl) f'
theorem p_Do_change {gg : Mem} {op : Int} (hT : isT a) (hl : t a 1 ≤ 1000) (hc : c ≤ 11) (hS : RSt f gg TH) (hop : 128 ≤ op ∧ op ≤ 132) (p : PP c) (hp : wP p) (hi : 0 ≤ i) (hsp : seg (tok t a) i m (kP p)) (e : EE c) (he : wX e) (hb : 0 ≤ b) (hs : seg (tok t a) b j (kX e)) (hj : tok t a j = 59) (hQ : ∀ code f', ChC f op p e code f' → Q (some (tI code)) (WW f' t g)) : VV L (d + 5 * c + 10) m_Do_change 0 [some (tA 152), some (tI op), some (tA a), some (tI i), some (tI b), none, none, none] [] (WW (wo0 f) t g) Q := by
  have a0 := xT_0 hT
  simp only [u_Do_change_0, u_Do_change_1, u_Do_change_4, u_Do_change_5, u_Do_change_6, h1_152, h1_149, gt_152_2, ne_eq, not_false_eq_true, not_true_eq_false, true_and, and_true, true_or, or_true, eq_self, Option.toList_some, Option.toList_none, List.cons_append, List.nil_append, tc_0, tc_I, tc_L, tc_A, Nat.reduceAdd, Nat.reduceLeDiff, Nat.reduceEqDiff, Int.reduceEq, Int.reduceLT, Int.reduceLE, Int.reduceNeg, Int.reduceToNat, Int.cast_ofNat_Int, if_true, if_false, and_self, or_self, ite_self, bI_0, bI_1, bI_01, Bool.false_eq_true, reduceCtorEq, a0]
  refine p_Wo_find (D := d + 5 * c + 6) hT hl hc (by omega) p hp (EnC_0 hS) WS_0 wo0_7 hi hsp ?_
  have hld0 : hld (wo0 f) = hld f := by funext r; exact FX_0 29 _ (by omega)
  cases hv : vP (envC f brN) p with
  | error w =>
    have hQ' : ∀ code f', (code = w ∧ ¬ w = 0 ∧ FX f f') → Q (some (tI code)) (WW f' t g) := fun code f' h => hQ code f' (by unfold ChC; rw [hv]; exact h)
    intro f1 u a1 a2 a3
    simp only [u_Do_change_9, u_Do_change_11, u_Do_change_12, u_Do_change_15, u_Do_change_18, u_Do_change_21, u_Do_change_22, u_Do_change_25, u_Do_change_28, h1_152, h1_149, gt_152_2, ne_eq, not_false_eq_true, not_true_eq_false, true_and, and_true, true_or, or_true, eq_self, Option.toList_some, Option.toList_none, List.cons_append, List.nil_append, tc_0, tc_I, tc_L, tc_A, Nat.reduceAdd, Nat.reduceLeDiff, Nat.reduceEqDiff, Int.reduceEq, Int.reduceLT, Int.reduceLE, Int.reduceNeg, Int.reduceToNat, Int.cast_ofNat_Int, if_true, if_false, and_self, or_self, ite_self, bI_0, bI_1, bI_01, Bool.false_eq_true, reduceCtorEq, s_Wo_refused, a2, a3]
    exact hQ' w f1 ⟨rfl, a3, FX_tr FX_0 (FX_5 a1)⟩
  | ok z =>
    obtain ⟨pl, q⟩ := z
    have hok := vP_ok hS p hp hv
    have hQ' : ∀ code f', (if isN pl = false ∧ rdP f (snN 0 q) (snI (hld f) (fun _ => 0) q) pl = true then code = 6 ∧ FX f f' else match vE (vF (envC f (brP f pl)) c) e with
      | .error w => code = w ∧ ¬ w = 0 ∧ FX f f'
      | .ok (v, _) => code = 0 ∧ FX (stP f (chgI op (ldP f pl) v (bits (kdP f pl))) pl) f') → Q (some (tI code)) (WW f' t g) := fun code f' h => hQ code f' (by unfold ChC; rw [hv]; exact h)
    intro f1 a1 a2 a3
    have hx := FX_tr FX_0 (FX_5 a1)
    rw [hld0] at a3
    rw [spC_FX FX_0 pl]
    have h52 : ¬ (isN pl = false ∧ rdP f (snN 0 q) (snI (hld f) (fun _ => 0) q) pl = true) → VV L (d + 5 * c + 10) m_Do_change 52 [some (tA 152), some (tI op), some (tA a), some (tI i), some (tI b), some (tI (spC f pl)), none, none] [] (WW f1 t g) Q := by
      intro hno
      have hQ2 := fun code f' h => hQ' code f' (by rw [if_neg hno]; exact h)
      have hx2 : FX f (mset f1 149 4 (spC f pl)) := fun b q hb => by rw [rd, if_neg (by omega)]; exact hx b q hb
      have hE : EnC (mset f1 149 4 (spC f pl)) (envC f (brP f pl)) := EnC_env hS hx2 (fun r i hr h0 hi => by
        rw [rd, if_pos (by simp)]
        match pl, hok with
        | .inl k, hok => show false = _; rw [eq_comm, decide_eq_false_iff_not]; show ¬ k = _; have := hok.2.1; omega
        | .inr (r', i'), hok =>
          obtain ⟨a1, a2, a3, a4, a5, a6, a7, a8, a9⟩ := hok
          show decide (f 29 ((r : Int)).toNat = f 29 r'.toNat ∧ (i : Int) = i') = decide (26 + f 29 r'.toNat * 12 + i' = 26 + f 29 r * 12 + i)
          rw [Int.toNat_natCast, decide_eq_decide]; omega)
      have hW : WS (mset f1 149 4 (spC f pl)) (snN 0 q) (snI (hld f) (fun _ => 0) q) := WS_m a3 (by omega)
      have h7 : (mset f1 149 4 (spC f pl)) 149 7 = 0 := by rw [rd, if_neg (by omega)]; exact a2
      simp only [u_Do_change_52, u_Do_change_53, u_Do_change_56, u_Do_change_58, u_Do_change_61, u_Do_change_62, u_Do_change_65, u_Do_change_66, u_Do_change_68, h1_152, h1_149, gt_152_2, ne_eq, not_false_eq_true, not_true_eq_false, true_and, and_true, true_or, or_true, eq_self, Option.toList_some, Option.toList_none, List.cons_append, List.nil_append, tc_0, tc_I, tc_L, tc_A, Nat.reduceAdd, Nat.reduceLeDiff, Nat.reduceEqDiff, Int.reduceEq, Int.reduceLT, Int.reduceLE, Int.reduceNeg, Int.reduceToNat, Int.cast_ofNat_Int, if_true, if_false, and_self, or_self, ite_self, bI_0, bI_1, bI_01, Bool.false_eq_true, reduceCtorEq, u_Wo_keep_0, u_Wo_keep_1, u_Wo_keep_2, u_Wo_keep_5, h1_149, gt_149_4, pt_149_4, a0]
      refine p_Wo_sumAt (D := d + 5 * c + 6) hT hl (by omega) (by omega) e he hE hW h7 hb hs (by rw [hj]; decide) (by rw [hj]; decide) ?_
      cases hv2 : vE (vF (envC f (brP f pl)) c) e with
      | error w =>
        rw [hv2] at hQ2
        intro f2 u b1 b2 b3
        simp only [u_Do_change_71, u_Do_change_73, u_Do_change_74, u_Do_change_77, u_Do_change_80, u_Do_change_83, u_Do_change_84, u_Do_change_86, u_Do_change_87, u_Do_change_88, u_Do_change_90, u_Do_change_93, u_Do_change_95, u_Do_change_96, u_Do_change_98, u_Do_change_101, u_Do_change_104, u_Do_change_107, u_Do_change_110, u_Do_change_111, u_Do_change_114, u_Do_change_117, h1_152, h1_149, gt_152_2, ne_eq, not_false_eq_true, not_true_eq_false, true_and, and_true, true_or, or_true, eq_self, Option.toList_some, Option.toList_none, List.cons_append, List.nil_append, tc_0, tc_I, tc_L, tc_A, Nat.reduceAdd, Nat.reduceLeDiff, Nat.reduceEqDiff, Int.reduceEq, Int.reduceLT, Int.reduceLE, Int.reduceNeg, Int.reduceToNat, Int.cast_ofNat_Int, if_true, if_false, and_self, or_self, ite_self, bI_0, bI_1, bI_01, Bool.false_eq_true, reduceCtorEq, s_Wo_refused, b2, b3]
        exact hQ2 w f2 ⟨rfl, b3, FX_tr hx2 (FX_5 b1)⟩
      | ok z =>
        obtain ⟨v, q2⟩ := z
        rw [hv2] at hQ2
        intro f2 b1 b2 b3
        have hx3 := FX_tr hx2 (FX_5 b1)
        have hok2 := OkP_FX hx3 hok
        have hsp2 : spC f pl = spC f2 pl := (spC_FX hx3 pl).symm
        have e7 : ∀ v, (stP f2 v pl) 149 7 = 0 := by
          intro v
          match pl, hok2 with
          | .inl k, _ => show (mset (mset f2 20 k.toNat 1) 21 k.toNat (w32 v)) 149 7 = 0; rw [rd, if_neg (by omega), rd, if_neg (by omega)]; exact b2
          | .inr (r', i'), hok2 =>
            obtain ⟨a1, a2, a3, a4, _⟩ := hok2
            show (mset f2 _ _ _) 149 7 = 0; rw [rd, if_neg (by omega)]; exact b2
        rw [hsp2]
        have hbits : ∀ Q, VV L (d + 5 * c + 9) m_Sf_bitsOf 0 [some (tI (kdP f2 pl))] [] (WW f2 t g) Q = Q (some (tI (bits (kdP f2 pl)))) (WW f2 t g) := fun Q => s_Sf_bitsOf
        simp only [u_Do_change_71, u_Do_change_73, u_Do_change_74, u_Do_change_77, u_Do_change_80, u_Do_change_83, u_Do_change_84, u_Do_change_86, u_Do_change_87, u_Do_change_88, u_Do_change_90, u_Do_change_93, u_Do_change_95, u_Do_change_96, u_Do_change_98, u_Do_change_101, u_Do_change_104, u_Do_change_107, h1_152, h1_149, gt_152_2, ne_eq, not_false_eq_true, not_true_eq_false, true_and, and_true, true_or, or_true, eq_self, Option.toList_some, Option.toList_none, List.cons_append, List.nil_append, tc_0, tc_I, tc_L, tc_A, Nat.reduceAdd, Nat.reduceLeDiff, Nat.reduceEqDiff, Int.reduceEq, Int.reduceLT, Int.reduceLE, Int.reduceNeg, Int.reduceToNat, Int.cast_ofNat_Int, if_true, if_false, and_self, or_self, ite_self, bI_0, bI_1, bI_01, Bool.false_eq_true, reduceCtorEq, s_Wo_refused, b2, s_Do_load hok2, s_Do_kindOf hok2, hbits, s_Do_changed bits_4 hop, s_Do_store hok2]
        simp only [u_Do_change_110, u_Do_change_111, u_Do_change_114, u_Do_change_117, h1_152, h1_149, gt_152_2, ne_eq, not_false_eq_true, not_true_eq_false, true_and, and_true, true_or, or_true, eq_self, Option.toList_some, Option.toList_none, List.cons_append, List.nil_append, tc_0, tc_I, tc_L, tc_A, Nat.reduceAdd, Nat.reduceLeDiff, Nat.reduceEqDiff, Int.reduceEq, Int.reduceLT, Int.reduceLE, Int.reduceNeg, Int.reduceToNat, Int.cast_ofNat_Int, if_true, if_false, and_self, or_self, ite_self, bI_0, bI_1, bI_01, Bool.false_eq_true, reduceCtorEq, s_Wo_refused, e7]
        refine hQ2 0 _ ⟨rfl, ?_⟩
        rw [ldP_FX hx3 hok, kdP_FX hx3]
        exact stP_FX hx3 hok
    have hwr := fun Q => s_Wo_wasRead (L := L) (d := d + 5 * c + 8) (t := t) (g := g) (Q := Q) a3 hx hok
    match pl, hok, h52, hQ', hwr with
    | .inl k, hok, h52, hQ', hwr =>
      have hn : (0 ≤ k ∧ k < 26) := ⟨hok.1, hok.2.1⟩
      have hn2 : (0 ≤ spC f (.inl k) ∧ spC f (.inl k) < 26) := hn
      simp only [u_Do_change_9, u_Do_change_11, u_Do_change_12, u_Do_change_15, u_Do_change_18, u_Do_change_21, u_Do_change_22, u_Do_change_25, u_Do_change_28, u_Do_change_29, u_Do_change_31, u_Do_change_34, h1_152, h1_149, gt_152_2, ne_eq, not_false_eq_true, not_true_eq_false, true_and, and_true, true_or, or_true, eq_self, Option.toList_some, Option.toList_none, List.cons_append, List.nil_append, tc_0, tc_I, tc_L, tc_A, Nat.reduceAdd, Nat.reduceLeDiff, Nat.reduceEqDiff, Int.reduceEq, Int.reduceLT, Int.reduceLE, Int.reduceNeg, Int.reduceToNat, Int.cast_ofNat_Int, if_true, if_false, and_self, or_self, ite_self, bI_0, bI_1, bI_01, Bool.false_eq_true, reduceCtorEq, s_Wo_refused, a2, s_St_isName, hn2, decide_true, bB_t]
      exact h52 (by simp [isN])
    | .inr (r, i'), hok, h52, hQ', hwr =>
      obtain ⟨b1, b2, b3, b4, b5, b6, b7, b8, b9⟩ := hok
      have hn2 : ¬ (0 ≤ spC f (.inr (r, i')) ∧ spC f (.inr (r, i')) < 26) := by show ¬ (0 ≤ 26 + f 29 r.toNat * 12 + i' ∧ 26 + f 29 r.toNat * 12 + i' < 26); omega
      by_cases hrd : rdP f (snN 0 q) (snI (hld f) (fun _ => 0) q) (.inr (r, i')) = true
      · simp only [u_Do_change_9, u_Do_change_11, u_Do_change_12, u_Do_change_15, u_Do_change_18, u_Do_change_21, u_Do_change_22, u_Do_change_25, u_Do_change_28, u_Do_change_29, u_Do_change_31, u_Do_change_34, u_Do_change_37, u_Do_change_38, u_Do_change_41, u_Do_change_43, u_Do_change_46, u_Do_change_49, u_Do_change_51, h1_152, h1_149, gt_152_2, ne_eq, not_false_eq_true, not_true_eq_false, true_and, and_true, true_or, or_true, eq_self, Option.toList_some, Option.toList_none, List.cons_append, List.nil_append, tc_0, tc_I, tc_L, tc_A, Nat.reduceAdd, Nat.reduceLeDiff, Nat.reduceEqDiff, Int.reduceEq, Int.reduceLT, Int.reduceLE, Int.reduceNeg, Int.reduceToNat, Int.cast_ofNat_Int, if_true, if_false, and_self, or_self, ite_self, bI_0, bI_1, bI_01, Bool.false_eq_true, reduceCtorEq, s_Wo_refused, a2, s_St_isName, hn2, decide_false, bB_f, hwr, hrd, bB_t]
        exact hQ' 6 f1 (by rw [if_pos ⟨rfl, hrd⟩]; exact ⟨rfl, hx⟩)
      · have hrd2 : rdP f (snN 0 q) (snI (hld f) (fun _ => 0) q) (.inr (r, i')) = false := by simpa using hrd
        simp only [u_Do_change_9, u_Do_change_11, u_Do_change_12, u_Do_change_15, u_Do_change_18, u_Do_change_21, u_Do_change_22, u_Do_change_25, u_Do_change_28, u_Do_change_29, u_Do_change_31, u_Do_change_34, u_Do_change_37, u_Do_change_38, u_Do_change_41, u_Do_change_43, u_Do_change_46, h1_152, h1_149, gt_152_2, ne_eq, not_false_eq_true, not_true_eq_false, true_and, and_true, true_or, or_true, eq_self, Option.toList_some, Option.toList_none, List.cons_append, List.nil_append, tc_0, tc_I, tc_L, tc_A, Nat.reduceAdd, Nat.reduceLeDiff, Nat.reduceEqDiff, Int.reduceEq, Int.reduceLT, Int.reduceLE, Int.reduceNeg, Int.reduceToNat, Int.cast_ofNat_Int, if_true, if_false, and_self, or_self, ite_self, bI_0, bI_1, bI_01, Bool.false_eq_true, reduceCtorEq, s_Wo_refused, a2, s_St_isName, hn2, decide_false, bB_f, hwr, hrd2]
        exact h52 (fun hh => hrd hh.2)
/-- what a swap does -/
def SwC {c : Nat} (f : Mem) (p p2 : PP c) (code : Int) (f' : Mem) : Prop := match vP (envC f brN) p with
  | .error w => code = w ∧ ¬ w = 0 ∧ FX f f'
  | .ok (pl, q) => match vP (envC f brN) p2 with
    | .error w => code = w ∧ ¬ w = 0 ∧ FX f f'
    | .ok (pl2, q2) => if kdP f pl = kdP f pl2 then (if spC f pl = spC f pl2 ∨ rdP f (snN 0 (q ++ q2)) (snI (hld f) (fun _ => 0) (q ++ q2)) pl = true ∨ rdP f (snN 0 (q ++ q2)) (snI (hld f) (fun _ => 0) (q ++ q2)) pl2 = true then code = 6 ∧ FX f f' else code = 0 ∧ FX (stP (stP f (ldP f pl2) pl) (ldP f pl) pl2) f') else code = 10 ∧ FX f f'
theorem stP_ok {v : Int} {pl p2 : Pl} (h : OkP f pl) (h2 : OkP f p2) : OkP (stP f v pl) p2 ∧ spC (stP f v pl) p2 = spC f p2 := by
  have key : ∀ b q, (b = 29 ∨ b = 31 ∨ b = 32) → stP f v pl b q = f b q := by
    intro b q hb
    match pl, h with
    | .inl k, h => simp only [stP, rd]; rw [if_neg (by omega), if_neg (by omega)]
    | .inr (r, i), h => simp only [stP, rd]; rw [if_neg (by omega)]
  have k20 : ∀ q, f 20 q = 1 → stP f v pl 20 q = 1 := by
    intro q hq
    match pl, h with
    | .inl k, h => simp only [stP, rd]; rw [if_neg (by omega)]; split <;> simp [hq]
    | .inr (r, i), h => simp only [stP, rd]; rw [if_neg (by omega)]; exact hq
  match p2, h2 with
  | .inl k, h2 => exact ⟨⟨h2.1, h2.2.1, k20 _ h2.2.2⟩, rfl⟩
  | .inr (r, i), h2 =>
    obtain ⟨a1, a2, a3, a4, a5, a6, a7, a8, a9⟩ := h2
    have e := key 29 r.toNat (by omega)
    refine ⟨⟨a1, a2, by rw [e]; exact a3, by rw [e]; exact a4, a5, ?_, ?_, ?_, ?_⟩, ?_⟩
    · rw [e, key 32 _ (by omega)]; exact a6
    · rw [e, key 32 _ (by omega)]; exact a7
    · rw [e, key 31 _ (by omega)]; exact a8
    · rw [e, key 31 _ (by omega)]; exact a9
    · show 26 + _ * 12 + i = 26 + _ * 12 + i; rw [e]
theorem p_Do_swap {gg : Mem} (hT : isT a) (hl : t a 1 ≤ 1000) (hc : c ≤ 11) (hS : RSt f gg TH) (p p2 : PP c) (hp : wP p) (hp2 : wP p2) (hi : 0 ≤ i) (hsp : seg (tok t a) i m (kP p)) (hb : 0 ≤ b) (hsp2 : seg (tok t a) b j (kP p2)) (hQ : ∀ code f', SwC f p p2 code f' → Q (some (tI code)) (WW f' t g)) : VV L (d + 5 * c + 10) m_Do_swap 0 [some (tA 152), some (tA a), some (tI i), some (tI b), none, none, none, none] [] (WW (wo0 f) t g) Q := by
  have a0 := xT_0 hT
  have hld0 : hld (wo0 f) = hld f := by funext r; exact FX_0 29 _ (by omega)
  simp only [u_Do_swap_0, u_Do_swap_1, u_Do_swap_4, u_Do_swap_5, u_Do_swap_6, h1_152, h1_149, gt_152_2, ne_eq, not_false_eq_true, not_true_eq_false, true_and, and_true, true_or, or_true, eq_self, Option.toList_some, Option.toList_none, List.cons_append, List.nil_append, tc_0, tc_I, tc_L, tc_A, Nat.reduceAdd, Nat.reduceLeDiff, Nat.reduceEqDiff, Int.reduceEq, Int.reduceLT, Int.reduceLE, Int.reduceNeg, Int.reduceToNat, Int.cast_ofNat_Int, if_true, if_false, and_self, or_self, ite_self, bI_0, bI_1, bI_01, Bool.false_eq_true, reduceCtorEq, a0]
  refine p_Wo_find (D := d + 5 * c + 6) hT hl hc (by omega) p hp (EnC_0 hS) WS_0 wo0_7 hi hsp ?_
  cases hv : vP (envC f brN) p with
  | error w =>
    have hQ' : ∀ code f', (code = w ∧ ¬ w = 0 ∧ FX f f') → Q (some (tI code)) (WW f' t g) := fun code f' h => hQ code f' (by unfold SwC; rw [hv]; exact h)
    intro f1 u a1 a2 a3
    simp only [u_Do_swap_9, u_Do_swap_11, u_Do_swap_12, u_Do_swap_15, u_Do_swap_18, u_Do_swap_21, u_Do_swap_22, u_Do_swap_25, u_Do_swap_28, h1_152, h1_149, gt_152_2, ne_eq, not_false_eq_true, not_true_eq_false, true_and, and_true, true_or, or_true, eq_self, Option.toList_some, Option.toList_none, List.cons_append, List.nil_append, tc_0, tc_I, tc_L, tc_A, Nat.reduceAdd, Nat.reduceLeDiff, Nat.reduceEqDiff, Int.reduceEq, Int.reduceLT, Int.reduceLE, Int.reduceNeg, Int.reduceToNat, Int.cast_ofNat_Int, if_true, if_false, and_self, or_self, ite_self, bI_0, bI_1, bI_01, Bool.false_eq_true, reduceCtorEq, s_Wo_refused, a2, a3]
    exact hQ' w f1 ⟨rfl, a3, FX_tr FX_0 (FX_5 a1)⟩
  | ok z =>
    obtain ⟨pl, q⟩ := z
    have hok := vP_ok hS p hp hv
    intro f1 a1 a2 a3
    have hx := FX_tr FX_0 (FX_5 a1)
    rw [hld0] at a3
    rw [spC_FX FX_0 pl]
    have hE1 := EnC_FW5 (EnC_0 hS) a1
    simp only [u_Do_swap_9, u_Do_swap_11, u_Do_swap_12, u_Do_swap_15, u_Do_swap_18, u_Do_swap_21, u_Do_swap_22, u_Do_swap_25, u_Do_swap_28, u_Do_swap_29, u_Do_swap_30, u_Do_swap_33, u_Do_swap_34, u_Do_swap_35, h1_152, h1_149, gt_152_2, ne_eq, not_false_eq_true, not_true_eq_false, true_and, and_true, true_or, or_true, eq_self, Option.toList_some, Option.toList_none, List.cons_append, List.nil_append, tc_0, tc_I, tc_L, tc_A, Nat.reduceAdd, Nat.reduceLeDiff, Nat.reduceEqDiff, Int.reduceEq, Int.reduceLT, Int.reduceLE, Int.reduceNeg, Int.reduceToNat, Int.cast_ofNat_Int, if_true, if_false, and_self, or_self, ite_self, bI_0, bI_1, bI_01, Bool.false_eq_true, reduceCtorEq, s_Wo_refused, a2, a0]
    refine p_Wo_find (D := d + 5 * c + 6) hT hl hc (by omega) p2 hp2 hE1 a3 a2 hb hsp2 ?_
    cases hv2 : vP (envC f brN) p2 with
    | error w =>
      have hQ' : ∀ code f', (code = w ∧ ¬ w = 0 ∧ FX f f') → Q (some (tI code)) (WW f' t g) := fun code f' h => hQ code f' (by unfold SwC; rw [hv]; dsimp only; rw [hv2]; exact h)
      intro f2 u b1 b2 b3
      simp only [u_Do_swap_38, u_Do_swap_40, u_Do_swap_41, u_Do_swap_44, u_Do_swap_47, u_Do_swap_50, u_Do_swap_51, u_Do_swap_54, u_Do_swap_57, h1_152, h1_149, gt_152_2, ne_eq, not_false_eq_true, not_true_eq_false, true_and, and_true, true_or, or_true, eq_self, Option.toList_some, Option.toList_none, List.cons_append, List.nil_append, tc_0, tc_I, tc_L, tc_A, Nat.reduceAdd, Nat.reduceLeDiff, Nat.reduceEqDiff, Int.reduceEq, Int.reduceLT, Int.reduceLE, Int.reduceNeg, Int.reduceToNat, Int.cast_ofNat_Int, if_true, if_false, and_self, or_self, ite_self, bI_0, bI_1, bI_01, Bool.false_eq_true, reduceCtorEq, s_Wo_refused, b2, b3]
      exact hQ' w f2 ⟨rfl, b3, FX_tr hx (FX_5 b1)⟩
    | ok z =>
      obtain ⟨pl2, q2⟩ := z
      have hok2 := vP_ok hS p2 hp2 hv2
      have hQ' : ∀ code f', (if kdP f pl = kdP f pl2 then (if spC f pl = spC f pl2 ∨ rdP f (snN 0 (q ++ q2)) (snI (hld f) (fun _ => 0) (q ++ q2)) pl = true ∨ rdP f (snN 0 (q ++ q2)) (snI (hld f) (fun _ => 0) (q ++ q2)) pl2 = true then code = 6 ∧ FX f f' else code = 0 ∧ FX (stP (stP f (ldP f pl2) pl) (ldP f pl) pl2) f') else code = 10 ∧ FX f f') → Q (some (tI code)) (WW f' t g) := fun code f' h => hQ code f' (by unfold SwC; rw [hv]; dsimp only; rw [hv2]; exact h)
      intro f2 b1 b2 b3
      have hx2 := FX_tr hx (FX_5 b1)
      have hld1 : hld f1 = hld f := by funext r; exact hx 29 _ (by omega)
      rw [hld1, ← snN_app, ← snI_app] at b3
      rw [spC_FX hx pl2]
      have s1 : spC f pl = spC f2 pl := (spC_FX hx2 pl).symm
      have s2 : spC f pl2 = spC f2 pl2 := (spC_FX hx2 pl2).symm
      have k1 := OkP_FX hx2 hok
      have k2 := OkP_FX hx2 hok2
      have kd1 : kdP f2 pl = kdP f pl := kdP_FX hx2 pl
      have kd2 : kdP f2 pl2 = kdP f pl2 := kdP_FX hx2 pl2
      have kk1 : ∀ Q, VV L (d + 5 * c + 9) m_Do_kindOf 0 [some (tA 152), some (tI (spC f pl))] [] (WW f2 t g) Q = Q (some (tI (kdP f pl))) (WW f2 t g) := fun Q => by rw [s1, s_Do_kindOf (d := d + 5 * c + 8) k1, kd1]
      have kk2 : ∀ Q, VV L (d + 5 * c + 9) m_Do_kindOf 0 [some (tA 152), some (tI (spC f pl2))] [] (WW f2 t g) Q = Q (some (tI (kdP f pl2))) (WW f2 t g) := fun Q => by rw [s2, s_Do_kindOf (d := d + 5 * c + 8) k2, kd2]
      have hw1 := fun Q => s_Wo_wasRead (L := L) (d := d + 5 * c + 8) (t := t) (g := g) (Q := Q) b3 hx2 hok
      have hw2 := fun Q => s_Wo_wasRead (L := L) (d := d + 5 * c + 8) (t := t) (g := g) (Q := Q) b3 hx2 hok2
      by_cases hk : kdP f pl = kdP f pl2
      · have hself : ∀ h : (spC f pl = spC f pl2 ∨ rdP f (snN 0 (q ++ q2)) (snI (hld f) (fun _ => 0) (q ++ q2)) pl = true ∨ rdP f (snN 0 (q ++ q2)) (snI (hld f) (fun _ => 0) (q ++ q2)) pl2 = true), Q (some (tI 6)) (WW f2 t g) := fun h => hQ' 6 f2 (by rw [if_pos hk, if_pos h]; exact ⟨rfl, hx2⟩)
        by_cases h1 : spC f pl = spC f pl2
        · simp only [u_Do_swap_38, u_Do_swap_40, u_Do_swap_41, u_Do_swap_44, u_Do_swap_47, u_Do_swap_50, u_Do_swap_51, u_Do_swap_54, u_Do_swap_57, u_Do_swap_58, u_Do_swap_59, u_Do_swap_61, u_Do_swap_64, u_Do_swap_65, u_Do_swap_67, u_Do_swap_70, u_Do_swap_73, u_Do_swap_75, u_Do_swap_76, u_Do_swap_78, u_Do_swap_80, u_Do_swap_83, u_Do_swap_84, u_Do_swap_87, u_Do_swap_89, u_Do_swap_92, u_Do_swap_95, u_Do_swap_96, u_Do_swap_99, u_Do_swap_101, u_Do_swap_104, u_Do_swap_107, u_Do_swap_109, h1_152, h1_149, gt_152_2, ne_eq, not_false_eq_true, not_true_eq_false, true_and, and_true, true_or, or_true, eq_self, Option.toList_some, Option.toList_none, List.cons_append, List.nil_append, tc_0, tc_I, tc_L, tc_A, Nat.reduceAdd, Nat.reduceLeDiff, Nat.reduceEqDiff, Int.reduceEq, Int.reduceLT, Int.reduceLE, Int.reduceNeg, Int.reduceToNat, Int.cast_ofNat_Int, if_true, if_false, and_self, or_self, ite_self, bI_0, bI_1, bI_01, Bool.false_eq_true, reduceCtorEq, s_Wo_refused, b2, kk1, kk2, hk, h1]
          exact hself (Or.inl h1)
        · by_cases h2 : rdP f (snN 0 (q ++ q2)) (snI (hld f) (fun _ => 0) (q ++ q2)) pl = true
          · simp only [u_Do_swap_38, u_Do_swap_40, u_Do_swap_41, u_Do_swap_44, u_Do_swap_47, u_Do_swap_50, u_Do_swap_51, u_Do_swap_54, u_Do_swap_57, u_Do_swap_58, u_Do_swap_59, u_Do_swap_61, u_Do_swap_64, u_Do_swap_65, u_Do_swap_67, u_Do_swap_70, u_Do_swap_73, u_Do_swap_75, u_Do_swap_76, u_Do_swap_78, u_Do_swap_80, u_Do_swap_83, u_Do_swap_84, u_Do_swap_87, u_Do_swap_89, u_Do_swap_92, u_Do_swap_95, u_Do_swap_96, u_Do_swap_99, u_Do_swap_101, u_Do_swap_104, u_Do_swap_107, u_Do_swap_109, h1_152, h1_149, gt_152_2, ne_eq, not_false_eq_true, not_true_eq_false, true_and, and_true, true_or, or_true, eq_self, Option.toList_some, Option.toList_none, List.cons_append, List.nil_append, tc_0, tc_I, tc_L, tc_A, Nat.reduceAdd, Nat.reduceLeDiff, Nat.reduceEqDiff, Int.reduceEq, Int.reduceLT, Int.reduceLE, Int.reduceNeg, Int.reduceToNat, Int.cast_ofNat_Int, if_true, if_false, and_self, or_self, ite_self, bI_0, bI_1, bI_01, Bool.false_eq_true, reduceCtorEq, s_Wo_refused, b2, kk1, kk2, hk, h1, hw1, h2, bB_t]
            exact hself (Or.inr (Or.inl h2))
          · have h2' : rdP f (snN 0 (q ++ q2)) (snI (hld f) (fun _ => 0) (q ++ q2)) pl = false := by simpa using h2
            by_cases h3 : rdP f (snN 0 (q ++ q2)) (snI (hld f) (fun _ => 0) (q ++ q2)) pl2 = true
            · simp only [u_Do_swap_38, u_Do_swap_40, u_Do_swap_41, u_Do_swap_44, u_Do_swap_47, u_Do_swap_50, u_Do_swap_51, u_Do_swap_54, u_Do_swap_57, u_Do_swap_58, u_Do_swap_59, u_Do_swap_61, u_Do_swap_64, u_Do_swap_65, u_Do_swap_67, u_Do_swap_70, u_Do_swap_73, u_Do_swap_75, u_Do_swap_76, u_Do_swap_78, u_Do_swap_80, u_Do_swap_83, u_Do_swap_84, u_Do_swap_87, u_Do_swap_89, u_Do_swap_92, u_Do_swap_95, u_Do_swap_96, u_Do_swap_99, u_Do_swap_101, u_Do_swap_104, u_Do_swap_107, u_Do_swap_109, h1_152, h1_149, gt_152_2, ne_eq, not_false_eq_true, not_true_eq_false, true_and, and_true, true_or, or_true, eq_self, Option.toList_some, Option.toList_none, List.cons_append, List.nil_append, tc_0, tc_I, tc_L, tc_A, Nat.reduceAdd, Nat.reduceLeDiff, Nat.reduceEqDiff, Int.reduceEq, Int.reduceLT, Int.reduceLE, Int.reduceNeg, Int.reduceToNat, Int.cast_ofNat_Int, if_true, if_false, and_self, or_self, ite_self, bI_0, bI_1, bI_01, Bool.false_eq_true, reduceCtorEq, s_Wo_refused, b2, kk1, kk2, hk, h1, hw1, hw2, h2', h3, bB_t, bB_f]
              exact hself (Or.inr (Or.inr h3))
            · have h3' : rdP f (snN 0 (q ++ q2)) (snI (hld f) (fun _ => 0) (q ++ q2)) pl2 = false := by simpa using h3
              have ld1 : ∀ Q, VV L (d + 5 * c + 9) m_Do_load 0 [some (tA 152), some (tI (spC f pl))] [] (WW f2 t g) Q = Q (some (tL (ldP f pl))) (WW f2 t g) := fun Q => by rw [s1, s_Do_load (d := d + 5 * c + 8) k1, ldP_FX hx2 hok]
              have ld2 : ∀ Q, VV L (d + 5 * c + 9) m_Do_load 0 [some (tA 152), some (tI (spC f pl2))] [] (WW f2 t g) Q = Q (some (tL (ldP f pl2))) (WW f2 t g) := fun Q => by rw [s2, s_Do_load (d := d + 5 * c + 8) k2, ldP_FX hx2 hok2]
              have st1 : ∀ v Q, VV L (d + 5 * c + 9) m_Do_store 0 [some (tA 152), some (tI (spC f pl)), some (tL v), none] [] (WW f2 t g) Q = Q none (WW (stP f2 v pl) t g) := fun v Q => by rw [s1]; exact s_Do_store (d := d + 5 * c + 7) k1
              have st2 : ∀ u v Q, VV L (d + 5 * c + 9) m_Do_store 0 [some (tA 152), some (tI (spC f pl2)), some (tL v), none] [] (WW (stP f2 u pl) t g) Q = Q none (WW (stP (stP f2 u pl) v pl2) t g) := fun u v Q => by
                have hs := stP_ok (v := u) k1 k2
                rw [s2, ← hs.2]; exact s_Do_store (d := d + 5 * c + 7) hs.1
              simp only [u_Do_swap_38, u_Do_swap_40, u_Do_swap_41, u_Do_swap_44, u_Do_swap_47, u_Do_swap_50, u_Do_swap_51, u_Do_swap_54, u_Do_swap_57, u_Do_swap_58, u_Do_swap_59, u_Do_swap_61, u_Do_swap_64, u_Do_swap_65, u_Do_swap_67, u_Do_swap_70, u_Do_swap_73, u_Do_swap_75, u_Do_swap_76, u_Do_swap_78, u_Do_swap_80, u_Do_swap_83, u_Do_swap_84, u_Do_swap_87, u_Do_swap_89, u_Do_swap_92, u_Do_swap_95, u_Do_swap_96, u_Do_swap_99, u_Do_swap_101, u_Do_swap_104, u_Do_swap_107, u_Do_swap_109, u_Do_swap_110, u_Do_swap_111, u_Do_swap_113, u_Do_swap_116, u_Do_swap_118, u_Do_swap_119, u_Do_swap_121, u_Do_swap_122, u_Do_swap_124, u_Do_swap_127, h1_152, h1_149, gt_152_2, ne_eq, not_false_eq_true, not_true_eq_false, true_and, and_true, true_or, or_true, eq_self, Option.toList_some, Option.toList_none, List.cons_append, List.nil_append, tc_0, tc_I, tc_L, tc_A, Nat.reduceAdd, Nat.reduceLeDiff, Nat.reduceEqDiff, Int.reduceEq, Int.reduceLT, Int.reduceLE, Int.reduceNeg, Int.reduceToNat, Int.cast_ofNat_Int, if_true, if_false, and_self, or_self, ite_self, bI_0, bI_1, bI_01, Bool.false_eq_true, reduceCtorEq, s_Wo_refused, b2, kk1, kk2, hk, h1, hw1, hw2, h2', h3', bB_f, ld1, ld2, st1]
              simp only [u_Do_swap_130, u_Do_swap_131, u_Do_swap_133, u_Do_swap_135, u_Do_swap_138, u_Do_swap_139, h1_152, ne_eq, not_false_eq_true, not_true_eq_false, true_and, and_true, true_or, or_true, eq_self, Option.toList_some, Option.toList_none, List.cons_append, List.nil_append, tc_0, tc_I, tc_L, tc_A, Nat.reduceAdd, Nat.reduceLeDiff, Nat.reduceEqDiff, Int.reduceEq, Int.reduceLT, Int.reduceLE, Int.reduceNeg, Int.reduceToNat, Int.cast_ofNat_Int, if_true, if_false, and_self, or_self, ite_self, bI_0, bI_1, bI_01, Bool.false_eq_true, reduceCtorEq, st2]
              refine hQ' 0 _ ?_
              rw [if_pos hk, if_neg (fun hh => by rcases hh with hh | hh | hh; exact h1 hh; exact h2 hh; exact h3 hh)]
              exact ⟨rfl, stP_FX (stP_FX hx2 hok) (stP_ok hok hok2).1⟩
      · simp only [u_Do_swap_38, u_Do_swap_40, u_Do_swap_41, u_Do_swap_44, u_Do_swap_47, u_Do_swap_50, u_Do_swap_51, u_Do_swap_54, u_Do_swap_57, u_Do_swap_58, u_Do_swap_59, u_Do_swap_61, u_Do_swap_64, u_Do_swap_65, u_Do_swap_67, u_Do_swap_70, u_Do_swap_73, u_Do_swap_75, h1_152, h1_149, gt_152_2, ne_eq, not_false_eq_true, not_true_eq_false, true_and, and_true, true_or, or_true, eq_self, Option.toList_some, Option.toList_none, List.cons_append, List.nil_append, tc_0, tc_I, tc_L, tc_A, Nat.reduceAdd, Nat.reduceLeDiff, Nat.reduceEqDiff, Int.reduceEq, Int.reduceLT, Int.reduceLE, Int.reduceNeg, Int.reduceToNat, Int.cast_ofNat_Int, if_true, if_false, and_self, or_self, ite_self, bI_0, bI_1, bI_01, Bool.false_eq_true, reduceCtorEq, s_Wo_refused, b2, kk1, kk2, hk]
        exact hQ' 10 f2 (by rw [if_neg hk]; exact ⟨rfl, hx2⟩)
end
