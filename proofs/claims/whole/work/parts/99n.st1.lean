/-! What a step leaves: the rest stands; values are such as their kinds have -/
def FQ (f f' : Mem) : Prop := ∀ b j, b < 20 ∨ 48 < b → ¬ b = 149 → ¬ b = 150 → f' b j = f b j
theorem FQ_X {f f' : Mem} (h : FX f f') : FQ f f' := fun b j _ h1 h2 => h b j (by omega)
theorem FQ_tr {f f1 f2 : Mem} (h : FQ f f1) (h' : FQ f1 f2) : FQ f f2 := fun b j a b' c => (h' b j a b' c).trans (h b j a b' c)
theorem FQ_m {f : Mem} {b j : Nat} {v : Int} (h : 20 ≤ b ∧ b ≤ 48) : FQ f (mset f b j v) := fun b' j' h1 _ _ => by rw [rd, if_neg (by omega)]
theorem FQ_bg {f : Mem} {k : Nat} {v : Int} : FQ f (bgN f k v) := FQ_tr (FQ_m (by omega)) (FQ_m (by omega))
theorem FQ_st {f : Mem} {v : Int} {pl : Pl} (h : OkP f pl) : FQ f (stP f v pl) := by
  match pl, h with
  | .inl k, h => exact FQ_tr (FQ_m (by omega)) (FQ_m (by omega))
  | .inr (r, i), h =>
    obtain ⟨a1, a2, a3, a4, _⟩ := h
    exact FQ_m (by omega)
theorem cut_0 {k : Int} : cutI k 0 = 0 := by
  have h : w32 0 = 0 := by decide
  unfold cutI; rw [h]; (repeat' split) <;> first | rfl | decide
section
variable {f g f' : Mem} {TH c : Nat}
theorem RC_fr (h : RC f) (hr : ∀ k : Nat, k < 14 → hC f k < 15) (hf : ∀ b j, 20 ≤ b → b ≤ 48 → f' b j = f b j) : RC f' := by
  have hh : ∀ k, hC f' k = hC f k := fun k => by unfold hC; rw [hf 29 _ (by omega) (by omega), hf 30 _ (by omega) (by omega)]
  refine ⟨fun k hk h1 => ?_, fun s i hs hi => ?_, fun k hk h0 i hi => ?_⟩
  · rw [hf 20 k (by omega) (by omega)] at h1
    rw [hf 21 k (by omega) (by omega)]; exact h.n k hk h1
  · rw [hf 27 s (by omega) (by omega)] at hi
    rw [hf (23 + s) i (by omega) (by omega)]; exact h.p s i hs hi
  · have := hr k hk
    rw [hh] at h0 hi ⊢
    rw [hf 32 _ (by omega) (by omega)] at hi
    rw [hf 31 _ (by omega) (by omega), hf _ _ (by omega) (by omega)]
    exact h.i k hk h0 i hi
theorem hC_15 (hS : RSt f g TH) : ∀ k : Nat, k < 14 → hC f k < 15 := fun k hk => by
  rcases hS.rw k hk with q | q
  · omega
  · exact q.2.1
theorem RC_X (h : RC f) (hS : RSt f g TH) (hf : FX f f') : RC f' := RC_fr h (hC_15 hS) (fun b j h1 h2 => hf b j (by omega))
theorem RC_bg {k : Nat} {v : Int} (h : RC f) (hv : w32 v = v) : RC (bgN f k v) := by
  have ff : ∀ b j, ¬ b = 20 → ¬ b = 21 → bgN f k v b j = f b j := fun b j h1 h2 => by unfold bgN; rw [rd, if_neg (by omega), rd, if_neg (by omega)]
  have hh : ∀ k', hC (bgN f k v) k' = hC f k' := hC_eq (fun j => ff 29 j (by omega) (by omega)) (fun j => ff 30 j (by omega) (by omega))
  refine ⟨fun q hq h1 => ?_, fun s i hs hi => ?_, fun q hq h0 i hi => ?_⟩
  · unfold bgN at h1 ⊢
    by_cases e : q = k
    · subst e; rw [rd, if_pos (by simp)]; exact hv
    · rw [rd, if_neg (by omega), rd, if_neg (by omega)] at h1
      rw [rd, if_neg (by omega), rd, if_neg (by omega)]; exact h.n q hq h1
  · rw [ff 27 s (by omega) (by omega)] at hi
    rw [ff (23 + s) i (by omega) (by omega)]; exact h.p s i hs hi
  · rw [hh] at h0 hi ⊢
    rw [ff 32 _ (by omega) (by omega)] at hi
    rw [ff 31 _ (by omega) (by omega), ff _ _ (by omega) (by omega)]
    exact h.i q hq h0 i hi
theorem RC_rm {k : Nat} (h : RC f) : RC (mset f 20 k 0) := by
  have ff : ∀ b j, ¬ b = 20 → (mset f 20 k 0) b j = f b j := fun b j h1 => by rw [rd, if_neg (by omega)]
  have hh : ∀ k', hC (mset f 20 k 0) k' = hC f k' := hC_eq (fun j => ff 29 j (by omega)) (fun j => ff 30 j (by omega))
  refine ⟨fun q hq h1 => ?_, fun s i hs hi => ?_, fun q hq h0 i hi => ?_⟩
  · by_cases e : q = k
    · subst e; rw [rd, if_pos (by simp)] at h1; omega
    · rw [rd, if_neg (by omega)] at h1
      rw [ff 21 q (by omega)]; exact h.n q hq h1
  · rw [ff 27 s (by omega)] at hi
    rw [ff (23 + s) i (by omega)]; exact h.p s i hs hi
  · rw [hh] at h0 hi ⊢
    rw [ff 32 _ (by omega)] at hi
    rw [ff 31 _ (by omega), ff _ _ (by omega)]
    exact h.i q hq h0 i hi
theorem RC_hold {z : Nat} {n : Int} (h : RC f) (hz : z < 14) (hn : n = -1 ∨ ∃ k', k' < 14 ∧ n = hC f k') : RC (setH f z n) := by
  have ff : ∀ b j, ¬ b = 29 → ¬ b = 30 → setH f z n b j = f b j := fun b j h1 h2 => setH_o h1 h2
  refine ⟨fun q hq h1 => ?_, fun s i hs hi => ?_, fun q hq h0 i hi => ?_⟩
  · rw [ff 20 q (by omega) (by omega)] at h1
    rw [ff 21 q (by omega) (by omega)]; exact h.n q hq h1
  · rw [ff 27 s (by omega) (by omega)] at hi
    rw [ff (23 + s) i (by omega) (by omega)]; exact h.p s i hs hi
  · have key : ∃ k', k' < 14 ∧ hC (setH f z n) q = hC f k' := by
      rw [hC_set hz q hq] at h0 ⊢
      by_cases e : q = z
      · rw [if_pos e] at h0 ⊢
        rcases hn with hn | ⟨k', h1, h2⟩
        · omega
        · exact ⟨k', h1, h2⟩
      · rw [if_neg e]; exact ⟨q, hq, rfl⟩
    obtain ⟨k', hk', e⟩ := key
    rw [e] at h0 hi ⊢
    rw [ff 32 _ (by omega) (by omega)] at hi
    rw [ff 31 _ (by omega) (by omega), ff _ _ (by omega) (by omega)]
    exact h.i k' hk' h0 i hi
theorem RC_new {z n : Nat} {kd ct : Int} (h : RC f) (hz : z < 14) (hn : n < 15) (hct : ct ≤ 12) (fn : ∀ k, k < 14 → ¬ k = z → ¬ hC f k = n) (hr : ∀ k : Nat, k < 14 → hC f k < 15) : RC (setH (mkC f n kd ct) z n) := by
  have m0 : ∀ b j, ¬ b = 31 → ¬ b = 32 → ¬ b = 34 + n → mkC f n kd ct b j = f b j := by
    intro b j h1 h2 h3; unfold mkC; rw [zfl_o h3, rd, if_neg (by omega), rd, if_neg (by omega)]
  have ff : ∀ b j, ¬ b = 29 → ¬ b = 30 → setH (mkC f n kd ct) z n b j = mkC f n kd ct b j := fun b j h1 h2 => setH_o h1 h2
  have hCm : ∀ k, hC (mkC f n kd ct) k = hC f k := fun k => by unfold hC; rw [m0 29 _ (by omega) (by omega) (by omega), m0 30 _ (by omega) (by omega) (by omega)]
  refine ⟨fun q hq h1 => ?_, fun s i hs hi => ?_, fun q hq h0 i hi => ?_⟩
  · rw [ff 20 q (by omega) (by omega), m0 20 q (by omega) (by omega) (by omega)] at h1
    rw [ff 21 q (by omega) (by omega), m0 21 q (by omega) (by omega) (by omega)]; exact h.n q hq h1
  · rw [ff 27 s (by omega) (by omega), m0 27 s (by omega) (by omega) (by omega)] at hi
    rw [ff (23 + s) i (by omega) (by omega), m0 (23 + s) i (by omega) (by omega) (by omega)]; exact h.p s i hs hi
  · rw [hC_set hz q hq, hCm] at h0 hi ⊢
    by_cases e : q = z
    · rw [if_pos e] at h0 hi ⊢
      have nN : ((n : Int)).toNat = n := by omega
      rw [nN] at hi ⊢
      have h32 : setH (mkC f n kd ct) z n 32 n = ct := by rw [ff 32 _ (by omega) (by omega)]; unfold mkC; rw [zfl_o (by omega), rd, if_pos (by simp)]
      rw [h32] at hi
      have h34 : setH (mkC f n kd ct) z n (34 + n) i = 0 := by rw [ff _ _ (by omega) (by omega)]; unfold mkC; rw [zfl_v (by omega)]
      rw [h34]; exact cut_0
    · rw [if_neg e] at h0 hi ⊢
      have hne := fn q hq e
      have h15 := hr q hq
      rw [ff 32 _ (by omega) (by omega)] at hi
      rw [ff 31 _ (by omega) (by omega), ff _ _ (by omega) (by omega)]
      have h31 : mkC f n kd ct 31 (hC f q).toNat = f 31 (hC f q).toNat := by unfold mkC; rw [zfl_o (by omega), rd, if_neg (by omega), rd, if_neg (by omega)]
      have h32 : mkC f n kd ct 32 (hC f q).toNat = f 32 (hC f q).toNat := by unfold mkC; rw [zfl_o (by omega), rd, if_neg (by omega), rd, if_neg (by omega)]
      have h34 : mkC f n kd ct (34 + (hC f q).toNat) i = f (34 + (hC f q).toNat) i := m0 _ _ (by omega) (by omega) (by omega)
      rw [h32] at hi
      rw [h31, h34]
      exact h.i q hq h0 i hi
theorem RC_pu {k s : Nat} (h : RC f) (hS : RSt f g TH) (hk : k < 26) (hs : s < 4) (h1 : f 20 k = 1) : RC (puC f k s) := by
  have hh := hS.hg s hs
  have hv := h.n k hk h1
  unfold puC
  refine RC_bg ?_ (by decide)
  · have ff : ∀ b j, ¬ b = 27 → ¬ b = 23 + s → (mset (mset f 27 s (f 27 s + 1)) (23 + s) (f 27 s).toNat (f 21 k)) b j = f b j := fun b j q1 q2 => by rw [rd, if_neg (by omega), rd, if_neg (by omega)]
    have hH := hC_eq (f := f) (f' := mset (mset f 27 s (f 27 s + 1)) (23 + s) (f 27 s).toNat (f 21 k)) (fun j => ff 29 j (by omega) (by omega)) (fun j => ff 30 j (by omega) (by omega))
    refine ⟨fun q hq q1 => ?_, fun z i hz hi => ?_, fun q hq h0 i hi => ?_⟩
    · rw [ff 20 q (by omega) (by omega)] at q1
      rw [ff 21 q (by omega) (by omega)]; exact h.n q hq q1
    · by_cases e : z = s
      · subst e
        rw [rd, if_neg (by omega), rd, if_pos (by simp)] at hi
        by_cases e2 : i = (f 27 z).toNat
        · rw [rd, if_pos ⟨rfl, e2⟩]; exact hv
        · rw [rd, if_neg (by omega), rd, if_neg (by omega)]; exact h.p z i hz (by omega)
      · rw [rd, if_neg (by omega), rd, if_neg (by omega)] at hi
        rw [ff _ _ (by omega) (by omega)]; exact h.p z i hz hi
    · rw [hH] at h0 hi ⊢
      rw [ff 32 _ (by omega) (by omega)] at hi
      rw [ff 31 _ (by omega) (by omega), ff _ _ (by omega) (by omega)]
      exact h.i q hq h0 i hi
theorem RC_po {k s : Nat} (h : RC f) (hS : RSt f g TH) (hs : s < 4) (h0 : ¬ f 27 s = 0) : RC (poC f k s) := by
  have hh := hS.hg s hs
  unfold poC
  refine RC_bg ?_ (h.p s (f 27 s - 1).toNat hs (by omega))
  have ff : ∀ b j, ¬ b = 27 → (mset f 27 s (f 27 s - 1)) b j = f b j := fun b j q1 => by rw [rd, if_neg (by omega)]
  have hH := hC_eq (f := f) (f' := mset f 27 s (f 27 s - 1)) (fun j => ff 29 j (by omega)) (fun j => ff 30 j (by omega))
  refine ⟨fun q hq q1 => ?_, fun z i hz hi => ?_, fun q hq h0 i hi => ?_⟩
  · rw [ff 20 q (by omega)] at q1
    rw [ff 21 q (by omega)]; exact h.n q hq q1
  · rw [ff _ _ (by omega)]
    by_cases e : z = s
    · subst e
      rw [rd, if_pos (by simp)] at hi
      exact h.p z i hz (by omega)
    · rw [rd, if_neg (by omega)] at hi
      exact h.p z i hz hi
  · rw [hH] at h0 hi ⊢
    rw [ff 32 _ (by omega)] at hi
    rw [ff 31 _ (by omega), ff _ _ (by omega)]
    exact h.i q hq h0 i hi
theorem stP_29 {v : Int} {pl : Pl} {b j : Nat} (h : OkP f pl) (hb : b = 29 ∨ b = 30) : stP f v pl b j = f b j := by
  match pl, h with
  | .inl k, h => simp only [stP, rd]; rw [if_neg (by omega), if_neg (by omega)]
  | .inr (r, i), h => have := h.2.2.1; simp only [stP, rd]; rw [if_neg (by omega)]
theorem RC_st {v : Int} {pl : Pl} (h : RC f) (hr : ∀ k : Nat, k < 14 → hC f k < 15) (hok : OkP f pl) : RC (stP f v pl) := by
  match pl, hok with
  | .inl k, hok => exact RC_bg h w32_w32
  | .inr (r, i'), hok =>
    obtain ⟨a1, a2, a3, a4, a5, a6, a7, a8, a9⟩ := hok
    show RC (mset f (34 + (f 29 r.toNat).toNat) i'.toNat (cutI (f 31 (f 29 r.toNat).toNat) v))
    have ff : ∀ b j, ¬ b = 34 + (f 29 r.toNat).toNat → (mset f (34 + (f 29 r.toNat).toNat) i'.toNat (cutI (f 31 (f 29 r.toNat).toNat) v)) b j = f b j := fun b j q1 => by rw [rd, if_neg (by omega)]
    have hH := hC_eq (f := f) (f' := mset f (34 + (f 29 r.toNat).toNat) i'.toNat (cutI (f 31 (f 29 r.toNat).toNat) v)) (fun j => ff 29 j (by omega)) (fun j => ff 30 j (by omega))
    refine ⟨fun q hq q1 => ?_, fun z i hz hi => ?_, fun q hq h0 i hi => ?_⟩
    · rw [ff 20 q (by omega)] at q1
      rw [ff 21 q (by omega)]; exact h.n q hq q1
    · rw [ff 27 _ (by omega)] at hi
      rw [ff _ _ (by omega)]; exact h.p z i hz hi
    · have h15 := hr q hq
      rw [hH] at h0 hi ⊢
      rw [ff 32 _ (by omega)] at hi
      rw [ff 31 _ (by omega), rd]
      by_cases e : 34 + (hC f q).toNat = 34 + (f 29 r.toNat).toNat ∧ i = i'.toNat
      · rw [if_pos e, show (hC f q).toNat = (f 29 r.toNat).toNat by omega]; exact cut_cut
      · rw [if_neg e]; exact h.i q hq h0 i hi
/-- a step leaves what is no state, and values such as their kinds have -/
theorem St1_ok {op code : Int} (h : RC f) (hS : RSt f g TH) (s : SS c) (hw : wS false s) (hSt : St1 f op s code f') (hno : ¬ (opS1 s = 206 ∨ opS1 s = 207)) : FQ f f' ∧ RC f' := by
  have hr := hC_15 hS
  have nop : FX f f' → FQ f f' ∧ RC f' := fun hx => ⟨FQ_X hx, RC_X h hS hx⟩
  match s, hw, hSt, hno with
  | .inl (k, n, e), hw, hSt, hno =>
    have hb : 97 ≤ n ∧ n ≤ 122 := by have : kName n = true := hw.2.1; unfold kName at this; simpa using this
    have fin1 : ∀ v, FX (bgN f (n - 97).toNat (w32 v)) f' → FQ f f' ∧ RC f' := fun v hx => ⟨FQ_tr FQ_bg (FQ_X hx), RC_X (RC_bg h w32_w32) (RSt_bring hS (show (n - 97).toNat < 26 by omega)) hx⟩
    have fin2 : FX (mset f 20 (n - 97).toNat 0) f' → FQ f f' ∧ RC f' := fun hx => ⟨FQ_tr (FQ_m (by omega)) (FQ_X hx), RC_X (RC_rm h) (RSt_remove (v := 0) hS (show (n - 97).toNat < 26 by omega)) hx⟩
    unfold St1 at hSt
    dsimp only at hSt
    split at hSt
    · split at hSt
      · exact nop hSt.2
      · split at hSt
        · exact nop hSt.2.2
        · exact fin1 _ hSt.2
    · split at hSt
      · split at hSt
        · exact nop hSt.2.2
        · split at hSt
          · exact fin2 hSt.2
          · exact nop hSt.2
      · exact nop hSt.2
  | .inr (.inl (p, o, e)), hw, hSt, hno =>
    unfold St1 at hSt
    dsimp only at hSt
    unfold ChC at hSt
    split at hSt
    · exact nop hSt.2.2
    · rename_i hv
      have hok := vP_ok hS p hw.2.1 hv
      split at hSt
      · exact nop hSt.2
      · split at hSt
        · exact nop hSt.2.2
        · refine ⟨FQ_tr (FQ_st hok) (FQ_X hSt.2), ?_⟩
          refine RC_fr (RC_st h hr hok) ?_ (fun b j h1 h2 => hSt.2 b j (by omega))
          intro q hq
          rw [hC_eq (fun j => stP_29 hok (Or.inl rfl)) (fun j => stP_29 hok (Or.inr rfl)) q]; exact hr q hq
  | .inr (.inr (.inl (p, p2))), hw, hSt, hno =>
    unfold St1 at hSt
    dsimp only at hSt
    unfold SwC at hSt
    split at hSt
    · exact nop hSt.2.2
    · rename_i hv
      have hok := vP_ok hS p hw.2.1 hv
      split at hSt
      · exact nop hSt.2.2
      · rename_i hv2
        have hok2 := vP_ok hS p2 hw.2.2 hv2
        split at hSt
        · split at hSt
          · exact nop hSt.2
          · have hk := fun v => (stP_ok (v := v) hok hok2).1
            have hr1 : ∀ v, ∀ q : Nat, q < 14 → hC (stP f v _) q < 15 := fun v q hq => by
              rw [hC_eq (fun j => stP_29 hok (Or.inl rfl)) (fun j => stP_29 hok (Or.inr rfl)) q]; exact hr q hq
            refine ⟨FQ_tr (FQ_st hok) (FQ_tr (FQ_st (hk _)) (FQ_X hSt.2)), ?_⟩
            refine RC_fr (RC_st (RC_st h hr hok) (hr1 _) (hk _)) ?_ (fun b j h1 h2 => hSt.2 b j (by omega))
            intro q hq
            rw [hC_eq (fun j => stP_29 (hk _) (Or.inl rfl)) (fun j => stP_29 (hk _) (Or.inr rfl)) q]; exact hr1 _ q hq
        · exact nop hSt.2
  | .inr (.inr (.inr (.inl (k, n, z)))), hw, hSt, hno =>
    have hb : 97 ≤ n ∧ n ≤ 122 := by have : kName n = true := hw.2.2.1; unfold kName at this; simpa using this
    have hz : 83 ≤ z ∧ z ≤ 86 := by have : kStk z = true := hw.2.2.2; unfold kStk at this; simpa using this
    have hk26 : (n - 97).toNat < 26 := by omega
    have hs4 : (z - 83).toNat < 4 := by omega
    unfold St1 at hSt
    dsimp only at hSt
    split at hSt
    · split at hSt
      · rename_i h1
        split at hSt
        · exact nop hSt.2
        · rename_i h2
          refine ⟨FQ_tr (FQ_tr (FQ_m (by omega)) (FQ_tr (FQ_m (by omega)) FQ_bg)) (FQ_X hSt.2), RC_X (RC_pu h hS hk26 hs4 h1) (RSt_push hS hk26 hs4 h1 h2) hSt.2⟩
      · exact nop hSt.2
    · split at hSt
      · rename_i h1
        split at hSt
        · split at hSt
          · exact nop hSt.2
          · rename_i h2
            refine ⟨FQ_tr (FQ_tr (FQ_m (by omega)) FQ_bg) (FQ_X hSt.2), RC_X (RC_po h hS hs4 h2) (RSt_pop hS hk26 hs4 h1 h2) hSt.2⟩
        · exact nop hSt.2
      · exact nop hSt.2
  | .inr (.inr (.inr (.inr (.inl (k, n, z, e))))), hw, hSt, hno =>
    have hb : 65 ≤ n ∧ n ≤ 70 := by have : kRow n = true := hw.2.2.1; unfold kRow at this; simpa using this
    have hk6 : (n - 65).toNat < 6 := by omega
    unfold St1 at hSt
    dsimp only at hSt
    split at hSt
    · split at hSt
      · split at hSt
        · exact nop hSt.2.2
        · rename_i v qq hv
          split at hSt
          · exact nop hSt.2
          · rename_i hnv
            obtain ⟨_, m, hm, hfree, hx⟩ := hSt
            have hset : ∀ (F : Mem) (u : Int), setH F (n - 65).toNat u = mset F 29 (n - 65).toNat u := fun F u => by unfold setH; rw [if_pos hk6]
            rw [← hset] at hx
            have hq : FQ f (mkC f m (z - 217) v) := fun b j h1 _ _ => by
              unfold mkC; rw [zfl_o (by omega), rd, if_neg (by omega), rd, if_neg (by omega)]
            refine ⟨FQ_tr hq (FQ_tr (by rw [hset]; exact FQ_m (by omega)) (FQ_X hx)), ?_⟩
            refine RC_fr (RC_new h (by omega) hm (by omega) (fun k hk _ => hfree k hk) hr) ?_ (fun b j h1 h2 => hx b j (by omega))
            intro q hq
            rw [hC_set (by omega) q hq]
            split
            · omega
            · have : hC (mkC f m (z - 217) v) q = hC f q := hC_eq (fun j => by unfold mkC; rw [zfl_o (by omega), rd, if_neg (by omega), rd, if_neg (by omega)]) (fun j => by unfold mkC; rw [zfl_o (by omega), rd, if_neg (by omega), rd, if_neg (by omega)]) q
              rw [this]; exact hr q hq
      · exact nop hSt.2
    · split at hSt
      · exact nop hSt.2
      · split at hSt
        · split at hSt
          · exact nop hSt.2.2
          · rcases hSt with ⟨_, _, _, hx⟩ | ⟨_, _, hx⟩
            · have hset : setH f (n - 65).toNat (-1) = mset f 29 (n - 65).toNat (-1) := by unfold setH; rw [if_pos hk6]
              refine ⟨FQ_tr (FQ_m (by omega)) (FQ_X hx), ?_⟩
              rw [← hset] at hx
              exact RC_X (RC_hold h (by omega) (Or.inl rfl)) (RSt_end hS (by omega)) hx
            · exact nop hx
        · exact nop hSt.2
  | .inr (.inr (.inr (.inr (.inr (k, n))))), hw, hSt, hno =>
    exact absurd (show opS1 (.inr (.inr (.inr (.inr (.inr (k, n))))) : SS c) = 206 ∨ opS1 (.inr (.inr (.inr (.inr (.inr (k, n))))) : SS c) = 207 from hw.2.1) hno
end
