/-! simple steps end at their first ; -/
theorem tks_len {T : Int → Int} : ∀ (m : Nat) (i : Int), (tks T i m).length = m := by
  intro m
  induction m with
  | zero => intro i; rfl
  | succ m ih => intro i; simp [tks, ih]
theorem seg_split {T : Int → Int} {i k : Int} {l m : List Int} (h : seg T i k (l ++ m)) : seg T i (i + l.length) l ∧ seg T (i + l.length) k m := by
  obtain ⟨h1, h2⟩ := h
  have hlen : (l ++ m).length = (k - i).toNat := by rw [h2, tks_len]
  rw [List.length_append] at hlen
  have e : (k - i).toNat = l.length + m.length := by omega
  rw [e, tks_add] at h2
  have q := List.append_inj h2 (by rw [tks_len])
  refine ⟨⟨by omega, ?_⟩, ⟨by omega, ?_⟩⟩
  · rw [show (i + (l.length : Int) - i).toNat = l.length by omega]; exact q.1
  · rw [show (k - (i + (l.length : Int))).toNat = m.length by omega]; exact q.2
theorem seg_hd {T : Int → Int} {i k v : Int} {l : List Int} (h : seg T i k (v :: l)) : T i = v ∧ seg T (i + 1) k l := by
  have q := seg_split (l := [v]) (m := l) h
  refine ⟨?_, q.2⟩
  have := q.1.2
  rw [show (i + (([v] : List Int).length : Int) - i).toNat = 1 by show (i + 1 - i).toNat = 1; omega] at this
  exact (List.cons.inj this).1.symm
theorem seg_len {T : Int → Int} {i j : Int} {l : List Int} (h : seg T i j l) : j = i + l.length := by
  have := h.1
  have e : l.length = (j - i).toNat := by rw [h.2, tks_len]
  omega
/-- the tokens ahead of the ; -/
def kS0 {c : Nat} : SS c → List Int
  | .inl (k, n, e) => k :: n :: 61 :: kX e
  | .inr (.inl (p, o, e)) => kP p ++ o :: kX e
  | .inr (.inr (.inl (p, q))) => kP p ++ 133 :: kP q
  | .inr (.inr (.inr (.inl (k, n, s)))) => [k, n, s]
  | .inr (.inr (.inr (.inr (.inl (k, r, d, e))))) => k :: r :: d :: kX e
  | .inr (.inr (.inr (.inr (.inr (k, n))))) => [k, n]
theorem kS_0 {c : Nat} (s : SS c) : kS s = kS0 s ++ [59] := by
  match s with
  | .inl (k, n, e) => simp [kS, kS0]
  | .inr (.inl (p, o, e)) => simp [kS, kS0]
  | .inr (.inr (.inl (p, q))) => simp [kS, kS0]
  | .inr (.inr (.inr (.inl (k, n, s)))) => simp [kS, kS0]
  | .inr (.inr (.inr (.inr (.inl (k, r, d, e))))) => simp [kS, kS0]
  | .inr (.inr (.inr (.inr (.inr (k, n))))) => simp [kS, kS0]
def nSep (v : Int) : Prop := ¬ v = 59 ∧ ¬ v = 123 ∧ ¬ v = 125
theorem eTk_s {v : Int} (h : eTk v) : nSep v := ⟨(eTk_no h).1, (eTk_no h).2.1, (eTk_no h).2.2.1⟩
theorem kS0_s {c : Nat} {o : Bool} (s : SS c) (h : wS o s) : ∀ v ∈ kS0 s, nSep v := by
  have kn : ∀ n, kName n = true → nSep n := fun n h => eTk_s (Or.inr (Or.inl h))
  have kr : ∀ n, kRow n = true → nSep n := fun n h => eTk_s (Or.inr (Or.inr (Or.inl h)))
  intro v hv
  match s with
  | .inl (k, n, e) =>
    rcases List.mem_cons.mp hv with rfl | hv
    · have := h.1; unfold nSep; cases o <;> simp at this <;> omega
    · rcases List.mem_cons.mp hv with rfl | hv
      · exact kn _ h.2.1
      · rcases List.mem_cons.mp hv with rfl | hv
        · unfold nSep; omega
        · exact eTk_s (kX_e e h.2.2 v hv)
  | .inr (.inl (p, op, e)) =>
    rcases List.mem_append.mp hv with hv | hv
    · exact eTk_s (kP_e p h.2.1 v hv)
    · rcases List.mem_cons.mp hv with rfl | hv
      · have := h.2.2.1; unfold nSep; omega
      · exact eTk_s (kX_e e h.2.2.2 v hv)
  | .inr (.inr (.inl (p, q))) =>
    rcases List.mem_append.mp hv with hv | hv
    · exact eTk_s (kP_e p h.2.1 v hv)
    · rcases List.mem_cons.mp hv with rfl | hv
      · unfold nSep; omega
      · exact eTk_s (kP_e q h.2.2 v hv)
  | .inr (.inr (.inr (.inl (k, n, s)))) =>
    rcases List.mem_cons.mp hv with rfl | hv
    · have := h.2.1; unfold nSep; omega
    · rcases List.mem_cons.mp hv with rfl | hv
      · exact kn _ h.2.2.1
      · rw [List.mem_singleton.mp hv]; have := h.2.2.2; unfold kStk at this; simp at this; unfold nSep; omega
  | .inr (.inr (.inr (.inr (.inl (k, r, d, e))))) =>
    rcases List.mem_cons.mp hv with rfl | hv
    · have := h.2.1; unfold nSep; omega
    · rcases List.mem_cons.mp hv with rfl | hv
      · exact kr _ h.2.2.1
      · rcases List.mem_cons.mp hv with rfl | hv
        · have := h.2.2.2.1; unfold kKind at this; simp at this; unfold nSep; omega
        · exact eTk_s (kX_e e h.2.2.2.2 v hv)
  | .inr (.inr (.inr (.inr (.inr (k, n))))) =>
    rcases List.mem_cons.mp hv with rfl | hv
    · have := h.2.1; unfold nSep; omega
    · rw [List.mem_singleton.mp hv]; have := h.2.2; unfold nSep; omega
theorem kS_nxt {c : Nat} {o : Bool} {T : Int → Int} {len i j : Int} (s : SS c) (h : wS o s) (hs : seg T i j (kS s)) (hj : j ≤ len) : nxt T len 59 i = j - 1 ∧ i < j ∧ T (j - 1) = 59 := by
  rw [kS_0] at hs
  have q := seg_split hs
  have q2 := seg_hd q.2
  have e := seg_len hs
  rw [List.length_append] at e
  have e1 : i + ((kS0 s).length : Int) = j - 1 := by simp at e; omega
  rw [e1] at q q2
  have := q.1.1
  exact ⟨nxt_seg q.1 (fun v hv => (kS0_s s h v hv).1) q2.1 (by omega), by omega, q2.1⟩
