/-! The relation of both between calls -/
def dgt (n : Int) : Nat := if n < 10 then 1 else if n < 100 then 2 else if n < 1000 then 3 else if n < 10000 then 4 else if n < 100000 then 5 else if n < 1000000 then 6 else if n < 10000000 then 7 else if n < 100000000 then 8 else 9
/-- what a token, or what undoes it, may take when printed, with a blank -/
def wtk (t : Int) : Nat := if t < 0 then dgt (-1 - t) + 1 else if t < 200 then (if 128 ≤ t then 3 else 2) else [6, 6, 5, 5, 4, 4, 7, 7, 3, 5, 3, 5, 5, 6, 4, 6, 5, 4, 5, 6, 5, 5].getD (t - 200).toNat 7
def wtL (l : List Int) : Nat := (l.map wtk).sum
abbrev TK {c : Nat} (t : Mem) (a : Nat) (o : Bool) (x : TB c 6) : Prop := (t a 12 = stB 6 x) ∧ (t a 13 = dpB 6 x) ∧ (t a 14 = nmN (tok t a) (t a 1).toNat) ∧ (wtL (kB 6 x) ≤ 4000) ∧ (o = true → (kB 6 x).length ≤ 600 ∧ wtL (kB 6 x) ≤ 2400 ∧ c ≤ 8)
theorem TK.f12 {c : Nat} {t : Mem} {a : Nat} {o : Bool} {x : TB c 6} (hSelf : TK t a o x) : t a 12 = stB 6 x := hSelf.1
theorem TK.f13 {c : Nat} {t : Mem} {a : Nat} {o : Bool} {x : TB c 6} (hSelf : TK t a o x) : t a 13 = dpB 6 x := hSelf.2.1
theorem TK.f14 {c : Nat} {t : Mem} {a : Nat} {o : Bool} {x : TB c 6} (hSelf : TK t a o x) : t a 14 = nmN (tok t a) (t a 1).toNat := hSelf.2.2.1
theorem TK.w {c : Nat} {t : Mem} {a : Nat} {o : Bool} {x : TB c 6} (hSelf : TK t a o x) : wtL (kB 6 x) ≤ 4000 := hSelf.2.2.2.1
theorem TK.wo {c : Nat} {t : Mem} {a : Nat} {o : Bool} {x : TB c 6} (hSelf : TK t a o x) : o = true → (kB 6 x).length ≤ 600 ∧ wtL (kB 6 x) ≤ 2400 ∧ c ≤ 8 := hSelf.2.2.2.2
abbrev Rtape (f g : Mem) : Prop := (f 1 1 = g 156 1) ∧ (0 ≤ f 1 1 ∧ f 1 1 ≤ 600) ∧ (∀ i : Nat, (i : Int) < f 1 1 → f 2 i = g 157 i ∧ 32 ≤ f 2 i ∧ f 2 i ≤ 126)
theorem Rtape.n {f g : Mem} (hSelf : Rtape f g) : f 1 1 = g 156 1 := hSelf.1
theorem Rtape.l {f g : Mem} (hSelf : Rtape f g) : 0 ≤ f 1 1 ∧ f 1 1 ≤ 600 := hSelf.2.1
theorem Rtape.y {f g : Mem} (hSelf : Rtape f g) : ∀ i : Nat, (i : Int) < f 1 1 → f 2 i = g 157 i ∧ 32 ≤ f 2 i ∧ f 2 i ≤ 126 := hSelf.2.2
abbrev Rtext (X : Nat → Tre) (f t g : Mem) : Prop := (TC X f t) ∧ (TM X f t g) ∧ (∀ r r', r < 10 → r' < 10 → aT f r = aT f r' → r = r') ∧ (isT (f 1 3).toNat) ∧ (∀ r, r < 10 → ¬ aT f r = (f 1 3).toNat) ∧ (∀ r, r < 10 → t (aT f r) 15 = 1 → TK t (aT f r) (X r).2.1 (X r).2.2)
theorem Rtext.tc {X : Nat → Tre} {f t g : Mem} (hSelf : Rtext X f t g) : TC X f t := hSelf.1
theorem Rtext.tm {X : Nat → Tre} {f t g : Mem} (hSelf : Rtext X f t g) : TM X f t g := hSelf.2.1
theorem Rtext.ds {X : Nat → Tre} {f t g : Mem} (hSelf : Rtext X f t g) : ∀ r r', r < 10 → r' < 10 → aT f r = aT f r' → r = r' := hSelf.2.2.1
theorem Rtext.sp {X : Nat → Tre} {f t g : Mem} (hSelf : Rtext X f t g) : isT (f 1 3).toNat := hSelf.2.2.2.1
theorem Rtext.sd {X : Nat → Tre} {f t g : Mem} (hSelf : Rtext X f t g) : ∀ r, r < 10 → ¬ aT f r = (f 1 3).toNat := hSelf.2.2.2.2.1
theorem Rtext.tk {X : Nat → Tre} {f t g : Mem} (hSelf : Rtext X f t g) : ∀ r, r < 10 → t (aT f r) 15 = 1 → TK t (aT f r) (X r).2.1 (X r).2.2 := hSelf.2.2.2.2.2
abbrev Rout (f g : Mem) : Prop := (f 16 1 = g 156 3) ∧ (0 ≤ f 16 1 ∧ f 16 1 ≤ 4000) ∧ (∀ i : Nat, (i : Int) < f 16 1 → f 17 i = g 158 i ∧ 32 ≤ f 17 i ∧ f 17 i ≤ 126)
theorem Rout.n {f g : Mem} (hSelf : Rout f g) : f 16 1 = g 156 3 := hSelf.1
theorem Rout.l {f g : Mem} (hSelf : Rout f g) : 0 ≤ f 16 1 ∧ f 16 1 ≤ 4000 := hSelf.2.1
theorem Rout.y {f g : Mem} (hSelf : Rout f g) : ∀ i : Nat, (i : Int) < f 16 1 → f 17 i = g 158 i ∧ 32 ≤ f 17 i ∧ f 17 i ≤ 126 := hSelf.2.2
abbrev Rrun (f t g : Mem) : Prop := (g 156 54 = f 151 11) ∧ (f 151 11 = 0 ∨ f 151 11 = 1) ∧ (f 151 11 = 1 → RnC f t ∧ RnM 1 f g ∧ w32 (f 151 9) = f 151 9) ∧ (g 156 62 = f 151 10)
theorem Rrun.th {f t g : Mem} (hSelf : Rrun f t g) : g 156 54 = f 151 11 := hSelf.1
theorem Rrun.tb {f t g : Mem} (hSelf : Rrun f t g) : f 151 11 = 0 ∨ f 151 11 = 1 := hSelf.2.1
theorem Rrun.go {f t g : Mem} (hSelf : Rrun f t g) : f 151 11 = 1 → RnC f t ∧ RnM 1 f g ∧ w32 (f 151 9) = f 151 9 := hSelf.2.2.1
theorem Rrun.wh {f t g : Mem} (hSelf : Rrun f t g) : g 156 62 = f 151 10 := hSelf.2.2.2
abbrev Rflt (f g : Mem) : Prop := (f 14 3 = g 156 12) ∧ (f 14 4 = g 156 13) ∧ (f 1 11 = g 156 64)
theorem Rflt.k {f g : Mem} (hSelf : Rflt f g) : f 14 3 = g 156 12 := hSelf.1
theorem Rflt.p {f g : Mem} (hSelf : Rflt f g) : f 14 4 = g 156 13 := hSelf.2.1
theorem Rflt.fb {f g : Mem} (hSelf : Rflt f g) : f 1 11 = g 156 64 := hSelf.2.2
def RelX (X : Nat → Tre) (TH : Nat) (f t g : Mem) : Prop := (Rtape f g) ∧ (Rtext X f t g) ∧ (Rout f g) ∧ (RSt f g TH) ∧ (RC f) ∧ (Rrun f t g) ∧ (Rflt f g)
theorem RelX_mk {X : Nat → Tre} {TH : Nat} {f t g : Mem} (h : (Rtape f g) ∧ (Rtext X f t g) ∧ (Rout f g) ∧ (RSt f g TH) ∧ (RC f) ∧ (Rrun f t g) ∧ (Rflt f g)) : RelX X TH f t g := h
theorem RelX.tp {X : Nat → Tre} {TH : Nat} {f t g : Mem} (hSelf : RelX X TH f t g) : Rtape f g := hSelf.1
theorem RelX.tx {X : Nat → Tre} {TH : Nat} {f t g : Mem} (hSelf : RelX X TH f t g) : Rtext X f t g := hSelf.2.1
theorem RelX.ou {X : Nat → Tre} {TH : Nat} {f t g : Mem} (hSelf : RelX X TH f t g) : Rout f g := hSelf.2.2.1
theorem RelX.st {X : Nat → Tre} {TH : Nat} {f t g : Mem} (hSelf : RelX X TH f t g) : RSt f g TH := hSelf.2.2.2.1
theorem RelX.rc {X : Nat → Tre} {TH : Nat} {f t g : Mem} (hSelf : RelX X TH f t g) : RC f := hSelf.2.2.2.2.1
theorem RelX.rn {X : Nat → Tre} {TH : Nat} {f t g : Mem} (hSelf : RelX X TH f t g) : Rrun f t g := hSelf.2.2.2.2.2.1
theorem RelX.fl {X : Nat → Tre} {TH : Nat} {f t g : Mem} (hSelf : RelX X TH f t g) : Rflt f g := hSelf.2.2.2.2.2.2
def Rel (f t g : Mem) : Prop := ∃ X TH, RelX X TH f t g
/-- what the reference does from here on: the answer v, and the relation again -/
def RefP (mk : Int → TV) (m : Mth) (as : Lo) (f t g : Mem) (v : Int) : Prop := ∀ (L d : Nat) (Q : Option TV → Wd → Prop), (∀ g', Rel f t g' → (∀ j, g' 900 j = g 900 j) → Q (some (mk v)) (WW f t g')) → VV L (d + 200) m 0 as [] (WW f t g) Q
def Both (mk : Int → TV) (mC : Mth) (aC : Lo) (mM : Mth) (aM : Lo) : Prop := ∀ (L d : Nat) (f t g : Mem) (Q : Option TV → Wd → Prop), Rel f t g → (∀ v f' t', RefP mk mM aM f' t' g v → Q (some (mk v)) (WW f' t' g)) → VV L (d + 200) mC 0 aC [] (WW f t g) Q
section
variable {L d : Nat} {X : Nat → Tre} {TH : Nat} {f f' t t' g g' : Mem} {mk : Int → TV} {m : Mth} {as : Lo} {v : Int}
theorem Both_of {mC : Mth} {aC : Lo} {mM : Mth} {aM : Lo} (h : ∀ (L d : Nat) (X : Nat → Tre) (TH : Nat) (f t g : Mem) (Q : Option TV → Wd → Prop), RelX X TH f t g → (∀ v f' t', RefP mk mM aM f' t' g v → Q (some (mk v)) (WW f' t' g)) → VV L (d + 200) mC 0 aC [] (WW f t g) Q) : Both mk mC aC mM aM := by
  intro L d f t g Q ⟨X, TH, hR⟩ hQ
  exact h L d X TH f t g Q hR hQ
/-- nothing changes -/
theorem RefP_0 (hR : RelX X TH f t g) (h : ∀ (L d : Nat) (Q : Option TV → Wd → Prop), VV L (d + 200) m 0 as [] (WW f t g) Q = Q (some (mk v)) (WW f t g)) : RefP mk m as f t g v := by
  intro L d Q hQ; rw [h]; exact hQ g ⟨X, TH, hR⟩ (fun _ => rfl)
theorem Rtape_fr (h : Rtape f g) (hf : ∀ b j, (b = 1 ∧ j = 1) ∨ b = 2 → f' b j = f b j) (hg : ∀ b j, (b = 156 ∧ j = 1) ∨ b = 157 → g' b j = g b j) : Rtape f' g' := by
  refine ⟨?_, ?_, fun i hi => ?_⟩
  · rw [hf 1 1 (by omega), hg 156 1 (by omega)]; exact h.n
  · rw [hf 1 1 (by omega)]; exact h.l
  · rw [hf 1 1 (by omega)] at hi
    rw [hf 2 i (by omega), hg 157 i (by omega)]; exact h.y i hi
theorem Rout_fr (h : Rout f g) (hf : ∀ b j, (b = 16 ∧ j = 1) ∨ b = 17 → f' b j = f b j) (hg : ∀ b j, (b = 156 ∧ j = 3) ∨ b = 158 → g' b j = g b j) : Rout f' g' := by
  refine ⟨?_, ?_, fun i hi => ?_⟩
  · rw [hf 16 1 (by omega), hg 156 3 (by omega)]; exact h.n
  · rw [hf 16 1 (by omega)]; exact h.l
  · rw [hf 16 1 (by omega)] at hi
    rw [hf 17 i (by omega), hg 158 i (by omega)]; exact h.y i hi
theorem Rflt_fr (h : Rflt f g) (hf : ∀ b j, (b = 14 ∧ (j = 3 ∨ j = 4)) ∨ (b = 1 ∧ j = 11) → f' b j = f b j) (hg : ∀ b j, b = 156 ∧ (j = 12 ∨ j = 13 ∨ j = 64) → g' b j = g b j) : Rflt f' g' := by
  refine ⟨?_, ?_, ?_⟩
  · rw [hf 14 3 (by omega), hg 156 12 (by omega)]; exact h.k
  · rw [hf 14 4 (by omega), hg 156 13 (by omega)]; exact h.p
  · rw [hf 1 11 (by omega), hg 156 64 (by omega)]; exact h.fb
theorem TMo_fr2 {c r : Nat} {T : Int → Int} {o : Bool} {x : TB c 6} (h : TMo g r T o x) (hg : ∀ b j, 161 ≤ b ∧ b ≤ 173 → g' b j = g b j) : TMo g' r T o x := by
  refine ⟨RT_fr2 h.rt (fun c k h1 h2 => hg c k (by omega)), RLt_mono _ _ h.ro (fun c k h1 h2 _ _ => hg c _ (by omega)), ?_, ?_⟩
  · rw [hg 166 r (by omega)]; exact h.nn
  · rw [hg 162 r (by omega)]; exact h.od
theorem Rtext_fr (h : Rtext X f t g) (hf : ∀ b j, b = 3 ∨ (b = 1 ∧ j = 3) → f' b j = f b j) (hg : ∀ b j, 161 ≤ b ∧ b ≤ 173 → g' b j = g b j) : Rtext X f' t g' := by
  have ha : ∀ r, aT f' r = aT f r := fun r => by unfold aT; rw [hf 3 r (by omega)]
  have hs : f' 1 3 = f 1 3 := hf 1 3 (by omega)
  refine ⟨TC_fr h.tc ha, ⟨fun r hr => ?_, fun r hr h1 => ?_⟩, fun r r' h1 h2 h3 => ?_, ?_, fun r hr => ?_, fun r hr h1 => ?_⟩
  · rw [ha, hg 161 r (by omega)]; exact h.tm.th r hr
  · rw [ha] at h1 ⊢; exact TMo_fr2 (h.tm.ok r hr h1) hg
  · rw [ha, ha] at h3; exact h.ds r r' h1 h2 h3
  · rw [hs]; exact h.sp
  · rw [ha, hs]; exact h.sd r hr
  · rw [ha] at h1 ⊢; exact h.tk r hr h1
theorem Rrun_fr (h : Rrun f t g) (hf : ∀ b j, b = 3 ∨ b = 151 ∨ b = 153 ∨ b = 154 → f' b j = f b j) (hg : ∀ b j, (b = 156 ∧ 54 ≤ j ∧ j ≤ 62) ∨ b = 182 ∨ b = 183 → g' b j = g b j) : Rrun f' t g' := by
  refine ⟨?_, ?_, fun h1 => ?_, ?_⟩
  · rw [hf 151 11 (by omega), hg 156 54 (by omega)]; exact h.th
  · rw [hf 151 11 (by omega)]; exact h.tb
  · rw [hf 151 11 (by omega)] at h1
    obtain ⟨h2, h3, h4⟩ := h.go h1
    obtain ⟨r, h6, _, q1, q2⟩ := h2.cur
    refine ⟨RnC_pl h2 h6 (fun b j hh => hf b j (by omega)) (by rw [hf 151 7 (by omega)]; exact ⟨q1, q2⟩), RnM_pl h3 (fun b j hh => hf b j (by omega)) (fun b j hh => hg b j (by omega)) (by rw [hf 151 7 (by omega), hg 156 56 (by omega)]; exact h3.r7), ?_⟩
    rw [hf 151 9 (by omega)]; exact h4
  · rw [hf 151 10 (by omega), hg 156 62 (by omega)]; exact h.wh
/-- only the state changes -/
theorem Rel_st {TH' : Nat} (h : RelX X TH f t g) (hf : ∀ b j, b < 20 ∨ 48 < b → ¬ b = 149 → ¬ b = 150 → f' b j = f b j) (hg : FZ g g') (hs : RSt f' g' TH') (hc : RC f') : RelX X TH' f' t g' :=
  RelX_mk ⟨Rtape_fr h.tp (fun b j hh => hf b j (by omega) (by omega) (by omega)) (fun b j hh => hg b j (by omega)), Rtext_fr h.tx (fun b j hh => hf b j (by omega) (by omega) (by omega)) (fun b j hh => hg b j (by omega)), Rout_fr h.ou (fun b j hh => hf b j (by omega) (by omega) (by omega)) (fun b j hh => hg b j (by omega)), hs, hc, Rrun_fr h.rn (fun b j hh => hf b j (by omega) (by omega) (by omega)) (fun b j hh => hg b j (by omega)), Rflt_fr h.fl (fun b j hh => hf b j (by omega) (by omega) (by omega)) (fun b j hh => hg b j (by omega))⟩
/-- only the run and the state change -/
theorem Rel_go {TH' : Nat} (h : RelX X TH f t g) (hf : FR f f') (hg : FG g g') (h11 : f' 151 11 = f 151 11) (hg54 : g' 156 54 = g 156 54) (hs : RSt f' g' TH') (hc : RC f') (hgo : RnC f' t ∧ RnM 1 f' g' ∧ w32 (f' 151 9) = f' 151 9) (hwh : g' 156 62 = f' 151 10) : RelX X TH' f' t g' :=
  RelX_mk ⟨Rtape_fr h.tp (fun b j hh => hf b j (by omega) (by omega) (by omega) (by omega) (by omega) (by omega)) (fun b j hh => hg b j (by omega)), Rtext_fr h.tx (fun b j hh => hf b j (by omega) (by omega) (by omega) (by omega) (by omega) (by omega)) (fun b j hh => hg b j (by omega)), Rout_fr h.ou (fun b j hh => hf b j (by omega) (by omega) (by omega) (by omega) (by omega) (by omega)) (fun b j hh => hg b j (by omega)), hs, hc, ⟨by rw [h11, hg54]; exact h.rn.th, by rw [h11]; exact h.rn.tb, fun _ => hgo, hwh⟩, Rflt_fr h.fl (fun b j hh => hf b j (by omega) (by omega) (by omega) (by omega) (by omega) (by omega)) (fun b j hh => hg b j (by omega))⟩
end
