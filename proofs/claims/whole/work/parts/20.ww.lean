/-! THE MEMORY IN THREE PARTS: f the class, t its texts, g the reference. The references that never change are no part of them. Rows by mk_ww.py. -/
def rfs : Nat → List (Nat × Int)
  | 1 => [(0, 2), (2, 3), (4, 14), (5, 16), (6, 18), (7, 19), (8, 28), (9, 151), (10, 155)]
  | 4 => [(0, 5), (2, 6), (3, 7), (4, 8), (5, 9), (6, 10), (7, 11), (8, 12), (10, 13)]
  | 14 => [(0, 15)]
  | 16 => [(0, 17)]
  | 19 => [(0, 20), (1, 21), (2, 22), (3, 27)]
  | 22 => [(0, 23), (1, 24), (2, 25), (3, 26)]
  | 28 => [(0, 29), (1, 30), (2, 31), (3, 32), (4, 33)]
  | 33 => [(0, 34), (1, 35), (2, 36), (3, 37), (4, 38), (5, 39), (6, 40), (7, 41), (8, 42), (9, 43), (10, 44), (11, 45), (12, 46), (13, 47), (14, 48)]
  | 49 => [(0, 50), (2, 51), (3, 52), (4, 53), (5, 54), (6, 55), (7, 56), (8, 57), (10, 58)]
  | 59 => [(0, 60), (2, 61), (3, 62), (4, 63), (5, 64), (6, 65), (7, 66), (8, 67), (10, 68)]
  | 69 => [(0, 70), (2, 71), (3, 72), (4, 73), (5, 74), (6, 75), (7, 76), (8, 77), (10, 78)]
  | 79 => [(0, 80), (2, 81), (3, 82), (4, 83), (5, 84), (6, 85), (7, 86), (8, 87), (10, 88)]
  | 89 => [(0, 90), (2, 91), (3, 92), (4, 93), (5, 94), (6, 95), (7, 96), (8, 97), (10, 98)]
  | 99 => [(0, 100), (2, 101), (3, 102), (4, 103), (5, 104), (6, 105), (7, 106), (8, 107), (10, 108)]
  | 109 => [(0, 110), (2, 111), (3, 112), (4, 113), (5, 114), (6, 115), (7, 116), (8, 117), (10, 118)]
  | 119 => [(0, 120), (2, 121), (3, 122), (4, 123), (5, 124), (6, 125), (7, 126), (8, 127), (10, 128)]
  | 129 => [(0, 130), (2, 131), (3, 132), (4, 133), (5, 134), (6, 135), (7, 136), (8, 137), (10, 138)]
  | 139 => [(0, 140), (2, 141), (3, 142), (4, 143), (5, 144), (6, 145), (7, 146), (8, 147), (10, 148)]
  | 149 => [(0, 19), (1, 28), (2, 150)]
  | 151 => [(0, 3), (1, 152), (2, 149), (3, 153), (4, 154)]
  | 152 => [(0, 19), (1, 28), (2, 149)]
  | 155 => [(0, 19), (1, 149)]
  | 156 => [(0, 157), (2, 158), (9, 159), (10, 160), (22, 161), (23, 162), (24, 163), (25, 164), (26, 165), (27, 166), (28, 167), (29, 168), (30, 169), (31, 170), (32, 171), (33, 172), (34, 173), (36, 174), (37, 175), (39, 176), (40, 177), (41, 178), (42, 179), (43, 180), (48, 181), (60, 182), (61, 183), (65, 184)]
  | _ => []
def isX (a : Nat) : Bool := (decide (4 ≤ a) && decide (a < 14)) || (decide (49 ≤ a) && decide (a < 149))
def isT (a : Nat) : Prop := a = 4 ∨ (49 ≤ a ∧ a ≤ 139 ∧ a % 10 = 9)
def ovl (f t g : Mem) : Mem := fun a k => match (rfs a).lookup k with
  | some v => v
  | none => if 156 ≤ a then g a k else if isX a then t a k else f a k
def WW (f t g : Mem) : Wd := (184, ovl f t g)
theorem isT_c {a : Nat} (h : isT a) : a = 4 ∨ a = 49 ∨ a = 59 ∨ a = 69 ∨ a = 79 ∨ a = 89 ∨ a = 99 ∨ a = 109 ∨ a = 119 ∨ a = 129 ∨ a = 139 := by unfold isT at h; omega
theorem ovl_set {f t g : Mem} {a k : Nat} {v : Int} (h : (rfs a).lookup k = none) : mset (ovl f t g) a k v = ovl (if isX a = true ∨ 156 ≤ a then f else mset f a k v) (if isX a = true ∧ ¬ 156 ≤ a then mset t a k v else t) (if 156 ≤ a then mset g a k v else g) := by
  funext b j
  unfold mset
  by_cases hb : b = a ∧ j = k
  · obtain ⟨rfl, rfl⟩ := hb
    unfold ovl
    rw [h]
    by_cases h1 : 156 ≤ b <;> by_cases h2 : isX b = true <;> simp [h1, h2]
  · rw [if_neg hb]
    unfold ovl
    by_cases h1 : 156 ≤ a <;> by_cases h2 : isX a = true <;> simp [h1, h2, hb]
theorem ww_f {f t g : Mem} {a k : Nat} {v : Int} (h : (rfs a).lookup k = none) (h1 : isX a = false) (h2 : ¬ 156 ≤ a) : ((WW f t g).1, mset (WW f t g).2 a k v) = WW (mset f a k v) t g := by
  show (184, mset (ovl f t g) a k v) = _
  rw [ovl_set h, if_neg (by simp [h1, h2]), if_neg (by simp [h1]), if_neg h2]; rfl
theorem ww_t {f t g : Mem} {a k : Nat} {v : Int} (h : (rfs a).lookup k = none) (h1 : isX a = true) (h2 : ¬ 156 ≤ a) : ((WW f t g).1, mset (WW f t g).2 a k v) = WW f (mset t a k v) g := by
  show (184, mset (ovl f t g) a k v) = _
  rw [ovl_set h, if_pos (Or.inl h1), if_pos ⟨h1, h2⟩, if_neg h2]; rfl
theorem ww_g {f t g : Mem} {a k : Nat} {v : Int} (h : (rfs a).lookup k = none) (h2 : 156 ≤ a) : ((WW f t g).1, mset (WW f t g).2 a k v) = WW f t (mset g a k v) := by
  show (184, mset (ovl f t g) a k v) = _
  rw [ovl_set h, if_pos (Or.inr h2), if_neg (by simp [h2]), if_pos h2]; rfl
section
variable {L : Nat} {f t g : Mem} {k : Nat} {v : Int}
theorem h1_1 : (sh L 1).1 = 0 := rfl
theorem gt_1_0 : ((WW f t g).2 1 0).toNat = 2 := rfl
theorem gt_1_1 : (WW f t g).2 1 1 = f 1 1 := rfl
theorem pt_1_1 : ((WW f t g).1, mset (WW f t g).2 1 1 v) = WW (mset f 1 1 v) t g := ww_f rfl rfl (by decide)
theorem gt_1_2 : ((WW f t g).2 1 2).toNat = 3 := rfl
theorem gt_1_3 : (WW f t g).2 1 3 = f 1 3 := rfl
theorem pt_1_3 : ((WW f t g).1, mset (WW f t g).2 1 3 v) = WW (mset f 1 3 v) t g := ww_f rfl rfl (by decide)
theorem gt_1_4 : ((WW f t g).2 1 4).toNat = 14 := rfl
theorem gt_1_5 : ((WW f t g).2 1 5).toNat = 16 := rfl
theorem gt_1_6 : ((WW f t g).2 1 6).toNat = 18 := rfl
theorem gt_1_7 : ((WW f t g).2 1 7).toNat = 19 := rfl
theorem gt_1_8 : ((WW f t g).2 1 8).toNat = 28 := rfl
theorem gt_1_9 : ((WW f t g).2 1 9).toNat = 151 := rfl
theorem gt_1_10 : ((WW f t g).2 1 10).toNat = 155 := rfl
theorem gt_1_11 : (WW f t g).2 1 11 = f 1 11 := rfl
theorem pt_1_11 : ((WW f t g).1, mset (WW f t g).2 1 11 v) = WW (mset f 1 11 v) t g := ww_f rfl rfl (by decide)
theorem h1_2 : (sh L 2).1 = 22 := rfl
theorem h2_2 : ((sh L 2).2 : Int) = 600 := rfl
theorem gt_2 : (WW f t g).2 2 k = f 2 k := rfl
theorem pt_2 : ((WW f t g).1, mset (WW f t g).2 2 k v) = WW (mset f 2 k v) t g := ww_f rfl rfl (by decide)
theorem h1_3 : (sh L 3).1 = 24 := rfl
theorem h2_3 : ((sh L 3).2 : Int) = 10 := rfl
theorem gt_3 : (WW f t g).2 3 k = f 3 k := rfl
theorem pt_3 : ((WW f t g).1, mset (WW f t g).2 3 k v) = WW (mset f 3 k v) t g := ww_f rfl rfl (by decide)
theorem h1_14 : (sh L 14).1 = 2 := rfl
theorem gt_14_0 : ((WW f t g).2 14 0).toNat = 15 := rfl
theorem gt_14_1 : (WW f t g).2 14 1 = f 14 1 := rfl
theorem pt_14_1 : ((WW f t g).1, mset (WW f t g).2 14 1 v) = WW (mset f 14 1 v) t g := ww_f rfl rfl (by decide)
theorem gt_14_2 : (WW f t g).2 14 2 = f 14 2 := rfl
theorem pt_14_2 : ((WW f t g).1, mset (WW f t g).2 14 2 v) = WW (mset f 14 2 v) t g := ww_f rfl rfl (by decide)
theorem gt_14_3 : (WW f t g).2 14 3 = f 14 3 := rfl
theorem pt_14_3 : ((WW f t g).1, mset (WW f t g).2 14 3 v) = WW (mset f 14 3 v) t g := ww_f rfl rfl (by decide)
theorem gt_14_4 : (WW f t g).2 14 4 = f 14 4 := rfl
theorem pt_14_4 : ((WW f t g).1, mset (WW f t g).2 14 4 v) = WW (mset f 14 4 v) t g := ww_f rfl rfl (by decide)
theorem gt_14_5 : (WW f t g).2 14 5 = f 14 5 := rfl
theorem pt_14_5 : ((WW f t g).1, mset (WW f t g).2 14 5 v) = WW (mset f 14 5 v) t g := ww_f rfl rfl (by decide)
theorem gt_14_6 : (WW f t g).2 14 6 = f 14 6 := rfl
theorem pt_14_6 : ((WW f t g).1, mset (WW f t g).2 14 6 v) = WW (mset f 14 6 v) t g := ww_f rfl rfl (by decide)
theorem gt_14_7 : (WW f t g).2 14 7 = f 14 7 := rfl
theorem pt_14_7 : ((WW f t g).1, mset (WW f t g).2 14 7 v) = WW (mset f 14 7 v) t g := ww_f rfl rfl (by decide)
theorem h1_15 : (sh L 15).1 = 20 := rfl
theorem h2_15 : ((sh L 15).2 : Int) = 601 := rfl
theorem gt_15 : (WW f t g).2 15 k = f 15 k := rfl
theorem pt_15 : ((WW f t g).1, mset (WW f t g).2 15 k v) = WW (mset f 15 k v) t g := ww_f rfl rfl (by decide)
theorem h1_16 : (sh L 16).1 = 3 := rfl
theorem gt_16_0 : ((WW f t g).2 16 0).toNat = 17 := rfl
theorem gt_16_1 : (WW f t g).2 16 1 = f 16 1 := rfl
theorem pt_16_1 : ((WW f t g).1, mset (WW f t g).2 16 1 v) = WW (mset f 16 1 v) t g := ww_f rfl rfl (by decide)
theorem h1_17 : (sh L 17).1 = 22 := rfl
theorem h2_17 : ((sh L 17).2 : Int) = 4096 := rfl
theorem gt_17 : (WW f t g).2 17 k = f 17 k := rfl
theorem pt_17 : ((WW f t g).1, mset (WW f t g).2 17 k v) = WW (mset f 17 k v) t g := ww_f rfl rfl (by decide)
theorem h1_18 : (sh L 18).1 = 4 := rfl
theorem gt_18_0 : (WW f t g).2 18 0 = f 18 0 := rfl
theorem pt_18_0 : ((WW f t g).1, mset (WW f t g).2 18 0 v) = WW (mset f 18 0 v) t g := ww_f rfl rfl (by decide)
theorem gt_18_1 : (WW f t g).2 18 1 = f 18 1 := rfl
theorem pt_18_1 : ((WW f t g).1, mset (WW f t g).2 18 1 v) = WW (mset f 18 1 v) t g := ww_f rfl rfl (by decide)
theorem h1_19 : (sh L 19).1 = 5 := rfl
theorem gt_19_0 : ((WW f t g).2 19 0).toNat = 20 := rfl
theorem gt_19_1 : ((WW f t g).2 19 1).toNat = 21 := rfl
theorem gt_19_2 : ((WW f t g).2 19 2).toNat = 22 := rfl
theorem gt_19_3 : ((WW f t g).2 19 3).toNat = 27 := rfl
theorem h1_20 : (sh L 20).1 = 23 := rfl
theorem h2_20 : ((sh L 20).2 : Int) = 26 := rfl
theorem gt_20 : (WW f t g).2 20 k = f 20 k := rfl
theorem pt_20 : ((WW f t g).1, mset (WW f t g).2 20 k v) = WW (mset f 20 k v) t g := ww_f rfl rfl (by decide)
theorem h1_21 : (sh L 21).1 = 20 := rfl
theorem h2_21 : ((sh L 21).2 : Int) = 26 := rfl
theorem gt_21 : (WW f t g).2 21 k = f 21 k := rfl
theorem pt_21 : ((WW f t g).1, mset (WW f t g).2 21 k v) = WW (mset f 21 k v) t g := ww_f rfl rfl (by decide)
theorem h1_22 : (sh L 22).1 = 25 := rfl
theorem h2_22 : ((sh L 22).2 : Int) = 4 := rfl
theorem h1_23 : (sh L 23).1 = 20 := rfl
theorem h2_23 : ((sh L 23).2 : Int) = 30 := rfl
theorem gt_23 : (WW f t g).2 23 k = f 23 k := rfl
theorem pt_23 : ((WW f t g).1, mset (WW f t g).2 23 k v) = WW (mset f 23 k v) t g := ww_f rfl rfl (by decide)
theorem h1_24 : (sh L 24).1 = 20 := rfl
theorem h2_24 : ((sh L 24).2 : Int) = 30 := rfl
theorem gt_24 : (WW f t g).2 24 k = f 24 k := rfl
theorem pt_24 : ((WW f t g).1, mset (WW f t g).2 24 k v) = WW (mset f 24 k v) t g := ww_f rfl rfl (by decide)
theorem h1_25 : (sh L 25).1 = 20 := rfl
theorem h2_25 : ((sh L 25).2 : Int) = 30 := rfl
theorem gt_25 : (WW f t g).2 25 k = f 25 k := rfl
theorem pt_25 : ((WW f t g).1, mset (WW f t g).2 25 k v) = WW (mset f 25 k v) t g := ww_f rfl rfl (by decide)
theorem h1_26 : (sh L 26).1 = 20 := rfl
theorem h2_26 : ((sh L 26).2 : Int) = 30 := rfl
theorem gt_26 : (WW f t g).2 26 k = f 26 k := rfl
theorem pt_26 : ((WW f t g).1, mset (WW f t g).2 26 k v) = WW (mset f 26 k v) t g := ww_f rfl rfl (by decide)
theorem h1_27 : (sh L 27).1 = 20 := rfl
theorem h2_27 : ((sh L 27).2 : Int) = 4 := rfl
theorem gt_27 : (WW f t g).2 27 k = f 27 k := rfl
theorem pt_27 : ((WW f t g).1, mset (WW f t g).2 27 k v) = WW (mset f 27 k v) t g := ww_f rfl rfl (by decide)
theorem h1_28 : (sh L 28).1 = 6 := rfl
theorem gt_28_0 : ((WW f t g).2 28 0).toNat = 29 := rfl
theorem gt_28_1 : ((WW f t g).2 28 1).toNat = 30 := rfl
theorem gt_28_2 : ((WW f t g).2 28 2).toNat = 31 := rfl
theorem gt_28_3 : ((WW f t g).2 28 3).toNat = 32 := rfl
theorem gt_28_4 : ((WW f t g).2 28 4).toNat = 33 := rfl
theorem h1_29 : (sh L 29).1 = 20 := rfl
theorem h2_29 : ((sh L 29).2 : Int) = 6 := rfl
theorem gt_29 : (WW f t g).2 29 k = f 29 k := rfl
theorem pt_29 : ((WW f t g).1, mset (WW f t g).2 29 k v) = WW (mset f 29 k v) t g := ww_f rfl rfl (by decide)
theorem h1_30 : (sh L 30).1 = 20 := rfl
theorem h2_30 : ((sh L 30).2 : Int) = 8 := rfl
theorem gt_30 : (WW f t g).2 30 k = f 30 k := rfl
theorem pt_30 : ((WW f t g).1, mset (WW f t g).2 30 k v) = WW (mset f 30 k v) t g := ww_f rfl rfl (by decide)
theorem h1_31 : (sh L 31).1 = 20 := rfl
theorem h2_31 : ((sh L 31).2 : Int) = 15 := rfl
theorem gt_31 : (WW f t g).2 31 k = f 31 k := rfl
theorem pt_31 : ((WW f t g).1, mset (WW f t g).2 31 k v) = WW (mset f 31 k v) t g := ww_f rfl rfl (by decide)
theorem h1_32 : (sh L 32).1 = 20 := rfl
theorem h2_32 : ((sh L 32).2 : Int) = 15 := rfl
theorem gt_32 : (WW f t g).2 32 k = f 32 k := rfl
theorem pt_32 : ((WW f t g).1, mset (WW f t g).2 32 k v) = WW (mset f 32 k v) t g := ww_f rfl rfl (by decide)
theorem h1_33 : (sh L 33).1 = 26 := rfl
theorem h2_33 : ((sh L 33).2 : Int) = 15 := rfl
theorem h1_34 : (sh L 34).1 = 21 := rfl
theorem h2_34 : ((sh L 34).2 : Int) = 12 := rfl
theorem gt_34 : (WW f t g).2 34 k = f 34 k := rfl
theorem pt_34 : ((WW f t g).1, mset (WW f t g).2 34 k v) = WW (mset f 34 k v) t g := ww_f rfl rfl (by decide)
theorem h1_35 : (sh L 35).1 = 21 := rfl
theorem h2_35 : ((sh L 35).2 : Int) = 12 := rfl
theorem gt_35 : (WW f t g).2 35 k = f 35 k := rfl
theorem pt_35 : ((WW f t g).1, mset (WW f t g).2 35 k v) = WW (mset f 35 k v) t g := ww_f rfl rfl (by decide)
theorem h1_36 : (sh L 36).1 = 21 := rfl
theorem h2_36 : ((sh L 36).2 : Int) = 12 := rfl
theorem gt_36 : (WW f t g).2 36 k = f 36 k := rfl
theorem pt_36 : ((WW f t g).1, mset (WW f t g).2 36 k v) = WW (mset f 36 k v) t g := ww_f rfl rfl (by decide)
theorem h1_37 : (sh L 37).1 = 21 := rfl
theorem h2_37 : ((sh L 37).2 : Int) = 12 := rfl
theorem gt_37 : (WW f t g).2 37 k = f 37 k := rfl
theorem pt_37 : ((WW f t g).1, mset (WW f t g).2 37 k v) = WW (mset f 37 k v) t g := ww_f rfl rfl (by decide)
theorem h1_38 : (sh L 38).1 = 21 := rfl
theorem h2_38 : ((sh L 38).2 : Int) = 12 := rfl
theorem gt_38 : (WW f t g).2 38 k = f 38 k := rfl
theorem pt_38 : ((WW f t g).1, mset (WW f t g).2 38 k v) = WW (mset f 38 k v) t g := ww_f rfl rfl (by decide)
theorem h1_39 : (sh L 39).1 = 21 := rfl
theorem h2_39 : ((sh L 39).2 : Int) = 12 := rfl
theorem gt_39 : (WW f t g).2 39 k = f 39 k := rfl
theorem pt_39 : ((WW f t g).1, mset (WW f t g).2 39 k v) = WW (mset f 39 k v) t g := ww_f rfl rfl (by decide)
theorem h1_40 : (sh L 40).1 = 21 := rfl
theorem h2_40 : ((sh L 40).2 : Int) = 12 := rfl
theorem gt_40 : (WW f t g).2 40 k = f 40 k := rfl
theorem pt_40 : ((WW f t g).1, mset (WW f t g).2 40 k v) = WW (mset f 40 k v) t g := ww_f rfl rfl (by decide)
theorem h1_41 : (sh L 41).1 = 21 := rfl
theorem h2_41 : ((sh L 41).2 : Int) = 12 := rfl
theorem gt_41 : (WW f t g).2 41 k = f 41 k := rfl
theorem pt_41 : ((WW f t g).1, mset (WW f t g).2 41 k v) = WW (mset f 41 k v) t g := ww_f rfl rfl (by decide)
theorem h1_42 : (sh L 42).1 = 21 := rfl
theorem h2_42 : ((sh L 42).2 : Int) = 12 := rfl
theorem gt_42 : (WW f t g).2 42 k = f 42 k := rfl
theorem pt_42 : ((WW f t g).1, mset (WW f t g).2 42 k v) = WW (mset f 42 k v) t g := ww_f rfl rfl (by decide)
theorem h1_43 : (sh L 43).1 = 21 := rfl
theorem h2_43 : ((sh L 43).2 : Int) = 12 := rfl
theorem gt_43 : (WW f t g).2 43 k = f 43 k := rfl
theorem pt_43 : ((WW f t g).1, mset (WW f t g).2 43 k v) = WW (mset f 43 k v) t g := ww_f rfl rfl (by decide)
theorem h1_44 : (sh L 44).1 = 21 := rfl
theorem h2_44 : ((sh L 44).2 : Int) = 12 := rfl
theorem gt_44 : (WW f t g).2 44 k = f 44 k := rfl
theorem pt_44 : ((WW f t g).1, mset (WW f t g).2 44 k v) = WW (mset f 44 k v) t g := ww_f rfl rfl (by decide)
theorem h1_45 : (sh L 45).1 = 21 := rfl
theorem h2_45 : ((sh L 45).2 : Int) = 12 := rfl
theorem gt_45 : (WW f t g).2 45 k = f 45 k := rfl
theorem pt_45 : ((WW f t g).1, mset (WW f t g).2 45 k v) = WW (mset f 45 k v) t g := ww_f rfl rfl (by decide)
theorem h1_46 : (sh L 46).1 = 21 := rfl
theorem h2_46 : ((sh L 46).2 : Int) = 12 := rfl
theorem gt_46 : (WW f t g).2 46 k = f 46 k := rfl
theorem pt_46 : ((WW f t g).1, mset (WW f t g).2 46 k v) = WW (mset f 46 k v) t g := ww_f rfl rfl (by decide)
theorem h1_47 : (sh L 47).1 = 21 := rfl
theorem h2_47 : ((sh L 47).2 : Int) = 12 := rfl
theorem gt_47 : (WW f t g).2 47 k = f 47 k := rfl
theorem pt_47 : ((WW f t g).1, mset (WW f t g).2 47 k v) = WW (mset f 47 k v) t g := ww_f rfl rfl (by decide)
theorem h1_48 : (sh L 48).1 = 21 := rfl
theorem h2_48 : ((sh L 48).2 : Int) = 12 := rfl
theorem gt_48 : (WW f t g).2 48 k = f 48 k := rfl
theorem pt_48 : ((WW f t g).1, mset (WW f t g).2 48 k v) = WW (mset f 48 k v) t g := ww_f rfl rfl (by decide)
theorem h1_149 : (sh L 149).1 = 7 := rfl
theorem gt_149_0 : ((WW f t g).2 149 0).toNat = 19 := rfl
theorem gt_149_1 : ((WW f t g).2 149 1).toNat = 28 := rfl
theorem gt_149_2 : ((WW f t g).2 149 2).toNat = 150 := rfl
theorem gt_149_3 : (WW f t g).2 149 3 = f 149 3 := rfl
theorem pt_149_3 : ((WW f t g).1, mset (WW f t g).2 149 3 v) = WW (mset f 149 3 v) t g := ww_f rfl rfl (by decide)
theorem gt_149_4 : (WW f t g).2 149 4 = f 149 4 := rfl
theorem pt_149_4 : ((WW f t g).1, mset (WW f t g).2 149 4 v) = WW (mset f 149 4 v) t g := ww_f rfl rfl (by decide)
theorem gt_149_5 : (WW f t g).2 149 5 = f 149 5 := rfl
theorem pt_149_5 : ((WW f t g).1, mset (WW f t g).2 149 5 v) = WW (mset f 149 5 v) t g := ww_f rfl rfl (by decide)
theorem gt_149_6 : (WW f t g).2 149 6 = f 149 6 := rfl
theorem pt_149_6 : ((WW f t g).1, mset (WW f t g).2 149 6 v) = WW (mset f 149 6 v) t g := ww_f rfl rfl (by decide)
theorem gt_149_7 : (WW f t g).2 149 7 = f 149 7 := rfl
theorem pt_149_7 : ((WW f t g).1, mset (WW f t g).2 149 7 v) = WW (mset f 149 7 v) t g := ww_f rfl rfl (by decide)
theorem h1_150 : (sh L 150).1 = 20 := rfl
theorem h2_150 : ((sh L 150).2 : Int) = 15 := rfl
theorem gt_150 : (WW f t g).2 150 k = f 150 k := rfl
theorem pt_150 : ((WW f t g).1, mset (WW f t g).2 150 k v) = WW (mset f 150 k v) t g := ww_f rfl rfl (by decide)
theorem h1_151 : (sh L 151).1 = 9 := rfl
theorem gt_151_0 : ((WW f t g).2 151 0).toNat = 3 := rfl
theorem gt_151_1 : ((WW f t g).2 151 1).toNat = 152 := rfl
theorem gt_151_2 : ((WW f t g).2 151 2).toNat = 149 := rfl
theorem gt_151_3 : ((WW f t g).2 151 3).toNat = 153 := rfl
theorem gt_151_4 : ((WW f t g).2 151 4).toNat = 154 := rfl
theorem gt_151_5 : (WW f t g).2 151 5 = f 151 5 := rfl
theorem pt_151_5 : ((WW f t g).1, mset (WW f t g).2 151 5 v) = WW (mset f 151 5 v) t g := ww_f rfl rfl (by decide)
theorem gt_151_6 : (WW f t g).2 151 6 = f 151 6 := rfl
theorem pt_151_6 : ((WW f t g).1, mset (WW f t g).2 151 6 v) = WW (mset f 151 6 v) t g := ww_f rfl rfl (by decide)
theorem gt_151_7 : (WW f t g).2 151 7 = f 151 7 := rfl
theorem pt_151_7 : ((WW f t g).1, mset (WW f t g).2 151 7 v) = WW (mset f 151 7 v) t g := ww_f rfl rfl (by decide)
theorem gt_151_8 : (WW f t g).2 151 8 = f 151 8 := rfl
theorem pt_151_8 : ((WW f t g).1, mset (WW f t g).2 151 8 v) = WW (mset f 151 8 v) t g := ww_f rfl rfl (by decide)
theorem gt_151_9 : (WW f t g).2 151 9 = f 151 9 := rfl
theorem pt_151_9 : ((WW f t g).1, mset (WW f t g).2 151 9 v) = WW (mset f 151 9 v) t g := ww_f rfl rfl (by decide)
theorem gt_151_10 : (WW f t g).2 151 10 = f 151 10 := rfl
theorem pt_151_10 : ((WW f t g).1, mset (WW f t g).2 151 10 v) = WW (mset f 151 10 v) t g := ww_f rfl rfl (by decide)
theorem gt_151_11 : (WW f t g).2 151 11 = f 151 11 := rfl
theorem pt_151_11 : ((WW f t g).1, mset (WW f t g).2 151 11 v) = WW (mset f 151 11 v) t g := ww_f rfl rfl (by decide)
theorem h1_152 : (sh L 152).1 = 8 := rfl
theorem gt_152_0 : ((WW f t g).2 152 0).toNat = 19 := rfl
theorem gt_152_1 : ((WW f t g).2 152 1).toNat = 28 := rfl
theorem gt_152_2 : ((WW f t g).2 152 2).toNat = 149 := rfl
theorem h1_153 : (sh L 153).1 = 20 := rfl
theorem h2_153 : ((sh L 153).2 : Int) = 12 := rfl
theorem gt_153 : (WW f t g).2 153 k = f 153 k := rfl
theorem pt_153 : ((WW f t g).1, mset (WW f t g).2 153 k v) = WW (mset f 153 k v) t g := ww_f rfl rfl (by decide)
theorem h1_154 : (sh L 154).1 = 20 := rfl
theorem h2_154 : ((sh L 154).2 : Int) = 12 := rfl
theorem gt_154 : (WW f t g).2 154 k = f 154 k := rfl
theorem pt_154 : ((WW f t g).1, mset (WW f t g).2 154 k v) = WW (mset f 154 k v) t g := ww_f rfl rfl (by decide)
theorem h1_155 : (sh L 155).1 = 10 := rfl
theorem gt_155_0 : ((WW f t g).2 155 0).toNat = 19 := rfl
theorem gt_155_1 : ((WW f t g).2 155 1).toNat = 149 := rfl
theorem h1_156 : (sh L 156).1 = 11 := rfl
theorem gt_156_0 : ((WW f t g).2 156 0).toNat = 157 := rfl
theorem gt_156_1 : (WW f t g).2 156 1 = g 156 1 := rfl
theorem pt_156_1 : ((WW f t g).1, mset (WW f t g).2 156 1 v) = WW f t (mset g 156 1 v) := ww_g rfl (by decide)
theorem gt_156_2 : ((WW f t g).2 156 2).toNat = 158 := rfl
theorem gt_156_3 : (WW f t g).2 156 3 = g 156 3 := rfl
theorem pt_156_3 : ((WW f t g).1, mset (WW f t g).2 156 3 v) = WW f t (mset g 156 3 v) := ww_g rfl (by decide)
theorem gt_156_4 : (WW f t g).2 156 4 = g 156 4 := rfl
theorem pt_156_4 : ((WW f t g).1, mset (WW f t g).2 156 4 v) = WW f t (mset g 156 4 v) := ww_g rfl (by decide)
theorem gt_156_5 : (WW f t g).2 156 5 = g 156 5 := rfl
theorem pt_156_5 : ((WW f t g).1, mset (WW f t g).2 156 5 v) = WW f t (mset g 156 5 v) := ww_g rfl (by decide)
theorem gt_156_6 : (WW f t g).2 156 6 = g 156 6 := rfl
theorem pt_156_6 : ((WW f t g).1, mset (WW f t g).2 156 6 v) = WW f t (mset g 156 6 v) := ww_g rfl (by decide)
theorem gt_156_7 : (WW f t g).2 156 7 = g 156 7 := rfl
theorem pt_156_7 : ((WW f t g).1, mset (WW f t g).2 156 7 v) = WW f t (mset g 156 7 v) := ww_g rfl (by decide)
theorem gt_156_8 : (WW f t g).2 156 8 = g 156 8 := rfl
theorem pt_156_8 : ((WW f t g).1, mset (WW f t g).2 156 8 v) = WW f t (mset g 156 8 v) := ww_g rfl (by decide)
theorem gt_156_9 : ((WW f t g).2 156 9).toNat = 159 := rfl
theorem gt_156_10 : ((WW f t g).2 156 10).toNat = 160 := rfl
theorem gt_156_11 : (WW f t g).2 156 11 = g 156 11 := rfl
theorem pt_156_11 : ((WW f t g).1, mset (WW f t g).2 156 11 v) = WW f t (mset g 156 11 v) := ww_g rfl (by decide)
theorem gt_156_12 : (WW f t g).2 156 12 = g 156 12 := rfl
theorem pt_156_12 : ((WW f t g).1, mset (WW f t g).2 156 12 v) = WW f t (mset g 156 12 v) := ww_g rfl (by decide)
theorem gt_156_13 : (WW f t g).2 156 13 = g 156 13 := rfl
theorem pt_156_13 : ((WW f t g).1, mset (WW f t g).2 156 13 v) = WW f t (mset g 156 13 v) := ww_g rfl (by decide)
theorem gt_156_14 : (WW f t g).2 156 14 = g 156 14 := rfl
theorem pt_156_14 : ((WW f t g).1, mset (WW f t g).2 156 14 v) = WW f t (mset g 156 14 v) := ww_g rfl (by decide)
theorem gt_156_15 : (WW f t g).2 156 15 = g 156 15 := rfl
theorem pt_156_15 : ((WW f t g).1, mset (WW f t g).2 156 15 v) = WW f t (mset g 156 15 v) := ww_g rfl (by decide)
theorem gt_156_16 : (WW f t g).2 156 16 = g 156 16 := rfl
theorem pt_156_16 : ((WW f t g).1, mset (WW f t g).2 156 16 v) = WW f t (mset g 156 16 v) := ww_g rfl (by decide)
theorem gt_156_17 : (WW f t g).2 156 17 = g 156 17 := rfl
theorem pt_156_17 : ((WW f t g).1, mset (WW f t g).2 156 17 v) = WW f t (mset g 156 17 v) := ww_g rfl (by decide)
theorem gt_156_18 : (WW f t g).2 156 18 = g 156 18 := rfl
theorem pt_156_18 : ((WW f t g).1, mset (WW f t g).2 156 18 v) = WW f t (mset g 156 18 v) := ww_g rfl (by decide)
theorem gt_156_19 : (WW f t g).2 156 19 = g 156 19 := rfl
theorem pt_156_19 : ((WW f t g).1, mset (WW f t g).2 156 19 v) = WW f t (mset g 156 19 v) := ww_g rfl (by decide)
theorem gt_156_20 : (WW f t g).2 156 20 = g 156 20 := rfl
theorem pt_156_20 : ((WW f t g).1, mset (WW f t g).2 156 20 v) = WW f t (mset g 156 20 v) := ww_g rfl (by decide)
theorem gt_156_21 : (WW f t g).2 156 21 = g 156 21 := rfl
theorem pt_156_21 : ((WW f t g).1, mset (WW f t g).2 156 21 v) = WW f t (mset g 156 21 v) := ww_g rfl (by decide)
theorem gt_156_22 : ((WW f t g).2 156 22).toNat = 161 := rfl
theorem gt_156_23 : ((WW f t g).2 156 23).toNat = 162 := rfl
theorem gt_156_24 : ((WW f t g).2 156 24).toNat = 163 := rfl
theorem gt_156_25 : ((WW f t g).2 156 25).toNat = 164 := rfl
theorem gt_156_26 : ((WW f t g).2 156 26).toNat = 165 := rfl
theorem gt_156_27 : ((WW f t g).2 156 27).toNat = 166 := rfl
theorem gt_156_28 : ((WW f t g).2 156 28).toNat = 167 := rfl
theorem gt_156_29 : ((WW f t g).2 156 29).toNat = 168 := rfl
theorem gt_156_30 : ((WW f t g).2 156 30).toNat = 169 := rfl
theorem gt_156_31 : ((WW f t g).2 156 31).toNat = 170 := rfl
theorem gt_156_32 : ((WW f t g).2 156 32).toNat = 171 := rfl
theorem gt_156_33 : ((WW f t g).2 156 33).toNat = 172 := rfl
theorem gt_156_34 : ((WW f t g).2 156 34).toNat = 173 := rfl
theorem gt_156_35 : (WW f t g).2 156 35 = g 156 35 := rfl
theorem pt_156_35 : ((WW f t g).1, mset (WW f t g).2 156 35 v) = WW f t (mset g 156 35 v) := ww_g rfl (by decide)
theorem gt_156_36 : ((WW f t g).2 156 36).toNat = 174 := rfl
theorem gt_156_37 : ((WW f t g).2 156 37).toNat = 175 := rfl
theorem gt_156_38 : (WW f t g).2 156 38 = g 156 38 := rfl
theorem pt_156_38 : ((WW f t g).1, mset (WW f t g).2 156 38 v) = WW f t (mset g 156 38 v) := ww_g rfl (by decide)
theorem gt_156_39 : ((WW f t g).2 156 39).toNat = 176 := rfl
theorem gt_156_40 : ((WW f t g).2 156 40).toNat = 177 := rfl
theorem gt_156_41 : ((WW f t g).2 156 41).toNat = 178 := rfl
theorem gt_156_42 : ((WW f t g).2 156 42).toNat = 179 := rfl
theorem gt_156_43 : ((WW f t g).2 156 43).toNat = 180 := rfl
theorem gt_156_44 : (WW f t g).2 156 44 = g 156 44 := rfl
theorem pt_156_44 : ((WW f t g).1, mset (WW f t g).2 156 44 v) = WW f t (mset g 156 44 v) := ww_g rfl (by decide)
theorem gt_156_45 : (WW f t g).2 156 45 = g 156 45 := rfl
theorem pt_156_45 : ((WW f t g).1, mset (WW f t g).2 156 45 v) = WW f t (mset g 156 45 v) := ww_g rfl (by decide)
theorem gt_156_46 : (WW f t g).2 156 46 = g 156 46 := rfl
theorem pt_156_46 : ((WW f t g).1, mset (WW f t g).2 156 46 v) = WW f t (mset g 156 46 v) := ww_g rfl (by decide)
theorem gt_156_47 : (WW f t g).2 156 47 = g 156 47 := rfl
theorem pt_156_47 : ((WW f t g).1, mset (WW f t g).2 156 47 v) = WW f t (mset g 156 47 v) := ww_g rfl (by decide)
theorem gt_156_48 : ((WW f t g).2 156 48).toNat = 181 := rfl
theorem gt_156_49 : (WW f t g).2 156 49 = g 156 49 := rfl
theorem pt_156_49 : ((WW f t g).1, mset (WW f t g).2 156 49 v) = WW f t (mset g 156 49 v) := ww_g rfl (by decide)
theorem gt_156_50 : (WW f t g).2 156 50 = g 156 50 := rfl
theorem pt_156_50 : ((WW f t g).1, mset (WW f t g).2 156 50 v) = WW f t (mset g 156 50 v) := ww_g rfl (by decide)
theorem gt_156_51 : (WW f t g).2 156 51 = g 156 51 := rfl
theorem pt_156_51 : ((WW f t g).1, mset (WW f t g).2 156 51 v) = WW f t (mset g 156 51 v) := ww_g rfl (by decide)
theorem gt_156_52 : (WW f t g).2 156 52 = g 156 52 := rfl
theorem pt_156_52 : ((WW f t g).1, mset (WW f t g).2 156 52 v) = WW f t (mset g 156 52 v) := ww_g rfl (by decide)
theorem gt_156_53 : (WW f t g).2 156 53 = g 156 53 := rfl
theorem pt_156_53 : ((WW f t g).1, mset (WW f t g).2 156 53 v) = WW f t (mset g 156 53 v) := ww_g rfl (by decide)
theorem gt_156_54 : (WW f t g).2 156 54 = g 156 54 := rfl
theorem pt_156_54 : ((WW f t g).1, mset (WW f t g).2 156 54 v) = WW f t (mset g 156 54 v) := ww_g rfl (by decide)
theorem gt_156_55 : (WW f t g).2 156 55 = g 156 55 := rfl
theorem pt_156_55 : ((WW f t g).1, mset (WW f t g).2 156 55 v) = WW f t (mset g 156 55 v) := ww_g rfl (by decide)
theorem gt_156_56 : (WW f t g).2 156 56 = g 156 56 := rfl
theorem pt_156_56 : ((WW f t g).1, mset (WW f t g).2 156 56 v) = WW f t (mset g 156 56 v) := ww_g rfl (by decide)
theorem gt_156_57 : (WW f t g).2 156 57 = g 156 57 := rfl
theorem pt_156_57 : ((WW f t g).1, mset (WW f t g).2 156 57 v) = WW f t (mset g 156 57 v) := ww_g rfl (by decide)
theorem gt_156_58 : (WW f t g).2 156 58 = g 156 58 := rfl
theorem pt_156_58 : ((WW f t g).1, mset (WW f t g).2 156 58 v) = WW f t (mset g 156 58 v) := ww_g rfl (by decide)
theorem gt_156_59 : (WW f t g).2 156 59 = g 156 59 := rfl
theorem pt_156_59 : ((WW f t g).1, mset (WW f t g).2 156 59 v) = WW f t (mset g 156 59 v) := ww_g rfl (by decide)
theorem gt_156_60 : ((WW f t g).2 156 60).toNat = 182 := rfl
theorem gt_156_61 : ((WW f t g).2 156 61).toNat = 183 := rfl
theorem gt_156_62 : (WW f t g).2 156 62 = g 156 62 := rfl
theorem pt_156_62 : ((WW f t g).1, mset (WW f t g).2 156 62 v) = WW f t (mset g 156 62 v) := ww_g rfl (by decide)
theorem gt_156_63 : (WW f t g).2 156 63 = g 156 63 := rfl
theorem pt_156_63 : ((WW f t g).1, mset (WW f t g).2 156 63 v) = WW f t (mset g 156 63 v) := ww_g rfl (by decide)
theorem gt_156_64 : (WW f t g).2 156 64 = g 156 64 := rfl
theorem pt_156_64 : ((WW f t g).1, mset (WW f t g).2 156 64 v) = WW f t (mset g 156 64 v) := ww_g rfl (by decide)
theorem gt_156_65 : ((WW f t g).2 156 65).toNat = 184 := rfl
theorem h1_157 : (sh L 157).1 = 22 := rfl
theorem h2_157 : ((sh L 157).2 : Int) = 600 := rfl
theorem gt_157 : (WW f t g).2 157 k = g 157 k := rfl
theorem pt_157 : ((WW f t g).1, mset (WW f t g).2 157 k v) = WW f t (mset g 157 k v) := ww_g rfl (by decide)
theorem h1_158 : (sh L 158).1 = 22 := rfl
theorem h2_158 : ((sh L 158).2 : Int) = 12000 := rfl
theorem gt_158 : (WW f t g).2 158 k = g 158 k := rfl
theorem pt_158 : ((WW f t g).1, mset (WW f t g).2 158 k v) = WW f t (mset g 158 k v) := ww_g rfl (by decide)
theorem h1_159 : (sh L 159).1 = 20 := rfl
theorem h2_159 : ((sh L 159).2 : Int) = 1600 := rfl
theorem gt_159 : (WW f t g).2 159 k = g 159 k := rfl
theorem pt_159 : ((WW f t g).1, mset (WW f t g).2 159 k v) = WW f t (mset g 159 k v) := ww_g rfl (by decide)
theorem h1_160 : (sh L 160).1 = 20 := rfl
theorem h2_160 : ((sh L 160).2 : Int) = 1600 := rfl
theorem gt_160 : (WW f t g).2 160 k = g 160 k := rfl
theorem pt_160 : ((WW f t g).1, mset (WW f t g).2 160 k v) = WW f t (mset g 160 k v) := ww_g rfl (by decide)
theorem h1_161 : (sh L 161).1 = 23 := rfl
theorem h2_161 : ((sh L 161).2 : Int) = 10 := rfl
theorem gt_161 : (WW f t g).2 161 k = g 161 k := rfl
theorem pt_161 : ((WW f t g).1, mset (WW f t g).2 161 k v) = WW f t (mset g 161 k v) := ww_g rfl (by decide)
theorem h1_162 : (sh L 162).1 = 23 := rfl
theorem h2_162 : ((sh L 162).2 : Int) = 10 := rfl
theorem gt_162 : (WW f t g).2 162 k = g 162 k := rfl
theorem pt_162 : ((WW f t g).1, mset (WW f t g).2 162 k v) = WW f t (mset g 162 k v) := ww_g rfl (by decide)
theorem h1_163 : (sh L 163).1 = 20 := rfl
theorem h2_163 : ((sh L 163).2 : Int) = 10 := rfl
theorem gt_163 : (WW f t g).2 163 k = g 163 k := rfl
theorem pt_163 : ((WW f t g).1, mset (WW f t g).2 163 k v) = WW f t (mset g 163 k v) := ww_g rfl (by decide)
theorem h1_164 : (sh L 164).1 = 20 := rfl
theorem h2_164 : ((sh L 164).2 : Int) = 16000 := rfl
theorem gt_164 : (WW f t g).2 164 k = g 164 k := rfl
theorem pt_164 : ((WW f t g).1, mset (WW f t g).2 164 k v) = WW f t (mset g 164 k v) := ww_g rfl (by decide)
theorem h1_165 : (sh L 165).1 = 20 := rfl
theorem h2_165 : ((sh L 165).2 : Int) = 16000 := rfl
theorem gt_165 : (WW f t g).2 165 k = g 165 k := rfl
theorem pt_165 : ((WW f t g).1, mset (WW f t g).2 165 k v) = WW f t (mset g 165 k v) := ww_g rfl (by decide)
theorem h1_166 : (sh L 166).1 = 20 := rfl
theorem h2_166 : ((sh L 166).2 : Int) = 10 := rfl
theorem gt_166 : (WW f t g).2 166 k = g 166 k := rfl
theorem pt_166 : ((WW f t g).1, mset (WW f t g).2 166 k v) = WW f t (mset g 166 k v) := ww_g rfl (by decide)
theorem h1_167 : (sh L 167).1 = 20 := rfl
theorem h2_167 : ((sh L 167).2 : Int) = 400 := rfl
theorem gt_167 : (WW f t g).2 167 k = g 167 k := rfl
theorem pt_167 : ((WW f t g).1, mset (WW f t g).2 167 k v) = WW f t (mset g 167 k v) := ww_g rfl (by decide)
theorem h1_168 : (sh L 168).1 = 20 := rfl
theorem h2_168 : ((sh L 168).2 : Int) = 400 := rfl
theorem gt_168 : (WW f t g).2 168 k = g 168 k := rfl
theorem pt_168 : ((WW f t g).1, mset (WW f t g).2 168 k v) = WW f t (mset g 168 k v) := ww_g rfl (by decide)
theorem h1_169 : (sh L 169).1 = 20 := rfl
theorem h2_169 : ((sh L 169).2 : Int) = 400 := rfl
theorem gt_169 : (WW f t g).2 169 k = g 169 k := rfl
theorem pt_169 : ((WW f t g).1, mset (WW f t g).2 169 k v) = WW f t (mset g 169 k v) := ww_g rfl (by decide)
theorem h1_170 : (sh L 170).1 = 20 := rfl
theorem h2_170 : ((sh L 170).2 : Int) = 400 := rfl
theorem gt_170 : (WW f t g).2 170 k = g 170 k := rfl
theorem pt_170 : ((WW f t g).1, mset (WW f t g).2 170 k v) = WW f t (mset g 170 k v) := ww_g rfl (by decide)
theorem h1_171 : (sh L 171).1 = 20 := rfl
theorem h2_171 : ((sh L 171).2 : Int) = 400 := rfl
theorem gt_171 : (WW f t g).2 171 k = g 171 k := rfl
theorem pt_171 : ((WW f t g).1, mset (WW f t g).2 171 k v) = WW f t (mset g 171 k v) := ww_g rfl (by decide)
theorem h1_172 : (sh L 172).1 = 20 := rfl
theorem h2_172 : ((sh L 172).2 : Int) = 400 := rfl
theorem gt_172 : (WW f t g).2 172 k = g 172 k := rfl
theorem pt_172 : ((WW f t g).1, mset (WW f t g).2 172 k v) = WW f t (mset g 172 k v) := ww_g rfl (by decide)
theorem h1_173 : (sh L 173).1 = 20 := rfl
theorem h2_173 : ((sh L 173).2 : Int) = 400 := rfl
theorem gt_173 : (WW f t g).2 173 k = g 173 k := rfl
theorem pt_173 : ((WW f t g).1, mset (WW f t g).2 173 k v) = WW f t (mset g 173 k v) := ww_g rfl (by decide)
theorem h1_174 : (sh L 174).1 = 20 := rfl
theorem h2_174 : ((sh L 174).2 : Int) = 26 := rfl
theorem gt_174 : (WW f t g).2 174 k = g 174 k := rfl
theorem pt_174 : ((WW f t g).1, mset (WW f t g).2 174 k v) = WW f t (mset g 174 k v) := ww_g rfl (by decide)
theorem h1_175 : (sh L 175).1 = 20 := rfl
theorem h2_175 : ((sh L 175).2 : Int) = 14 := rfl
theorem gt_175 : (WW f t g).2 175 k = g 175 k := rfl
theorem pt_175 : ((WW f t g).1, mset (WW f t g).2 175 k v) = WW f t (mset g 175 k v) := ww_g rfl (by decide)
theorem h1_176 : (sh L 176).1 = 20 := rfl
theorem h2_176 : ((sh L 176).2 : Int) = 16 := rfl
theorem gt_176 : (WW f t g).2 176 k = g 176 k := rfl
theorem pt_176 : ((WW f t g).1, mset (WW f t g).2 176 k v) = WW f t (mset g 176 k v) := ww_g rfl (by decide)
theorem h1_177 : (sh L 177).1 = 20 := rfl
theorem h2_177 : ((sh L 177).2 : Int) = 16 := rfl
theorem gt_177 : (WW f t g).2 177 k = g 177 k := rfl
theorem pt_177 : ((WW f t g).1, mset (WW f t g).2 177 k v) = WW f t (mset g 177 k v) := ww_g rfl (by decide)
theorem h1_178 : (sh L 178).1 = 21 := rfl
theorem h2_178 : ((sh L 178).2 : Int) = 192 := rfl
theorem gt_178 : (WW f t g).2 178 k = g 178 k := rfl
theorem pt_178 : ((WW f t g).1, mset (WW f t g).2 178 k v) = WW f t (mset g 178 k v) := ww_g rfl (by decide)
theorem h1_179 : (sh L 179).1 = 20 := rfl
theorem h2_179 : ((sh L 179).2 : Int) = 4 := rfl
theorem gt_179 : (WW f t g).2 179 k = g 179 k := rfl
theorem pt_179 : ((WW f t g).1, mset (WW f t g).2 179 k v) = WW f t (mset g 179 k v) := ww_g rfl (by decide)
theorem h1_180 : (sh L 180).1 = 20 := rfl
theorem h2_180 : ((sh L 180).2 : Int) = 120 := rfl
theorem gt_180 : (WW f t g).2 180 k = g 180 k := rfl
theorem pt_180 : ((WW f t g).1, mset (WW f t g).2 180 k v) = WW f t (mset g 180 k v) := ww_g rfl (by decide)
theorem h1_181 : (sh L 181).1 = 20 := rfl
theorem h2_181 : ((sh L 181).2 : Int) = 16 := rfl
theorem gt_181 : (WW f t g).2 181 k = g 181 k := rfl
theorem pt_181 : ((WW f t g).1, mset (WW f t g).2 181 k v) = WW f t (mset g 181 k v) := ww_g rfl (by decide)
theorem h1_182 : (sh L 182).1 = 20 := rfl
theorem h2_182 : ((sh L 182).2 : Int) = 12 := rfl
theorem gt_182 : (WW f t g).2 182 k = g 182 k := rfl
theorem pt_182 : ((WW f t g).1, mset (WW f t g).2 182 k v) = WW f t (mset g 182 k v) := ww_g rfl (by decide)
theorem h1_183 : (sh L 183).1 = 20 := rfl
theorem h2_183 : ((sh L 183).2 : Int) = 12 := rfl
theorem gt_183 : (WW f t g).2 183 k = g 183 k := rfl
theorem pt_183 : ((WW f t g).1, mset (WW f t g).2 183 k v) = WW f t (mset g 183 k v) := ww_g rfl (by decide)
theorem h1_184 : (sh L 184).1 = 21 := rfl
theorem h2_184 : ((sh L 184).2 : Int) = 12 := rfl
theorem gt_184 : (WW f t g).2 184 k = g 184 k := rfl
theorem pt_184 : ((WW f t g).1, mset (WW f t g).2 184 k v) = WW f t (mset g 184 k v) := ww_g rfl (by decide)
end
section
variable {L a : Nat} {f t g : Mem} {k : Nat} {v : Int}
theorem xT_0 (h : isT a) : a ≠ 0 := by unfold isT at h; omega
theorem xT_h1 (h : isT a) : (sh L a).1 = 1 := by rcases isT_c h with rfl | rfl | rfl | rfl | rfl | rfl | rfl | rfl | rfl | rfl | rfl <;> rfl
theorem xT_g0 (h : isT a) : ((WW f t g).2 a 0).toNat = a + 1 := by rcases isT_c h with rfl | rfl | rfl | rfl | rfl | rfl | rfl | rfl | rfl | rfl | rfl <;> rfl
theorem xA_h1 (h : isT a) : (sh L (a + 1)).1 = 20 := by rcases isT_c h with rfl | rfl | rfl | rfl | rfl | rfl | rfl | rfl | rfl | rfl | rfl <;> rfl
theorem xA_z1 (h : isT a) : ((sh L (a + 1)).2 : Int) = 1000 := by rcases isT_c h with rfl | rfl | rfl | rfl | rfl | rfl | rfl | rfl | rfl | rfl | rfl <;> rfl
theorem xA_g1 (h : isT a) : (WW f t g).2 (a + 1) k = t (a + 1) k := by rcases isT_c h with rfl | rfl | rfl | rfl | rfl | rfl | rfl | rfl | rfl | rfl | rfl <;> rfl
theorem xA_p1 (h : isT a) : ((WW f t g).1, mset (WW f t g).2 (a + 1) k v) = WW f (mset t (a + 1) k v) g := by rcases isT_c h with rfl | rfl | rfl | rfl | rfl | rfl | rfl | rfl | rfl | rfl | rfl <;> exact ww_t rfl rfl (by decide)
theorem xT_g1 (h : isT a) : (WW f t g).2 a 1 = t a 1 := by rcases isT_c h with rfl | rfl | rfl | rfl | rfl | rfl | rfl | rfl | rfl | rfl | rfl <;> rfl
theorem xT_p1 (h : isT a) : ((WW f t g).1, mset (WW f t g).2 a 1 v) = WW f (mset t a 1 v) g := by rcases isT_c h with rfl | rfl | rfl | rfl | rfl | rfl | rfl | rfl | rfl | rfl | rfl <;> exact ww_t rfl rfl (by decide)
theorem xT_g2 (h : isT a) : ((WW f t g).2 a 2).toNat = a + 2 := by rcases isT_c h with rfl | rfl | rfl | rfl | rfl | rfl | rfl | rfl | rfl | rfl | rfl <;> rfl
theorem xA_h2 (h : isT a) : (sh L (a + 2)).1 = 20 := by rcases isT_c h with rfl | rfl | rfl | rfl | rfl | rfl | rfl | rfl | rfl | rfl | rfl <;> rfl
theorem xA_z2 (h : isT a) : ((sh L (a + 2)).2 : Int) = 40 := by rcases isT_c h with rfl | rfl | rfl | rfl | rfl | rfl | rfl | rfl | rfl | rfl | rfl <;> rfl
theorem xA_g2 (h : isT a) : (WW f t g).2 (a + 2) k = t (a + 2) k := by rcases isT_c h with rfl | rfl | rfl | rfl | rfl | rfl | rfl | rfl | rfl | rfl | rfl <;> rfl
theorem xA_p2 (h : isT a) : ((WW f t g).1, mset (WW f t g).2 (a + 2) k v) = WW f (mset t (a + 2) k v) g := by rcases isT_c h with rfl | rfl | rfl | rfl | rfl | rfl | rfl | rfl | rfl | rfl | rfl <;> exact ww_t rfl rfl (by decide)
theorem xT_g3 (h : isT a) : ((WW f t g).2 a 3).toNat = a + 3 := by rcases isT_c h with rfl | rfl | rfl | rfl | rfl | rfl | rfl | rfl | rfl | rfl | rfl <;> rfl
theorem xA_h3 (h : isT a) : (sh L (a + 3)).1 = 20 := by rcases isT_c h with rfl | rfl | rfl | rfl | rfl | rfl | rfl | rfl | rfl | rfl | rfl <;> rfl
theorem xA_z3 (h : isT a) : ((sh L (a + 3)).2 : Int) = 40 := by rcases isT_c h with rfl | rfl | rfl | rfl | rfl | rfl | rfl | rfl | rfl | rfl | rfl <;> rfl
theorem xA_g3 (h : isT a) : (WW f t g).2 (a + 3) k = t (a + 3) k := by rcases isT_c h with rfl | rfl | rfl | rfl | rfl | rfl | rfl | rfl | rfl | rfl | rfl <;> rfl
theorem xA_p3 (h : isT a) : ((WW f t g).1, mset (WW f t g).2 (a + 3) k v) = WW f (mset t (a + 3) k v) g := by rcases isT_c h with rfl | rfl | rfl | rfl | rfl | rfl | rfl | rfl | rfl | rfl | rfl <;> exact ww_t rfl rfl (by decide)
theorem xT_g4 (h : isT a) : ((WW f t g).2 a 4).toNat = a + 4 := by rcases isT_c h with rfl | rfl | rfl | rfl | rfl | rfl | rfl | rfl | rfl | rfl | rfl <;> rfl
theorem xA_h4 (h : isT a) : (sh L (a + 4)).1 = 20 := by rcases isT_c h with rfl | rfl | rfl | rfl | rfl | rfl | rfl | rfl | rfl | rfl | rfl <;> rfl
theorem xA_z4 (h : isT a) : ((sh L (a + 4)).2 : Int) = 40 := by rcases isT_c h with rfl | rfl | rfl | rfl | rfl | rfl | rfl | rfl | rfl | rfl | rfl <;> rfl
theorem xA_g4 (h : isT a) : (WW f t g).2 (a + 4) k = t (a + 4) k := by rcases isT_c h with rfl | rfl | rfl | rfl | rfl | rfl | rfl | rfl | rfl | rfl | rfl <;> rfl
theorem xA_p4 (h : isT a) : ((WW f t g).1, mset (WW f t g).2 (a + 4) k v) = WW f (mset t (a + 4) k v) g := by rcases isT_c h with rfl | rfl | rfl | rfl | rfl | rfl | rfl | rfl | rfl | rfl | rfl <;> exact ww_t rfl rfl (by decide)
theorem xT_g5 (h : isT a) : ((WW f t g).2 a 5).toNat = a + 5 := by rcases isT_c h with rfl | rfl | rfl | rfl | rfl | rfl | rfl | rfl | rfl | rfl | rfl <;> rfl
theorem xA_h5 (h : isT a) : (sh L (a + 5)).1 = 20 := by rcases isT_c h with rfl | rfl | rfl | rfl | rfl | rfl | rfl | rfl | rfl | rfl | rfl <;> rfl
theorem xA_z5 (h : isT a) : ((sh L (a + 5)).2 : Int) = 40 := by rcases isT_c h with rfl | rfl | rfl | rfl | rfl | rfl | rfl | rfl | rfl | rfl | rfl <;> rfl
theorem xA_g5 (h : isT a) : (WW f t g).2 (a + 5) k = t (a + 5) k := by rcases isT_c h with rfl | rfl | rfl | rfl | rfl | rfl | rfl | rfl | rfl | rfl | rfl <;> rfl
theorem xA_p5 (h : isT a) : ((WW f t g).1, mset (WW f t g).2 (a + 5) k v) = WW f (mset t (a + 5) k v) g := by rcases isT_c h with rfl | rfl | rfl | rfl | rfl | rfl | rfl | rfl | rfl | rfl | rfl <;> exact ww_t rfl rfl (by decide)
theorem xT_g6 (h : isT a) : ((WW f t g).2 a 6).toNat = a + 6 := by rcases isT_c h with rfl | rfl | rfl | rfl | rfl | rfl | rfl | rfl | rfl | rfl | rfl <;> rfl
theorem xA_h6 (h : isT a) : (sh L (a + 6)).1 = 20 := by rcases isT_c h with rfl | rfl | rfl | rfl | rfl | rfl | rfl | rfl | rfl | rfl | rfl <;> rfl
theorem xA_z6 (h : isT a) : ((sh L (a + 6)).2 : Int) = 40 := by rcases isT_c h with rfl | rfl | rfl | rfl | rfl | rfl | rfl | rfl | rfl | rfl | rfl <;> rfl
theorem xA_g6 (h : isT a) : (WW f t g).2 (a + 6) k = t (a + 6) k := by rcases isT_c h with rfl | rfl | rfl | rfl | rfl | rfl | rfl | rfl | rfl | rfl | rfl <;> rfl
theorem xA_p6 (h : isT a) : ((WW f t g).1, mset (WW f t g).2 (a + 6) k v) = WW f (mset t (a + 6) k v) g := by rcases isT_c h with rfl | rfl | rfl | rfl | rfl | rfl | rfl | rfl | rfl | rfl | rfl <;> exact ww_t rfl rfl (by decide)
theorem xT_g7 (h : isT a) : ((WW f t g).2 a 7).toNat = a + 7 := by rcases isT_c h with rfl | rfl | rfl | rfl | rfl | rfl | rfl | rfl | rfl | rfl | rfl <;> rfl
theorem xA_h7 (h : isT a) : (sh L (a + 7)).1 = 20 := by rcases isT_c h with rfl | rfl | rfl | rfl | rfl | rfl | rfl | rfl | rfl | rfl | rfl <;> rfl
theorem xA_z7 (h : isT a) : ((sh L (a + 7)).2 : Int) = 40 := by rcases isT_c h with rfl | rfl | rfl | rfl | rfl | rfl | rfl | rfl | rfl | rfl | rfl <;> rfl
theorem xA_g7 (h : isT a) : (WW f t g).2 (a + 7) k = t (a + 7) k := by rcases isT_c h with rfl | rfl | rfl | rfl | rfl | rfl | rfl | rfl | rfl | rfl | rfl <;> rfl
theorem xA_p7 (h : isT a) : ((WW f t g).1, mset (WW f t g).2 (a + 7) k v) = WW f (mset t (a + 7) k v) g := by rcases isT_c h with rfl | rfl | rfl | rfl | rfl | rfl | rfl | rfl | rfl | rfl | rfl <;> exact ww_t rfl rfl (by decide)
theorem xT_g8 (h : isT a) : ((WW f t g).2 a 8).toNat = a + 8 := by rcases isT_c h with rfl | rfl | rfl | rfl | rfl | rfl | rfl | rfl | rfl | rfl | rfl <;> rfl
theorem xA_h8 (h : isT a) : (sh L (a + 8)).1 = 20 := by rcases isT_c h with rfl | rfl | rfl | rfl | rfl | rfl | rfl | rfl | rfl | rfl | rfl <;> rfl
theorem xA_z8 (h : isT a) : ((sh L (a + 8)).2 : Int) = 40 := by rcases isT_c h with rfl | rfl | rfl | rfl | rfl | rfl | rfl | rfl | rfl | rfl | rfl <;> rfl
theorem xA_g8 (h : isT a) : (WW f t g).2 (a + 8) k = t (a + 8) k := by rcases isT_c h with rfl | rfl | rfl | rfl | rfl | rfl | rfl | rfl | rfl | rfl | rfl <;> rfl
theorem xA_p8 (h : isT a) : ((WW f t g).1, mset (WW f t g).2 (a + 8) k v) = WW f (mset t (a + 8) k v) g := by rcases isT_c h with rfl | rfl | rfl | rfl | rfl | rfl | rfl | rfl | rfl | rfl | rfl <;> exact ww_t rfl rfl (by decide)
theorem xT_g9 (h : isT a) : (WW f t g).2 a 9 = t a 9 := by rcases isT_c h with rfl | rfl | rfl | rfl | rfl | rfl | rfl | rfl | rfl | rfl | rfl <;> rfl
theorem xT_p9 (h : isT a) : ((WW f t g).1, mset (WW f t g).2 a 9 v) = WW f (mset t a 9 v) g := by rcases isT_c h with rfl | rfl | rfl | rfl | rfl | rfl | rfl | rfl | rfl | rfl | rfl <;> exact ww_t rfl rfl (by decide)
theorem xT_g10 (h : isT a) : ((WW f t g).2 a 10).toNat = a + 9 := by rcases isT_c h with rfl | rfl | rfl | rfl | rfl | rfl | rfl | rfl | rfl | rfl | rfl <;> rfl
theorem xA_h9 (h : isT a) : (sh L (a + 9)).1 = 20 := by rcases isT_c h with rfl | rfl | rfl | rfl | rfl | rfl | rfl | rfl | rfl | rfl | rfl <;> rfl
theorem xA_z9 (h : isT a) : ((sh L (a + 9)).2 : Int) = 5 := by rcases isT_c h with rfl | rfl | rfl | rfl | rfl | rfl | rfl | rfl | rfl | rfl | rfl <;> rfl
theorem xA_g9 (h : isT a) : (WW f t g).2 (a + 9) k = t (a + 9) k := by rcases isT_c h with rfl | rfl | rfl | rfl | rfl | rfl | rfl | rfl | rfl | rfl | rfl <;> rfl
theorem xA_p9 (h : isT a) : ((WW f t g).1, mset (WW f t g).2 (a + 9) k v) = WW f (mset t (a + 9) k v) g := by rcases isT_c h with rfl | rfl | rfl | rfl | rfl | rfl | rfl | rfl | rfl | rfl | rfl <;> exact ww_t rfl rfl (by decide)
theorem xT_g11 (h : isT a) : (WW f t g).2 a 11 = t a 11 := by rcases isT_c h with rfl | rfl | rfl | rfl | rfl | rfl | rfl | rfl | rfl | rfl | rfl <;> rfl
theorem xT_p11 (h : isT a) : ((WW f t g).1, mset (WW f t g).2 a 11 v) = WW f (mset t a 11 v) g := by rcases isT_c h with rfl | rfl | rfl | rfl | rfl | rfl | rfl | rfl | rfl | rfl | rfl <;> exact ww_t rfl rfl (by decide)
theorem xT_g12 (h : isT a) : (WW f t g).2 a 12 = t a 12 := by rcases isT_c h with rfl | rfl | rfl | rfl | rfl | rfl | rfl | rfl | rfl | rfl | rfl <;> rfl
theorem xT_p12 (h : isT a) : ((WW f t g).1, mset (WW f t g).2 a 12 v) = WW f (mset t a 12 v) g := by rcases isT_c h with rfl | rfl | rfl | rfl | rfl | rfl | rfl | rfl | rfl | rfl | rfl <;> exact ww_t rfl rfl (by decide)
theorem xT_g13 (h : isT a) : (WW f t g).2 a 13 = t a 13 := by rcases isT_c h with rfl | rfl | rfl | rfl | rfl | rfl | rfl | rfl | rfl | rfl | rfl <;> rfl
theorem xT_p13 (h : isT a) : ((WW f t g).1, mset (WW f t g).2 a 13 v) = WW f (mset t a 13 v) g := by rcases isT_c h with rfl | rfl | rfl | rfl | rfl | rfl | rfl | rfl | rfl | rfl | rfl <;> exact ww_t rfl rfl (by decide)
theorem xT_g14 (h : isT a) : (WW f t g).2 a 14 = t a 14 := by rcases isT_c h with rfl | rfl | rfl | rfl | rfl | rfl | rfl | rfl | rfl | rfl | rfl <;> rfl
theorem xT_p14 (h : isT a) : ((WW f t g).1, mset (WW f t g).2 a 14 v) = WW f (mset t a 14 v) g := by rcases isT_c h with rfl | rfl | rfl | rfl | rfl | rfl | rfl | rfl | rfl | rfl | rfl <;> exact ww_t rfl rfl (by decide)
theorem xT_g15 (h : isT a) : (WW f t g).2 a 15 = t a 15 := by rcases isT_c h with rfl | rfl | rfl | rfl | rfl | rfl | rfl | rfl | rfl | rfl | rfl <;> rfl
theorem xT_p15 (h : isT a) : ((WW f t g).1, mset (WW f t g).2 a 15 v) = WW f (mset t a 15 v) g := by rcases isT_c h with rfl | rfl | rfl | rfl | rfl | rfl | rfl | rfl | rfl | rfl | rfl <;> exact ww_t rfl rfl (by decide)
end
section
variable {L i : Nat} {f t g : Mem} {k : Nat} {v : Int}
theorem ix_22 (h : i < 4) : i = 0 ∨ i = 1 ∨ i = 2 ∨ i = 3 := by omega
theorem y22_g (h : i < 4) : ((WW f t g).2 22 i).toNat = 23 + i := by rcases ix_22 h with rfl | rfl | rfl | rfl <;> rfl
theorem y22_h (h : i < 4) : (sh L (23 + i)).1 = 20 := by rcases ix_22 h with rfl | rfl | rfl | rfl <;> rfl
theorem y22_z (h : i < 4) : ((sh L (23 + i)).2 : Int) = 30 := by rcases ix_22 h with rfl | rfl | rfl | rfl <;> rfl
theorem y22_r (h : i < 4) : (WW f t g).2 (23 + i) k = f (23 + i) k := by rcases ix_22 h with rfl | rfl | rfl | rfl <;> rfl
theorem y22_w (h : i < 4) : ((WW f t g).1, mset (WW f t g).2 (23 + i) k v) = WW (mset f (23 + i) k v) t g := by rcases ix_22 h with rfl | rfl | rfl | rfl <;> exact ww_f rfl rfl (by decide)
theorem ix_33 (h : i < 15) : i = 0 ∨ i = 1 ∨ i = 2 ∨ i = 3 ∨ i = 4 ∨ i = 5 ∨ i = 6 ∨ i = 7 ∨ i = 8 ∨ i = 9 ∨ i = 10 ∨ i = 11 ∨ i = 12 ∨ i = 13 ∨ i = 14 := by omega
theorem y33_g (h : i < 15) : ((WW f t g).2 33 i).toNat = 34 + i := by rcases ix_33 h with rfl | rfl | rfl | rfl | rfl | rfl | rfl | rfl | rfl | rfl | rfl | rfl | rfl | rfl | rfl <;> rfl
theorem y33_h (h : i < 15) : (sh L (34 + i)).1 = 21 := by rcases ix_33 h with rfl | rfl | rfl | rfl | rfl | rfl | rfl | rfl | rfl | rfl | rfl | rfl | rfl | rfl | rfl <;> rfl
theorem y33_z (h : i < 15) : ((sh L (34 + i)).2 : Int) = 12 := by rcases ix_33 h with rfl | rfl | rfl | rfl | rfl | rfl | rfl | rfl | rfl | rfl | rfl | rfl | rfl | rfl | rfl <;> rfl
theorem y33_r (h : i < 15) : (WW f t g).2 (34 + i) k = f (34 + i) k := by rcases ix_33 h with rfl | rfl | rfl | rfl | rfl | rfl | rfl | rfl | rfl | rfl | rfl | rfl | rfl | rfl | rfl <;> rfl
theorem y33_w (h : i < 15) : ((WW f t g).1, mset (WW f t g).2 (34 + i) k v) = WW (mset f (34 + i) k v) t g := by rcases ix_33 h with rfl | rfl | rfl | rfl | rfl | rfl | rfl | rfl | rfl | rfl | rfl | rfl | rfl | rfl | rfl <;> exact ww_f rfl rfl (by decide)
end
section
variable {x y : Int} {a : Nat} {r : List TV}
theorem tc_0 : tcats [] = 0 := rfl
theorem tc_I : tcats (tI x :: r) = 1 + tcats r := rfl
theorem tc_L : tcats (tL x :: r) = 2 + tcats r := rfl
theorem tc_A : tcats (tA a :: r) = 1 + tcats r := rfl
end
def bI (q : Prop) [Decidable q] : Int := if q then 1 else 0
theorem bI_0 {q : Prop} [Decidable q] : (bI q = 0) = ¬ q := by unfold bI; by_cases h : q <;> simp [h]
theorem bI_1 {q : Prop} [Decidable q] : (bI q = 1) = q := by unfold bI; by_cases h : q <;> simp [h]
theorem bI_t {q : Prop} [Decidable q] (h : q) : bI q = 1 := if_pos h
theorem bI_f {q : Prop} [Decidable q] (h : ¬ q) : bI q = 0 := if_neg h
theorem bI_01 {q : Prop} [Decidable q] : bI q = 0 ∨ bI q = 1 := by unfold bI; by_cases h : q <;> simp [h]
theorem w32_id {x : Int} (h1 : -2147483648 ≤ x) (h2 : x < 2147483648) : w32 x = x := by unfold w32; rw [Int.bmod_def]; omega
theorem w64_id {x : Int} (h1 : -9223372036854775808 ≤ x) (h2 : x < 9223372036854775808) : w64 x = x := by unfold w64; rw [Int.bmod_def]; omega
