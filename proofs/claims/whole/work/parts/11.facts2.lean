/-! fields: their words, types and names; the plan of the cells -/
theorem sh_small {L a : Nat} (h : (sh L a).1 ≤ 26) : 1 ≤ a ∧ a < 900 := by
  unfold sh at h
  by_cases h1 : a = 900
  · rw [if_pos h1] at h; exact absurd h (show ¬ (27 : Nat) ≤ 26 by decide)
  · rw [if_neg h1] at h
    by_cases h2 : 901 ≤ a ∧ a < 906
    · rw [if_pos h2] at h; exact absurd h (show ¬ (28 : Nat) ≤ 26 by decide)
    · rw [if_neg h2] at h
      by_cases h3 : a < 185
      · refine ⟨?_, by omega⟩
        rcases Nat.eq_zero_or_pos a with h4 | h4
        · subst h4; exact absurd h (by decide)
        · exact h4
      · rw [List.getD_eq_getElem?_getD, List.getElem?_eq_none (by show 185 ≤ a; omega)] at h
        exact absurd h (by decide)
theorem sh_size {L a : Nat} (h : (sh L a).1 ≤ 26) : (sh L a).2 ≤ 16000 := by
  have hs := sh_small h
  have h3 : shl.all (fun q => decide (q.2 ≤ 16000)) = true := by decide +kernel
  unfold sh
  rw [if_neg (by omega), if_neg (by omega), List.getD_eq_getElem?_getD]
  match hq : shl[a]? with
  | none => show 0 ≤ 16000; omega
  | some q => exact of_decide_eq_true (List.all_eq_true.mp h3 q (List.mem_of_getElem? hq))
theorem cls_at : ∀ ci, ci < 12 → cls_[ci]? = some (cnm ci, FTs ci, fcount ci)
  | 0, _ => rfl
  | 1, _ => rfl
  | 2, _ => rfl
  | 3, _ => rfl
  | 4, _ => rfl
  | 5, _ => rfl
  | 6, _ => rfl
  | 7, _ => rfl
  | 8, _ => rfl
  | 9, _ => rfl
  | 10, _ => rfl
  | 11, _ => rfl
  | n + 12, h => by omega
theorem lay_0_0 : u_lay (cnm 0) (FTs 0) 0 ∈ Gd := gd_2 69 rfl rfl
theorem lay_0_1 : u_lay (cnm 0) (FTs 0) 1 ∈ Gd := gd_2 71 rfl rfl
theorem lay_0_2 : u_lay (cnm 0) (FTs 0) 2 ∈ Gd := gd_2 73 rfl rfl
theorem lay_0_3 : u_lay (cnm 0) (FTs 0) 3 ∈ Gd := gd_2 75 rfl rfl
theorem lay_0_4 : u_lay (cnm 0) (FTs 0) 4 ∈ Gd := gd_2 77 rfl rfl
theorem lay_0_5 : u_lay (cnm 0) (FTs 0) 5 ∈ Gd := gd_2 79 rfl rfl
theorem lay_0_6 : u_lay (cnm 0) (FTs 0) 6 ∈ Gd := gd_2 81 rfl rfl
theorem lay_0_7 : u_lay (cnm 0) (FTs 0) 7 ∈ Gd := gd_2 83 rfl rfl
theorem lay_0_8 : u_lay (cnm 0) (FTs 0) 8 ∈ Gd := gd_2 85 rfl rfl
theorem lay_0_9 : u_lay (cnm 0) (FTs 0) 9 ∈ Gd := gd_2 87 rfl rfl
theorem lay_0_10 : u_lay (cnm 0) (FTs 0) 10 ∈ Gd := gd_2 89 rfl rfl
theorem lay_0_11 : u_lay (cnm 0) (FTs 0) 11 ∈ Gd := gd_2 91 rfl rfl
theorem uws_0 : ∀ w ∈ u_ws (cnm 0) (FTs 0) (fcount 0), w ∈ Gd := by
  intro w hw
  obtain ⟨k, hk, rfl⟩ := List.mem_map.mp hw
  have hk2 : k < 12 := List.mem_range.mp hk
  match k, hk2 with
  | 0, _ => exact lay_0_0
  | 1, _ => exact lay_0_1
  | 2, _ => exact lay_0_2
  | 3, _ => exact lay_0_3
  | 4, _ => exact lay_0_4
  | 5, _ => exact lay_0_5
  | 6, _ => exact lay_0_6
  | 7, _ => exact lay_0_7
  | 8, _ => exact lay_0_8
  | 9, _ => exact lay_0_9
  | 10, _ => exact lay_0_10
  | 11, _ => exact lay_0_11
  | k + 12, h => omega
theorem lay_1_0 : u_lay (cnm 1) (FTs 1) 0 ∈ Gd := gd_1 52 rfl rfl
theorem lay_1_1 : u_lay (cnm 1) (FTs 1) 1 ∈ Gd := gd_1 54 rfl rfl
theorem lay_1_2 : u_lay (cnm 1) (FTs 1) 2 ∈ Gd := gd_1 56 rfl rfl
theorem lay_1_3 : u_lay (cnm 1) (FTs 1) 3 ∈ Gd := gd_1 58 rfl rfl
theorem lay_1_4 : u_lay (cnm 1) (FTs 1) 4 ∈ Gd := gd_1 60 rfl rfl
theorem lay_1_5 : u_lay (cnm 1) (FTs 1) 5 ∈ Gd := gd_1 62 rfl rfl
theorem lay_1_6 : u_lay (cnm 1) (FTs 1) 6 ∈ Gd := gd_1 64 rfl rfl
theorem lay_1_7 : u_lay (cnm 1) (FTs 1) 7 ∈ Gd := gd_1 66 rfl rfl
theorem lay_1_8 : u_lay (cnm 1) (FTs 1) 8 ∈ Gd := gd_1 68 rfl rfl
theorem lay_1_9 : u_lay (cnm 1) (FTs 1) 9 ∈ Gd := gd_1 70 rfl rfl
theorem lay_1_10 : u_lay (cnm 1) (FTs 1) 10 ∈ Gd := gd_1 72 rfl rfl
theorem lay_1_11 : u_lay (cnm 1) (FTs 1) 11 ∈ Gd := gd_1 74 rfl rfl
theorem lay_1_12 : u_lay (cnm 1) (FTs 1) 12 ∈ Gd := gd_1 76 rfl rfl
theorem lay_1_13 : u_lay (cnm 1) (FTs 1) 13 ∈ Gd := gd_1 78 rfl rfl
theorem lay_1_14 : u_lay (cnm 1) (FTs 1) 14 ∈ Gd := gd_1 80 rfl rfl
theorem lay_1_15 : u_lay (cnm 1) (FTs 1) 15 ∈ Gd := gd_1 82 rfl rfl
theorem uws_1 : ∀ w ∈ u_ws (cnm 1) (FTs 1) (fcount 1), w ∈ Gd := by
  intro w hw
  obtain ⟨k, hk, rfl⟩ := List.mem_map.mp hw
  have hk2 : k < 16 := List.mem_range.mp hk
  match k, hk2 with
  | 0, _ => exact lay_1_0
  | 1, _ => exact lay_1_1
  | 2, _ => exact lay_1_2
  | 3, _ => exact lay_1_3
  | 4, _ => exact lay_1_4
  | 5, _ => exact lay_1_5
  | 6, _ => exact lay_1_6
  | 7, _ => exact lay_1_7
  | 8, _ => exact lay_1_8
  | 9, _ => exact lay_1_9
  | 10, _ => exact lay_1_10
  | 11, _ => exact lay_1_11
  | 12, _ => exact lay_1_12
  | 13, _ => exact lay_1_13
  | 14, _ => exact lay_1_14
  | 15, _ => exact lay_1_15
  | k + 16, h => omega
theorem lay_2_0 : u_lay (cnm 2) (FTs 2) 0 ∈ Gd := gd_1 101 rfl rfl
theorem lay_2_1 : u_lay (cnm 2) (FTs 2) 1 ∈ Gd := gd_1 103 rfl rfl
theorem lay_2_2 : u_lay (cnm 2) (FTs 2) 2 ∈ Gd := gd_1 105 rfl rfl
theorem lay_2_3 : u_lay (cnm 2) (FTs 2) 3 ∈ Gd := gd_1 107 rfl rfl
theorem lay_2_4 : u_lay (cnm 2) (FTs 2) 4 ∈ Gd := gd_1 109 rfl rfl
theorem lay_2_5 : u_lay (cnm 2) (FTs 2) 5 ∈ Gd := gd_1 111 rfl rfl
theorem lay_2_6 : u_lay (cnm 2) (FTs 2) 6 ∈ Gd := gd_1 113 rfl rfl
theorem lay_2_7 : u_lay (cnm 2) (FTs 2) 7 ∈ Gd := gd_1 115 rfl rfl
theorem uws_2 : ∀ w ∈ u_ws (cnm 2) (FTs 2) (fcount 2), w ∈ Gd := by
  intro w hw
  obtain ⟨k, hk, rfl⟩ := List.mem_map.mp hw
  have hk2 : k < 8 := List.mem_range.mp hk
  match k, hk2 with
  | 0, _ => exact lay_2_0
  | 1, _ => exact lay_2_1
  | 2, _ => exact lay_2_2
  | 3, _ => exact lay_2_3
  | 4, _ => exact lay_2_4
  | 5, _ => exact lay_2_5
  | 6, _ => exact lay_2_6
  | 7, _ => exact lay_2_7
  | k + 8, h => omega
theorem lay_3_0 : u_lay (cnm 3) (FTs 3) 0 ∈ Gd := gd_1 126 rfl rfl
theorem lay_3_1 : u_lay (cnm 3) (FTs 3) 1 ∈ Gd := gd_1 128 rfl rfl
theorem uws_3 : ∀ w ∈ u_ws (cnm 3) (FTs 3) (fcount 3), w ∈ Gd := by
  intro w hw
  obtain ⟨k, hk, rfl⟩ := List.mem_map.mp hw
  have hk2 : k < 2 := List.mem_range.mp hk
  match k, hk2 with
  | 0, _ => exact lay_3_0
  | 1, _ => exact lay_3_1
  | k + 2, h => omega
theorem lay_4_0 : u_lay (cnm 4) (FTs 4) 0 ∈ Gd := gd_1 139 rfl rfl
theorem lay_4_1 : u_lay (cnm 4) (FTs 4) 1 ∈ Gd := gd_1 141 rfl rfl
theorem uws_4 : ∀ w ∈ u_ws (cnm 4) (FTs 4) (fcount 4), w ∈ Gd := by
  intro w hw
  obtain ⟨k, hk, rfl⟩ := List.mem_map.mp hw
  have hk2 : k < 2 := List.mem_range.mp hk
  match k, hk2 with
  | 0, _ => exact lay_4_0
  | 1, _ => exact lay_4_1
  | k + 2, h => omega
theorem lay_5_0 : u_lay (cnm 5) (FTs 5) 0 ∈ Gd := gd_1 156 rfl rfl
theorem lay_5_1 : u_lay (cnm 5) (FTs 5) 1 ∈ Gd := gd_1 158 rfl rfl
theorem lay_5_2 : u_lay (cnm 5) (FTs 5) 2 ∈ Gd := gd_1 160 rfl rfl
theorem lay_5_3 : u_lay (cnm 5) (FTs 5) 3 ∈ Gd := gd_1 162 rfl rfl
theorem uws_5 : ∀ w ∈ u_ws (cnm 5) (FTs 5) (fcount 5), w ∈ Gd := by
  intro w hw
  obtain ⟨k, hk, rfl⟩ := List.mem_map.mp hw
  have hk2 : k < 4 := List.mem_range.mp hk
  match k, hk2 with
  | 0, _ => exact lay_5_0
  | 1, _ => exact lay_5_1
  | 2, _ => exact lay_5_2
  | 3, _ => exact lay_5_3
  | k + 4, h => omega
theorem lay_6_0 : u_lay (cnm 6) (FTs 6) 0 ∈ Gd := gd_1 182 rfl rfl
theorem lay_6_1 : u_lay (cnm 6) (FTs 6) 1 ∈ Gd := gd_1 184 rfl rfl
theorem lay_6_2 : u_lay (cnm 6) (FTs 6) 2 ∈ Gd := gd_1 186 rfl rfl
theorem lay_6_3 : u_lay (cnm 6) (FTs 6) 3 ∈ Gd := gd_1 188 rfl rfl
theorem lay_6_4 : u_lay (cnm 6) (FTs 6) 4 ∈ Gd := gd_1 190 rfl rfl
theorem uws_6 : ∀ w ∈ u_ws (cnm 6) (FTs 6) (fcount 6), w ∈ Gd := by
  intro w hw
  obtain ⟨k, hk, rfl⟩ := List.mem_map.mp hw
  have hk2 : k < 5 := List.mem_range.mp hk
  match k, hk2 with
  | 0, _ => exact lay_6_0
  | 1, _ => exact lay_6_1
  | 2, _ => exact lay_6_2
  | 3, _ => exact lay_6_3
  | 4, _ => exact lay_6_4
  | k + 5, h => omega
theorem lay_7_0 : u_lay (cnm 7) (FTs 7) 0 ∈ Gd := gd_1 208 rfl rfl
theorem lay_7_1 : u_lay (cnm 7) (FTs 7) 1 ∈ Gd := gd_1 210 rfl rfl
theorem lay_7_2 : u_lay (cnm 7) (FTs 7) 2 ∈ Gd := gd_1 212 rfl rfl
theorem lay_7_3 : u_lay (cnm 7) (FTs 7) 3 ∈ Gd := gd_1 214 rfl rfl
theorem lay_7_4 : u_lay (cnm 7) (FTs 7) 4 ∈ Gd := gd_1 216 rfl rfl
theorem lay_7_5 : u_lay (cnm 7) (FTs 7) 5 ∈ Gd := gd_1 218 rfl rfl
theorem lay_7_6 : u_lay (cnm 7) (FTs 7) 6 ∈ Gd := gd_1 220 rfl rfl
theorem lay_7_7 : u_lay (cnm 7) (FTs 7) 7 ∈ Gd := gd_1 222 rfl rfl
theorem uws_7 : ∀ w ∈ u_ws (cnm 7) (FTs 7) (fcount 7), w ∈ Gd := by
  intro w hw
  obtain ⟨k, hk, rfl⟩ := List.mem_map.mp hw
  have hk2 : k < 8 := List.mem_range.mp hk
  match k, hk2 with
  | 0, _ => exact lay_7_0
  | 1, _ => exact lay_7_1
  | 2, _ => exact lay_7_2
  | 3, _ => exact lay_7_3
  | 4, _ => exact lay_7_4
  | 5, _ => exact lay_7_5
  | 6, _ => exact lay_7_6
  | 7, _ => exact lay_7_7
  | k + 8, h => omega
theorem lay_8_0 : u_lay (cnm 8) (FTs 8) 0 ∈ Gd := gd_1 236 rfl rfl
theorem lay_8_1 : u_lay (cnm 8) (FTs 8) 1 ∈ Gd := gd_1 238 rfl rfl
theorem lay_8_2 : u_lay (cnm 8) (FTs 8) 2 ∈ Gd := gd_2 0 rfl rfl
theorem uws_8 : ∀ w ∈ u_ws (cnm 8) (FTs 8) (fcount 8), w ∈ Gd := by
  intro w hw
  obtain ⟨k, hk, rfl⟩ := List.mem_map.mp hw
  have hk2 : k < 3 := List.mem_range.mp hk
  match k, hk2 with
  | 0, _ => exact lay_8_0
  | 1, _ => exact lay_8_1
  | 2, _ => exact lay_8_2
  | k + 3, h => omega
theorem lay_9_0 : u_lay (cnm 9) (FTs 9) 0 ∈ Gd := gd_2 19 rfl rfl
theorem lay_9_1 : u_lay (cnm 9) (FTs 9) 1 ∈ Gd := gd_2 21 rfl rfl
theorem lay_9_2 : u_lay (cnm 9) (FTs 9) 2 ∈ Gd := gd_2 23 rfl rfl
theorem lay_9_3 : u_lay (cnm 9) (FTs 9) 3 ∈ Gd := gd_2 25 rfl rfl
theorem lay_9_4 : u_lay (cnm 9) (FTs 9) 4 ∈ Gd := gd_2 27 rfl rfl
theorem lay_9_5 : u_lay (cnm 9) (FTs 9) 5 ∈ Gd := gd_2 29 rfl rfl
theorem lay_9_6 : u_lay (cnm 9) (FTs 9) 6 ∈ Gd := gd_2 31 rfl rfl
theorem lay_9_7 : u_lay (cnm 9) (FTs 9) 7 ∈ Gd := gd_2 33 rfl rfl
theorem lay_9_8 : u_lay (cnm 9) (FTs 9) 8 ∈ Gd := gd_2 35 rfl rfl
theorem lay_9_9 : u_lay (cnm 9) (FTs 9) 9 ∈ Gd := gd_2 37 rfl rfl
theorem lay_9_10 : u_lay (cnm 9) (FTs 9) 10 ∈ Gd := gd_2 39 rfl rfl
theorem lay_9_11 : u_lay (cnm 9) (FTs 9) 11 ∈ Gd := gd_2 41 rfl rfl
theorem uws_9 : ∀ w ∈ u_ws (cnm 9) (FTs 9) (fcount 9), w ∈ Gd := by
  intro w hw
  obtain ⟨k, hk, rfl⟩ := List.mem_map.mp hw
  have hk2 : k < 12 := List.mem_range.mp hk
  match k, hk2 with
  | 0, _ => exact lay_9_0
  | 1, _ => exact lay_9_1
  | 2, _ => exact lay_9_2
  | 3, _ => exact lay_9_3
  | 4, _ => exact lay_9_4
  | 5, _ => exact lay_9_5
  | 6, _ => exact lay_9_6
  | 7, _ => exact lay_9_7
  | 8, _ => exact lay_9_8
  | 9, _ => exact lay_9_9
  | 10, _ => exact lay_9_10
  | 11, _ => exact lay_9_11
  | k + 12, h => omega
theorem lay_10_0 : u_lay (cnm 10) (FTs 10) 0 ∈ Gd := gd_2 52 rfl rfl
theorem lay_10_1 : u_lay (cnm 10) (FTs 10) 1 ∈ Gd := gd_2 54 rfl rfl
theorem uws_10 : ∀ w ∈ u_ws (cnm 10) (FTs 10) (fcount 10), w ∈ Gd := by
  intro w hw
  obtain ⟨k, hk, rfl⟩ := List.mem_map.mp hw
  have hk2 : k < 2 := List.mem_range.mp hk
  match k, hk2 with
  | 0, _ => exact lay_10_0
  | 1, _ => exact lay_10_1
  | k + 2, h => omega
theorem lay_11_0 : u_lay (cnm 11) (FTs 11) 0 ∈ Gd := gd_8 71 rfl rfl
theorem lay_11_1 : u_lay (cnm 11) (FTs 11) 1 ∈ Gd := gd_8 73 rfl rfl
theorem lay_11_2 : u_lay (cnm 11) (FTs 11) 2 ∈ Gd := gd_8 75 rfl rfl
theorem lay_11_3 : u_lay (cnm 11) (FTs 11) 3 ∈ Gd := gd_8 77 rfl rfl
theorem lay_11_4 : u_lay (cnm 11) (FTs 11) 4 ∈ Gd := gd_8 79 rfl rfl
theorem lay_11_5 : u_lay (cnm 11) (FTs 11) 5 ∈ Gd := gd_8 81 rfl rfl
theorem lay_11_6 : u_lay (cnm 11) (FTs 11) 6 ∈ Gd := gd_8 83 rfl rfl
theorem lay_11_7 : u_lay (cnm 11) (FTs 11) 7 ∈ Gd := gd_8 85 rfl rfl
theorem lay_11_8 : u_lay (cnm 11) (FTs 11) 8 ∈ Gd := gd_8 87 rfl rfl
theorem lay_11_9 : u_lay (cnm 11) (FTs 11) 9 ∈ Gd := gd_8 89 rfl rfl
theorem lay_11_10 : u_lay (cnm 11) (FTs 11) 10 ∈ Gd := gd_8 91 rfl rfl
theorem lay_11_11 : u_lay (cnm 11) (FTs 11) 11 ∈ Gd := gd_8 93 rfl rfl
theorem lay_11_12 : u_lay (cnm 11) (FTs 11) 12 ∈ Gd := gd_8 95 rfl rfl
theorem lay_11_13 : u_lay (cnm 11) (FTs 11) 13 ∈ Gd := gd_8 97 rfl rfl
theorem lay_11_14 : u_lay (cnm 11) (FTs 11) 14 ∈ Gd := gd_8 99 rfl rfl
theorem lay_11_15 : u_lay (cnm 11) (FTs 11) 15 ∈ Gd := gd_8 101 rfl rfl
theorem lay_11_16 : u_lay (cnm 11) (FTs 11) 16 ∈ Gd := gd_8 103 rfl rfl
theorem lay_11_17 : u_lay (cnm 11) (FTs 11) 17 ∈ Gd := gd_8 105 rfl rfl
theorem lay_11_18 : u_lay (cnm 11) (FTs 11) 18 ∈ Gd := gd_8 107 rfl rfl
theorem lay_11_19 : u_lay (cnm 11) (FTs 11) 19 ∈ Gd := gd_8 109 rfl rfl
theorem lay_11_20 : u_lay (cnm 11) (FTs 11) 20 ∈ Gd := gd_8 111 rfl rfl
theorem lay_11_21 : u_lay (cnm 11) (FTs 11) 21 ∈ Gd := gd_8 113 rfl rfl
theorem lay_11_22 : u_lay (cnm 11) (FTs 11) 22 ∈ Gd := gd_8 115 rfl rfl
theorem lay_11_23 : u_lay (cnm 11) (FTs 11) 23 ∈ Gd := gd_8 117 rfl rfl
theorem lay_11_24 : u_lay (cnm 11) (FTs 11) 24 ∈ Gd := gd_8 119 rfl rfl
theorem lay_11_25 : u_lay (cnm 11) (FTs 11) 25 ∈ Gd := gd_8 121 rfl rfl
theorem lay_11_26 : u_lay (cnm 11) (FTs 11) 26 ∈ Gd := gd_8 123 rfl rfl
theorem lay_11_27 : u_lay (cnm 11) (FTs 11) 27 ∈ Gd := gd_8 125 rfl rfl
theorem lay_11_28 : u_lay (cnm 11) (FTs 11) 28 ∈ Gd := gd_8 127 rfl rfl
theorem lay_11_29 : u_lay (cnm 11) (FTs 11) 29 ∈ Gd := gd_8 129 rfl rfl
theorem lay_11_30 : u_lay (cnm 11) (FTs 11) 30 ∈ Gd := gd_8 131 rfl rfl
theorem lay_11_31 : u_lay (cnm 11) (FTs 11) 31 ∈ Gd := gd_8 133 rfl rfl
theorem lay_11_32 : u_lay (cnm 11) (FTs 11) 32 ∈ Gd := gd_8 135 rfl rfl
theorem lay_11_33 : u_lay (cnm 11) (FTs 11) 33 ∈ Gd := gd_8 137 rfl rfl
theorem lay_11_34 : u_lay (cnm 11) (FTs 11) 34 ∈ Gd := gd_8 139 rfl rfl
theorem lay_11_35 : u_lay (cnm 11) (FTs 11) 35 ∈ Gd := gd_8 141 rfl rfl
theorem lay_11_36 : u_lay (cnm 11) (FTs 11) 36 ∈ Gd := gd_8 143 rfl rfl
theorem lay_11_37 : u_lay (cnm 11) (FTs 11) 37 ∈ Gd := gd_8 145 rfl rfl
theorem lay_11_38 : u_lay (cnm 11) (FTs 11) 38 ∈ Gd := gd_8 147 rfl rfl
theorem lay_11_39 : u_lay (cnm 11) (FTs 11) 39 ∈ Gd := gd_8 149 rfl rfl
theorem lay_11_40 : u_lay (cnm 11) (FTs 11) 40 ∈ Gd := gd_8 151 rfl rfl
theorem lay_11_41 : u_lay (cnm 11) (FTs 11) 41 ∈ Gd := gd_8 153 rfl rfl
theorem lay_11_42 : u_lay (cnm 11) (FTs 11) 42 ∈ Gd := gd_8 155 rfl rfl
theorem lay_11_43 : u_lay (cnm 11) (FTs 11) 43 ∈ Gd := gd_8 157 rfl rfl
theorem lay_11_44 : u_lay (cnm 11) (FTs 11) 44 ∈ Gd := gd_8 159 rfl rfl
theorem lay_11_45 : u_lay (cnm 11) (FTs 11) 45 ∈ Gd := gd_8 161 rfl rfl
theorem lay_11_46 : u_lay (cnm 11) (FTs 11) 46 ∈ Gd := gd_8 163 rfl rfl
theorem lay_11_47 : u_lay (cnm 11) (FTs 11) 47 ∈ Gd := gd_8 165 rfl rfl
theorem lay_11_48 : u_lay (cnm 11) (FTs 11) 48 ∈ Gd := gd_8 167 rfl rfl
theorem lay_11_49 : u_lay (cnm 11) (FTs 11) 49 ∈ Gd := gd_8 169 rfl rfl
theorem lay_11_50 : u_lay (cnm 11) (FTs 11) 50 ∈ Gd := gd_8 171 rfl rfl
theorem lay_11_51 : u_lay (cnm 11) (FTs 11) 51 ∈ Gd := gd_8 173 rfl rfl
theorem lay_11_52 : u_lay (cnm 11) (FTs 11) 52 ∈ Gd := gd_8 175 rfl rfl
theorem lay_11_53 : u_lay (cnm 11) (FTs 11) 53 ∈ Gd := gd_8 177 rfl rfl
theorem lay_11_54 : u_lay (cnm 11) (FTs 11) 54 ∈ Gd := gd_8 179 rfl rfl
theorem lay_11_55 : u_lay (cnm 11) (FTs 11) 55 ∈ Gd := gd_8 181 rfl rfl
theorem lay_11_56 : u_lay (cnm 11) (FTs 11) 56 ∈ Gd := gd_8 183 rfl rfl
theorem lay_11_57 : u_lay (cnm 11) (FTs 11) 57 ∈ Gd := gd_8 185 rfl rfl
theorem lay_11_58 : u_lay (cnm 11) (FTs 11) 58 ∈ Gd := gd_8 187 rfl rfl
theorem lay_11_59 : u_lay (cnm 11) (FTs 11) 59 ∈ Gd := gd_8 189 rfl rfl
theorem lay_11_60 : u_lay (cnm 11) (FTs 11) 60 ∈ Gd := gd_8 191 rfl rfl
theorem lay_11_61 : u_lay (cnm 11) (FTs 11) 61 ∈ Gd := gd_8 193 rfl rfl
theorem lay_11_62 : u_lay (cnm 11) (FTs 11) 62 ∈ Gd := gd_8 195 rfl rfl
theorem lay_11_63 : u_lay (cnm 11) (FTs 11) 63 ∈ Gd := gd_8 197 rfl rfl
theorem lay_11_64 : u_lay (cnm 11) (FTs 11) 64 ∈ Gd := gd_8 199 rfl rfl
theorem lay_11_65 : u_lay (cnm 11) (FTs 11) 65 ∈ Gd := gd_8 201 rfl rfl
theorem uws_11 : ∀ w ∈ u_ws (cnm 11) (FTs 11) (fcount 11), w ∈ Gd := by
  intro w hw
  obtain ⟨k, hk, rfl⟩ := List.mem_map.mp hw
  have hk2 : k < 66 := List.mem_range.mp hk
  match k, hk2 with
  | 0, _ => exact lay_11_0
  | 1, _ => exact lay_11_1
  | 2, _ => exact lay_11_2
  | 3, _ => exact lay_11_3
  | 4, _ => exact lay_11_4
  | 5, _ => exact lay_11_5
  | 6, _ => exact lay_11_6
  | 7, _ => exact lay_11_7
  | 8, _ => exact lay_11_8
  | 9, _ => exact lay_11_9
  | 10, _ => exact lay_11_10
  | 11, _ => exact lay_11_11
  | 12, _ => exact lay_11_12
  | 13, _ => exact lay_11_13
  | 14, _ => exact lay_11_14
  | 15, _ => exact lay_11_15
  | 16, _ => exact lay_11_16
  | 17, _ => exact lay_11_17
  | 18, _ => exact lay_11_18
  | 19, _ => exact lay_11_19
  | 20, _ => exact lay_11_20
  | 21, _ => exact lay_11_21
  | 22, _ => exact lay_11_22
  | 23, _ => exact lay_11_23
  | 24, _ => exact lay_11_24
  | 25, _ => exact lay_11_25
  | 26, _ => exact lay_11_26
  | 27, _ => exact lay_11_27
  | 28, _ => exact lay_11_28
  | 29, _ => exact lay_11_29
  | 30, _ => exact lay_11_30
  | 31, _ => exact lay_11_31
  | 32, _ => exact lay_11_32
  | 33, _ => exact lay_11_33
  | 34, _ => exact lay_11_34
  | 35, _ => exact lay_11_35
  | 36, _ => exact lay_11_36
  | 37, _ => exact lay_11_37
  | 38, _ => exact lay_11_38
  | 39, _ => exact lay_11_39
  | 40, _ => exact lay_11_40
  | 41, _ => exact lay_11_41
  | 42, _ => exact lay_11_42
  | 43, _ => exact lay_11_43
  | 44, _ => exact lay_11_44
  | 45, _ => exact lay_11_45
  | 46, _ => exact lay_11_46
  | 47, _ => exact lay_11_47
  | 48, _ => exact lay_11_48
  | 49, _ => exact lay_11_49
  | 50, _ => exact lay_11_50
  | 51, _ => exact lay_11_51
  | 52, _ => exact lay_11_52
  | 53, _ => exact lay_11_53
  | 54, _ => exact lay_11_54
  | 55, _ => exact lay_11_55
  | 56, _ => exact lay_11_56
  | 57, _ => exact lay_11_57
  | 58, _ => exact lay_11_58
  | 59, _ => exact lay_11_59
  | 60, _ => exact lay_11_60
  | 61, _ => exact lay_11_61
  | 62, _ => exact lay_11_62
  | 63, _ => exact lay_11_63
  | 64, _ => exact lay_11_64
  | 65, _ => exact lay_11_65
  | k + 66, h => omega
theorem uws_all : ∀ ci, ci < 12 → ∀ w ∈ u_ws (cnm ci) (FTs ci) (fcount ci), w ∈ Gd
  | 0, _ => uws_0
  | 1, _ => uws_1
  | 2, _ => uws_2
  | 3, _ => uws_3
  | 4, _ => uws_4
  | 5, _ => uws_5
  | 6, _ => uws_6
  | 7, _ => uws_7
  | 8, _ => uws_8
  | 9, _ => uws_9
  | 10, _ => uws_10
  | 11, _ => uws_11
  | n + 12, h => by omega
def ftp (ci k : Nat) : FieldType := (parseFieldDescriptor (FTs ci k).2.2.1).getD .int
def chkT (ci k : Nat) : Bool := decide (parseFieldDescriptor (FTs ci k).2.2.1 = some (ftp ci k)) && (match fty ci k with
  | 0 => decide (ftp ci k = .int)
  | 1 => decide (ftp ci k = .long)
  | 2 => decide (ftp ci k = .boolean)
  | 3 => (match ftp ci k with
    | .object _ => true
    | .array _ => true
    | _ => false)
  | _ => false) && decide ((FTs ci k).2.2.2 = ffin ci k) && decide ((FTs ci k).1 = cnm ci)
theorem chkT_all : ((List.range 12).all fun ci => (List.range (fcount ci)).all (chkT ci)) = true := by decide +kernel
theorem nm_all : ((List.range 12).all fun ci => (List.range (fcount ci)).all fun a => (List.range (fcount ci)).all fun b => decide (a ≠ b → (FTs ci a).2.1 ≠ (FTs ci b).2.1)) = true := by decide +kernel
theorem ftp_ok {ci : Nat} (hc : ci < 12) : ∀ k, k < fcount ci → parseFieldDescriptor (FTs ci k).2.2.1 = some (ftp ci k) := by
  intro k hk
  have h := List.all_eq_true.mp (List.all_eq_true.mp chkT_all ci (List.mem_range.mpr hc)) k (List.mem_range.mpr hk)
  unfold chkT at h
  simp only [Bool.and_eq_true, decide_eq_true_eq] at h
  exact h.1.1.1
theorem ftp_fin {ci k : Nat} (hc : ci < 12) (hk : k < fcount ci) : (FTs ci k).2.2.2 = ffin ci k ∧ (FTs ci k).1 = cnm ci := by
  have h := List.all_eq_true.mp (List.all_eq_true.mp chkT_all ci (List.mem_range.mpr hc)) k (List.mem_range.mpr hk)
  unfold chkT at h
  simp only [Bool.and_eq_true, decide_eq_true_eq] at h
  exact ⟨h.1.2, h.2⟩
theorem ftp_ty {ci k : Nat} (hc : ci < 12) (hk : k < fcount ci) : (fty ci k = 0 ∧ ftp ci k = .int) ∨ (fty ci k = 1 ∧ ftp ci k = .long) ∨ (fty ci k = 2 ∧ ftp ci k = .boolean) ∨ (fty ci k = 3 ∧ ((∃ n, ftp ci k = .object n) ∨ ∃ t, ftp ci k = .array t)) := by
  have h := List.all_eq_true.mp (List.all_eq_true.mp chkT_all ci (List.mem_range.mpr hc)) k (List.mem_range.mpr hk)
  unfold chkT at h
  simp only [Bool.and_eq_true] at h
  have h2 := h.1.1.2
  split at h2
  · exact Or.inl ⟨by assumption, of_decide_eq_true h2⟩
  · exact Or.inr (Or.inl ⟨by assumption, of_decide_eq_true h2⟩)
  · exact Or.inr (Or.inr (Or.inl ⟨by assumption, of_decide_eq_true h2⟩))
  · refine Or.inr (Or.inr (Or.inr ⟨by assumption, ?_⟩))
    split at h2
    · exact Or.inl ⟨_, by assumption⟩
    · exact Or.inr ⟨_, by assumption⟩
    · cases h2
  · cases h2
theorem nm_ok {ci : Nat} (hc : ci < 12) : ∀ a, a < fcount ci → ∀ b, b < fcount ci → a ≠ b → (FTs ci a).2.1 ≠ (FTs ci b).2.1 := by
  intro a ha b hb
  exact of_decide_eq_true (List.all_eq_true.mp (List.all_eq_true.mp (List.all_eq_true.mp nm_all ci (List.mem_range.mpr hc)) a (List.mem_range.mpr ha)) b (List.mem_range.mpr hb))
theorem rF_mem {cn idx ci k : Nat} (h : rF cn idx = some (ci, k)) : Cond.fieldLink (cnm cn) idx (FTs ci k).1 (FTs ci k).2.1 (FTs ci k).2.2.1 ∈ Gd ∧ ci < 12 ∧ k < fcount ci := by
  unfold rF at h
  obtain ⟨r, hr, e⟩ := Option.map_eq_some_iff.mp h
  have h1 := List.find?_some hr
  have h2 := List.mem_of_find?_eq_some hr
  have e1 : r.1 = idx := by simpa using h1
  have h3 := List.all_eq_true.mp chkF_all cn (List.mem_range.mpr (by
    rcases Nat.lt_or_ge cn 19 with q | q
    · exact q
    · rw [List.getD_eq_getElem?_getD, List.getElem?_eq_none (by exact q)] at h2; cases h2))
  have h4 := List.all_eq_true.mp h3 _ h2
  cases e
  unfold chkF at h4
  simp only [Bool.and_eq_true, decide_eq_true_eq] at h4
  rw [← e1]
  exact ⟨hasW_mem h4.1.1, h4.1.2, h4.2⟩
theorem rC_mem {cn idx kd : Nat} (h : rC cn idx = some kd) : (kd = 25 ∧ Cond.classLink (cnm cn) idx "[[I" ∈ Gd) ∨ (kd = 26 ∧ Cond.classLink (cnm cn) idx "[[J" ∈ Gd) ∨ (kd < 12 ∧ Cond.classLink (cnm cn) idx (cnm kd) ∈ Gd) := by
  unfold rC at h
  obtain ⟨r, hr, e⟩ := Option.map_eq_some_iff.mp h
  have h1 := List.find?_some hr
  have h2 := List.mem_of_find?_eq_some hr
  have e1 : r.1 = idx := by simpa using h1
  have h3 := List.all_eq_true.mp chkC_all cn (List.mem_range.mpr (by
    rcases Nat.lt_or_ge cn 19 with q | q
    · exact q
    · rw [List.getD_eq_getElem?_getD, List.getElem?_eq_none (by exact q)] at h2; cases h2))
  have h4 := List.all_eq_true.mp h3 _ h2
  cases e
  unfold chkC at h4
  rw [e1] at h4
  split at h4
  · exact Or.inl ⟨by assumption, hasW_mem h4⟩
  · split at h4
    · exact Or.inr (Or.inl ⟨by assumption, hasW_mem h4⟩)
    · simp only [Bool.and_eq_true, decide_eq_true_eq] at h4
      exact Or.inr (Or.inr ⟨h4.2, hasW_mem h4.1⟩)
theorem rM_mem {cn idx k : Nat} {m' : Mth} (h : rM cn idx = some (k, m')) : okLk cn (idx, k, m') := by
  unfold rM at h
  obtain ⟨r, hr, e⟩ := Option.map_eq_some_iff.mp h
  have h1 := List.find?_some hr
  have h2 := List.mem_of_find?_eq_some hr
  have e1 : r.1 = idx := by simpa using h1
  have h3 := fl_all cn r h2
  rw [show r = (idx, k, m') from by rw [← e, ← e1]] at h3
  exact h3
theorem ins_0 : Cond.instantiable (cnm 0) (fcount 0) ∈ Gd ∧ Cond.initialized (cnm 0) ∈ Gd := ⟨gd_1 22 rfl rfl, gd_1 1 rfl rfl⟩
theorem ins_1 : Cond.instantiable (cnm 1) (fcount 1) ∈ Gd ∧ Cond.initialized (cnm 1) ∈ Gd := ⟨gd_1 31 rfl rfl, gd_1 2 rfl rfl⟩
theorem ins_2 : Cond.instantiable (cnm 2) (fcount 2) ∈ Gd ∧ Cond.initialized (cnm 2) ∈ Gd := ⟨gd_1 88 rfl rfl, gd_1 3 rfl rfl⟩
theorem ins_3 : Cond.instantiable (cnm 3) (fcount 3) ∈ Gd ∧ Cond.initialized (cnm 3) ∈ Gd := ⟨gd_1 119 rfl rfl, gd_1 4 rfl rfl⟩
theorem ins_4 : Cond.instantiable (cnm 4) (fcount 4) ∈ Gd ∧ Cond.initialized (cnm 4) ∈ Gd := ⟨gd_1 132 rfl rfl, gd_1 5 rfl rfl⟩
theorem ins_5 : Cond.instantiable (cnm 5) (fcount 5) ∈ Gd ∧ Cond.initialized (cnm 5) ∈ Gd := ⟨gd_1 145 rfl rfl, gd_1 6 rfl rfl⟩
theorem ins_6 : Cond.instantiable (cnm 6) (fcount 6) ∈ Gd ∧ Cond.initialized (cnm 6) ∈ Gd := ⟨gd_1 167 rfl rfl, gd_1 7 rfl rfl⟩
theorem ins_7 : Cond.instantiable (cnm 7) (fcount 7) ∈ Gd ∧ Cond.initialized (cnm 7) ∈ Gd := ⟨gd_1 195 rfl rfl, gd_1 9 rfl rfl⟩
theorem ins_8 : Cond.instantiable (cnm 8) (fcount 8) ∈ Gd ∧ Cond.initialized (cnm 8) ∈ Gd := ⟨gd_1 228 rfl rfl, gd_1 11 rfl rfl⟩
theorem ins_9 : Cond.instantiable (cnm 9) (fcount 9) ∈ Gd ∧ Cond.initialized (cnm 9) ∈ Gd := ⟨gd_1 226 rfl rfl, gd_1 10 rfl rfl⟩
theorem ins_10 : Cond.instantiable (cnm 10) (fcount 10) ∈ Gd ∧ Cond.initialized (cnm 10) ∈ Gd := ⟨gd_2 45 rfl rfl, gd_1 12 rfl rfl⟩
theorem ins_11 : Cond.instantiable (cnm 11) (fcount 11) ∈ Gd ∧ Cond.initialized (cnm 11) ∈ Gd := ⟨gd_6 233 rfl rfl, gd_1 13 rfl rfl⟩
theorem ins_all : ∀ ci, ci < 12 → Cond.instantiable (cnm ci) (fcount ci) ∈ Gd ∧ Cond.initialized (cnm ci) ∈ Gd
  | 0, _ => ins_0
  | 1, _ => ins_1
  | 2, _ => ins_2
  | 3, _ => ins_3
  | 4, _ => ins_4
  | 5, _ => ins_5
  | 6, _ => ins_6
  | 7, _ => ins_7
  | 8, _ => ins_8
  | 9, _ => ins_9
  | 10, _ => ins_10
  | 11, _ => ins_11
  | n + 12, h => by omega
theorem acl_byte : Cond.arrayClass .byte ∈ Gd := gd_1 85 rfl rfl
theorem acl_int : Cond.arrayClass .int ∈ Gd := gd_1 86 rfl rfl
theorem acl_boolean : Cond.arrayClass .boolean ∈ Gd := gd_1 165 rfl rfl
theorem acl_long : Cond.arrayClass .long ∈ Gd := gd_1 193 rfl rfl
