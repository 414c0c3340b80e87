/-! What the tables say: classes, fields, methods, links (by program out of the words' places). -/
theorem zin_X0 : ∀ w ∈ u_ws RX0 TX0 3, w ∈ zT := fun w hw => by
  have h := goodIn_r (big := lw_tbl) (u_ws RX0 TX0 3) [289, 291, 293] (by decide +kernel) (by decide +kernel) w hw
  exact zT_in h.1 (by
    have := List.all_eq_true.mp (show (u_ws RX0 TX0 3).all goodWord = true by decide +kernel) w hw
    exact this)
theorem zcl_X0 : zCl 0 RX0 TX0 3 := ⟨rfl, by decide, zin_X0, tyX0_ok, nmX0, zT_in (List.mem_of_getElem? (i := 279) (by decide +kernel)) (by decide +kernel), zT_in (List.mem_of_getElem? (i := 69) (by decide +kernel)) (by decide +kernel)⟩
theorem zdf_X0 : ∀ k, k < 3 → (zty 0 k = .int ∨ zty 0 k = .boolean ∨ zty 0 k = .long ∨ (∃ n, zty 0 k = .object n) ∨ ∃ t, zty 0 k = .array t) := by
  intro k hk
  rcases (show k = 0 ∨ k = 1 ∨ k = 2 by omega) with rfl | rfl | rfl
  · exact Or.inr (Or.inr (Or.inr (Or.inr ⟨_, rfl⟩)))
  · exact Or.inr (Or.inr (Or.inr (Or.inr ⟨_, rfl⟩)))
  · exact Or.inl rfl
theorem zin_X2 : ∀ w ∈ u_ws RX2 TX2 3, w ∈ zT := fun w hw => by
  have h := goodIn_r (big := lw_tbl) (u_ws RX2 TX2 3) [250, 252, 254] (by decide +kernel) (by decide +kernel) w hw
  exact zT_in h.1 (by
    have := List.all_eq_true.mp (show (u_ws RX2 TX2 3).all goodWord = true by decide +kernel) w hw
    exact this)
theorem zcl_X2 : zCl 1 RX2 TX2 3 := ⟨rfl, by decide, zin_X2, tyX2_ok, nmX2, zT_in (List.mem_of_getElem? (i := 239) (by decide +kernel)) (by decide +kernel), zT_in (List.mem_of_getElem? (i := 67) (by decide +kernel)) (by decide +kernel)⟩
theorem zdf_X2 : ∀ k, k < 3 → (zty 1 k = .int ∨ zty 1 k = .boolean ∨ zty 1 k = .long ∨ (∃ n, zty 1 k = .object n) ∨ ∃ t, zty 1 k = .array t) := by
  intro k hk
  rcases (show k = 0 ∨ k = 1 ∨ k = 2 by omega) with rfl | rfl | rfl
  · exact Or.inr (Or.inr (Or.inr (Or.inr ⟨_, rfl⟩)))
  · exact Or.inr (Or.inr (Or.inr (Or.inr ⟨_, rfl⟩)))
  · exact Or.inl rfl
theorem zin_X3 : ∀ w ∈ u_ws RX3 TX3 2, w ∈ zT := fun w hw => by
  have h := goodIn_r (big := lw_tbl) (u_ws RX3 TX3 2) [231, 233] (by decide +kernel) (by decide +kernel) w hw
  exact zT_in h.1 (by
    have := List.all_eq_true.mp (show (u_ws RX3 TX3 2).all goodWord = true by decide +kernel) w hw
    exact this)
theorem zcl_X3 : zCl 2 RX3 TX3 2 := ⟨rfl, by decide, zin_X3, tyX3_ok, nmX3, zT_in (List.mem_of_getElem? (i := 220) (by decide +kernel)) (by decide +kernel), zT_in (List.mem_of_getElem? (i := 66) (by decide +kernel)) (by decide +kernel)⟩
theorem zdf_X3 : ∀ k, k < 2 → (zty 2 k = .int ∨ zty 2 k = .boolean ∨ zty 2 k = .long ∨ (∃ n, zty 2 k = .object n) ∨ ∃ t, zty 2 k = .array t) := by
  intro k hk
  rcases (show k = 0 ∨ k = 1 by omega) with rfl | rfl
  · exact Or.inr (Or.inr (Or.inr (Or.inr ⟨_, rfl⟩)))
  · exact Or.inl rfl
theorem zin_X4 : ∀ w ∈ u_ws RX4 TX4 13, w ∈ zT := fun w hw => by
  have h := goodIn_r (big := lw_tbl) (u_ws RX4 TX4 13) [158, 160, 162, 164, 166, 168, 170, 172, 174, 176, 178, 180, 182] (by decide +kernel) (by decide +kernel) w hw
  exact zT_in h.1 (by
    have := List.all_eq_true.mp (show (u_ws RX4 TX4 13).all goodWord = true by decide +kernel) w hw
    exact this)
theorem zcl_X4 : zCl 3 RX4 TX4 13 := ⟨rfl, by decide, zin_X4, tyX4_ok, nmX4, zT_in (List.mem_of_getElem? (i := 114) (by decide +kernel)) (by decide +kernel), zT_in (List.mem_of_getElem? (i := 64) (by decide +kernel)) (by decide +kernel)⟩
theorem zdf_X4 : ∀ k, k < 13 → (zty 3 k = .int ∨ zty 3 k = .boolean ∨ zty 3 k = .long ∨ (∃ n, zty 3 k = .object n) ∨ ∃ t, zty 3 k = .array t) := by
  intro k hk
  rcases (show k = 0 ∨ k = 1 ∨ k = 2 ∨ k = 3 ∨ k = 4 ∨ k = 5 ∨ k = 6 ∨ k = 7 ∨ k = 8 ∨ k = 9 ∨ k = 10 ∨ k = 11 ∨ k = 12 by omega) with rfl | rfl | rfl | rfl | rfl | rfl | rfl | rfl | rfl | rfl | rfl | rfl | rfl
  · exact Or.inl rfl
  · exact Or.inl rfl
  · exact Or.inl rfl
  · exact Or.inl rfl
  · exact Or.inr (Or.inr (Or.inr (Or.inr ⟨_, rfl⟩)))
  · exact Or.inr (Or.inr (Or.inr (Or.inr ⟨_, rfl⟩)))
  · exact Or.inr (Or.inr (Or.inr (Or.inr ⟨_, rfl⟩)))
  · exact Or.inr (Or.inr (Or.inr (Or.inr ⟨_, rfl⟩)))
  · exact Or.inr (Or.inr (Or.inr (Or.inr ⟨_, rfl⟩)))
  · exact Or.inr (Or.inr (Or.inr (Or.inr ⟨_, rfl⟩)))
  · exact Or.inr (Or.inr (Or.inr (Or.inr ⟨_, rfl⟩)))
  · exact Or.inr (Or.inr (Or.inr (Or.inr ⟨_, rfl⟩)))
  · exact Or.inr (Or.inr (Or.inr (Or.inr ⟨_, rfl⟩)))
theorem zin_X5 : ∀ w ∈ u_ws RX5 TX5 3, w ∈ zT := fun w hw => by
  have h := goodIn_r (big := lw_tbl) (u_ws RX5 TX5 3) [309, 311, 313] (by decide +kernel) (by decide +kernel) w hw
  exact zT_in h.1 (by
    have := List.all_eq_true.mp (show (u_ws RX5 TX5 3).all goodWord = true by decide +kernel) w hw
    exact this)
theorem zcl_X5 : zCl 4 RX5 TX5 3 := ⟨rfl, by decide, zin_X5, tyX5_ok, nmX5, zT_in (List.mem_of_getElem? (i := 296) (by decide +kernel)) (by decide +kernel), zT_in (List.mem_of_getElem? (i := 70) (by decide +kernel)) (by decide +kernel)⟩
theorem zdf_X5 : ∀ k, k < 3 → (zty 4 k = .int ∨ zty 4 k = .boolean ∨ zty 4 k = .long ∨ (∃ n, zty 4 k = .object n) ∨ ∃ t, zty 4 k = .array t) := by
  intro k hk
  rcases (show k = 0 ∨ k = 1 ∨ k = 2 by omega) with rfl | rfl | rfl
  · exact Or.inr (Or.inr (Or.inr (Or.inl ⟨_, rfl⟩)))
  · exact Or.inr (Or.inr (Or.inr (Or.inl ⟨_, rfl⟩)))
  · exact Or.inr (Or.inl rfl)
theorem zin_X6 : ∀ w ∈ u_ws RX6 TX6 6, w ∈ zT := fun w hw => by
  have h := goodIn_r (big := lw_tbl) (u_ws RX6 TX6 6) [206, 208, 210, 212, 214, 216] (by decide +kernel) (by decide +kernel) w hw
  exact zT_in h.1 (by
    have := List.all_eq_true.mp (show (u_ws RX6 TX6 6).all goodWord = true by decide +kernel) w hw
    exact this)
theorem zcl_X6 : zCl 5 RX6 TX6 6 := ⟨rfl, by decide, zin_X6, tyX6_ok, nmX6, zT_in (List.mem_of_getElem? (i := 186) (by decide +kernel)) (by decide +kernel), zT_in (List.mem_of_getElem? (i := 65) (by decide +kernel)) (by decide +kernel)⟩
theorem zdf_X6 : ∀ k, k < 6 → (zty 5 k = .int ∨ zty 5 k = .boolean ∨ zty 5 k = .long ∨ (∃ n, zty 5 k = .object n) ∨ ∃ t, zty 5 k = .array t) := by
  intro k hk
  rcases (show k = 0 ∨ k = 1 ∨ k = 2 ∨ k = 3 ∨ k = 4 ∨ k = 5 by omega) with rfl | rfl | rfl | rfl | rfl | rfl
  · exact Or.inr (Or.inr (Or.inr (Or.inr ⟨_, rfl⟩)))
  · exact Or.inr (Or.inr (Or.inr (Or.inr ⟨_, rfl⟩)))
  · exact Or.inr (Or.inr (Or.inr (Or.inr ⟨_, rfl⟩)))
  · exact Or.inr (Or.inr (Or.inr (Or.inr ⟨_, rfl⟩)))
  · exact Or.inr (Or.inr (Or.inr (Or.inr ⟨_, rfl⟩)))
  · exact Or.inl rfl
theorem zin_X7 : ∀ w ∈ u_ws RX7 TX7 7, w ∈ zT := fun w hw => by
  have h := goodIn_r (big := lw_tbl) (u_ws RX7 TX7 7) [97, 99, 101, 103, 105, 107, 109] (by decide +kernel) (by decide +kernel) w hw
  exact zT_in h.1 (by
    have := List.all_eq_true.mp (show (u_ws RX7 TX7 7).all goodWord = true by decide +kernel) w hw
    exact this)
theorem zcl_X7 : zCl 6 RX7 TX7 7 := ⟨rfl, by decide, zin_X7, tyX7_ok, nmX7, zT_in (List.mem_of_getElem? (i := 84) (by decide +kernel)) (by decide +kernel), zT_in (List.mem_of_getElem? (i := 63) (by decide +kernel)) (by decide +kernel)⟩
theorem zdf_X7 : ∀ k, k < 7 → (zty 6 k = .int ∨ zty 6 k = .boolean ∨ zty 6 k = .long ∨ (∃ n, zty 6 k = .object n) ∨ ∃ t, zty 6 k = .array t) := by
  intro k hk
  rcases (show k = 0 ∨ k = 1 ∨ k = 2 ∨ k = 3 ∨ k = 4 ∨ k = 5 ∨ k = 6 by omega) with rfl | rfl | rfl | rfl | rfl | rfl | rfl
  · exact Or.inr (Or.inr (Or.inr (Or.inr ⟨_, rfl⟩)))
  · exact Or.inl rfl
  · exact Or.inl rfl
  · exact Or.inl rfl
  · exact Or.inl rfl
  · exact Or.inl rfl
  · exact Or.inr (Or.inl rfl)
theorem zin_X8 : ∀ w ∈ u_ws RX8 TX8 4, w ∈ zT := fun w hw => by
  have h := goodIn_r (big := lw_tbl) (u_ws RX8 TX8 4) [269, 271, 273, 275] (by decide +kernel) (by decide +kernel) w hw
  exact zT_in h.1 (by
    have := List.all_eq_true.mp (show (u_ws RX8 TX8 4).all goodWord = true by decide +kernel) w hw
    exact this)
theorem zcl_X8 : zCl 7 RX8 TX8 4 := ⟨rfl, by decide, zin_X8, tyX8_ok, nmX8, zT_in (List.mem_of_getElem? (i := 258) (by decide +kernel)) (by decide +kernel), zT_in (List.mem_of_getElem? (i := 68) (by decide +kernel)) (by decide +kernel)⟩
theorem zdf_X8 : ∀ k, k < 4 → (zty 7 k = .int ∨ zty 7 k = .boolean ∨ zty 7 k = .long ∨ (∃ n, zty 7 k = .object n) ∨ ∃ t, zty 7 k = .array t) := by
  intro k hk
  rcases (show k = 0 ∨ k = 1 ∨ k = 2 ∨ k = 3 by omega) with rfl | rfl | rfl | rfl
  · exact Or.inr (Or.inr (Or.inr (Or.inr ⟨_, rfl⟩)))
  · exact Or.inr (Or.inr (Or.inr (Or.inr ⟨_, rfl⟩)))
  · exact Or.inl rfl
  · exact Or.inl rfl
theorem zin_X9 : ∀ w ∈ u_ws RX9 TX9 10, w ∈ zT := fun w hw => by
  have h := goodIn_r (big := lw_tbl) (u_ws RX9 TX9 10) [326, 328, 330, 332, 334, 336, 338, 340, 342, 344] (by decide +kernel) (by decide +kernel) w hw
  exact zT_in h.1 (by
    have := List.all_eq_true.mp (show (u_ws RX9 TX9 10).all goodWord = true by decide +kernel) w hw
    exact this)
theorem zcl_X9 : zCl 8 RX9 TX9 10 := ⟨rfl, by decide, zin_X9, tyX9_ok, nmX9, zT_in (List.mem_of_getElem? (i := 76) (by decide +kernel)) (by decide +kernel), zT_in (List.mem_of_getElem? (i := 62) (by decide +kernel)) (by decide +kernel)⟩
theorem zdf_X9 : ∀ k, k < 10 → (zty 8 k = .int ∨ zty 8 k = .boolean ∨ zty 8 k = .long ∨ (∃ n, zty 8 k = .object n) ∨ ∃ t, zty 8 k = .array t) := by
  intro k hk
  rcases (show k = 0 ∨ k = 1 ∨ k = 2 ∨ k = 3 ∨ k = 4 ∨ k = 5 ∨ k = 6 ∨ k = 7 ∨ k = 8 ∨ k = 9 by omega) with rfl | rfl | rfl | rfl | rfl | rfl | rfl | rfl | rfl | rfl
  · exact Or.inr (Or.inr (Or.inr (Or.inl ⟨_, rfl⟩)))
  · exact Or.inr (Or.inr (Or.inr (Or.inl ⟨_, rfl⟩)))
  · exact Or.inr (Or.inr (Or.inr (Or.inl ⟨_, rfl⟩)))
  · exact Or.inr (Or.inr (Or.inr (Or.inl ⟨_, rfl⟩)))
  · exact Or.inr (Or.inr (Or.inr (Or.inl ⟨_, rfl⟩)))
  · exact Or.inr (Or.inr (Or.inr (Or.inr ⟨_, rfl⟩)))
  · exact Or.inr (Or.inr (Or.inr (Or.inl ⟨_, rfl⟩)))
  · exact Or.inr (Or.inr (Or.inr (Or.inl ⟨_, rfl⟩)))
  · exact Or.inr (Or.inr (Or.inr (Or.inl ⟨_, rfl⟩)))
  · exact Or.inr (Or.inr (Or.inl rfl))
theorem zin_X10 : ∀ w ∈ u_ws RX10 TX10 34, w ∈ zT := fun w hw => by
  have h := goodIn_r (big := lw_tbl) (u_ws RX10 TX10 34) [794, 796, 798, 800, 802, 804, 806, 808, 810, 812, 814, 816, 818, 820, 822, 824, 826, 828, 830, 832, 834, 836, 838, 840, 842, 844, 846, 848, 850, 852, 854, 856, 858, 860] (by decide +kernel) (by decide +kernel) w hw
  exact zT_in h.1 (by
    have := List.all_eq_true.mp (show (u_ws RX10 TX10 34).all goodWord = true by decide +kernel) w hw
    exact this)
theorem zcl_X10 : zCl 9 RX10 TX10 34 := ⟨rfl, by decide, zin_X10, tyX10_ok, nmX10, zT_in (List.mem_of_getElem? (i := 755) (by decide +kernel)) (by decide +kernel), zT_in (List.mem_of_getElem? (i := 71) (by decide +kernel)) (by decide +kernel)⟩
theorem zdf_X10 : ∀ k, k < 34 → (zty 9 k = .int ∨ zty 9 k = .boolean ∨ zty 9 k = .long ∨ (∃ n, zty 9 k = .object n) ∨ ∃ t, zty 9 k = .array t) := by
  intro k hk
  rcases (show k = 0 ∨ k = 1 ∨ k = 2 ∨ k = 3 ∨ k = 4 ∨ k = 5 ∨ k = 6 ∨ k = 7 ∨ k = 8 ∨ k = 9 ∨ k = 10 ∨ k = 11 ∨ k = 12 ∨ k = 13 ∨ k = 14 ∨ k = 15 ∨ k = 16 ∨ k = 17 ∨ k = 18 ∨ k = 19 ∨ k = 20 ∨ k = 21 ∨ k = 22 ∨ k = 23 ∨ k = 24 ∨ k = 25 ∨ k = 26 ∨ k = 27 ∨ k = 28 ∨ k = 29 ∨ k = 30 ∨ k = 31 ∨ k = 32 ∨ k = 33 by omega) with rfl | rfl | rfl | rfl | rfl | rfl | rfl | rfl | rfl | rfl | rfl | rfl | rfl | rfl | rfl | rfl | rfl | rfl | rfl | rfl | rfl | rfl | rfl | rfl | rfl | rfl | rfl | rfl | rfl | rfl | rfl | rfl | rfl | rfl
  · exact Or.inl rfl
  · exact Or.inl rfl
  · exact Or.inr (Or.inr (Or.inr (Or.inr ⟨_, rfl⟩)))
  · exact Or.inl rfl
  · exact Or.inr (Or.inr (Or.inr (Or.inr ⟨_, rfl⟩)))
  · exact Or.inl rfl
  · exact Or.inr (Or.inr (Or.inr (Or.inr ⟨_, rfl⟩)))
  · exact Or.inr (Or.inr (Or.inr (Or.inr ⟨_, rfl⟩)))
  · exact Or.inr (Or.inr (Or.inr (Or.inr ⟨_, rfl⟩)))
  · exact Or.inl rfl
  · exact Or.inr (Or.inr (Or.inr (Or.inr ⟨_, rfl⟩)))
  · exact Or.inr (Or.inr (Or.inr (Or.inr ⟨_, rfl⟩)))
  · exact Or.inr (Or.inr (Or.inr (Or.inr ⟨_, rfl⟩)))
  · exact Or.inl rfl
  · exact Or.inr (Or.inr (Or.inl rfl))
  · exact Or.inr (Or.inr (Or.inr (Or.inr ⟨_, rfl⟩)))
  · exact Or.inl rfl
  · exact Or.inl rfl
  · exact Or.inl rfl
  · exact Or.inl rfl
  · exact Or.inl rfl
  · exact Or.inl rfl
  · exact Or.inl rfl
  · exact Or.inr (Or.inr (Or.inr (Or.inr ⟨_, rfl⟩)))
  · exact Or.inl rfl
  · exact Or.inr (Or.inr (Or.inr (Or.inr ⟨_, rfl⟩)))
  · exact Or.inr (Or.inr (Or.inr (Or.inr ⟨_, rfl⟩)))
  · exact Or.inr (Or.inr (Or.inr (Or.inr ⟨_, rfl⟩)))
  · exact Or.inl rfl
  · exact Or.inr (Or.inr (Or.inr (Or.inr ⟨_, rfl⟩)))
  · exact Or.inr (Or.inr (Or.inr (Or.inr ⟨_, rfl⟩)))
  · exact Or.inl rfl
  · exact Or.inl rfl
  · exact Or.inr (Or.inr (Or.inr (Or.inr ⟨_, rfl⟩)))
theorem fl_X9_10 : zFL RX9 10 8 0 (.object "BoardStones$Reader") true := ⟨RX9, TX9, 10, zcl_X9, by decide, zT_in (List.mem_of_getElem? (i := 316) (by decide +kernel)) (by decide +kernel), rfl, rfl, Or.inr (Or.inr trivial)⟩
theorem ff_X9_10 : zFF RX9 10 8 0 (.object "BoardStones$Reader") := ⟨RX9, TX9, 10, zcl_X9, by decide, zT_in (List.mem_of_getElem? (i := 316) (by decide +kernel)) (by decide +kernel), rfl, rfl, rfl⟩
theorem fl_X9_19 : zFL RX9 19 8 1 (.object "BoardStones$House") false := ⟨RX9, TX9, 10, zcl_X9, by decide, zT_in (List.mem_of_getElem? (i := 317) (by decide +kernel)) (by decide +kernel), rfl, rfl, Or.inr (Or.inr trivial)⟩
theorem fl_X9_23 : zFL RX9 23 8 2 (.object "BoardStones$House") false := ⟨RX9, TX9, 10, zcl_X9, by decide, zT_in (List.mem_of_getElem? (i := 318) (by decide +kernel)) (by decide +kernel), rfl, rfl, Or.inr (Or.inr trivial)⟩
theorem fl_X9_29 : zFL RX9 29 8 3 (.object "BoardStones$Now") true := ⟨RX9, TX9, 10, zcl_X9, by decide, zT_in (List.mem_of_getElem? (i := 319) (by decide +kernel)) (by decide +kernel), rfl, rfl, Or.inr (Or.inr trivial)⟩
theorem ff_X9_29 : zFF RX9 29 8 3 (.object "BoardStones$Now") := ⟨RX9, TX9, 10, zcl_X9, by decide, zT_in (List.mem_of_getElem? (i := 319) (by decide +kernel)) (by decide +kernel), rfl, rfl, rfl⟩
theorem fl_X9_36 : zFL RX9 36 8 4 (.object "BoardStones$History") true := ⟨RX9, TX9, 10, zcl_X9, by decide, zT_in (List.mem_of_getElem? (i := 320) (by decide +kernel)) (by decide +kernel), rfl, rfl, Or.inr (Or.inr trivial)⟩
theorem ff_X9_36 : zFF RX9 36 8 4 (.object "BoardStones$History") := ⟨RX9, TX9, 10, zcl_X9, by decide, zT_in (List.mem_of_getElem? (i := 320) (by decide +kernel)) (by decide +kernel), rfl, rfl, rfl⟩
theorem fl_X9_42 : zFL RX9 42 8 5 (.array (.object "BoardStones$Image")) true := ⟨RX9, TX9, 10, zcl_X9, by decide, zT_in (List.mem_of_getElem? (i := 321) (by decide +kernel)) (by decide +kernel), rfl, rfl, Or.inr (Or.inr trivial)⟩
theorem ff_X9_42 : zFF RX9 42 8 5 (.array (.object "BoardStones$Image")) := ⟨RX9, TX9, 10, zcl_X9, by decide, zT_in (List.mem_of_getElem? (i := 321) (by decide +kernel)) (by decide +kernel), rfl, rfl, rfl⟩
theorem fl_X9_49 : zFL RX9 49 8 6 (.object "BoardStones$Hearing") true := ⟨RX9, TX9, 10, zcl_X9, by decide, zT_in (List.mem_of_getElem? (i := 322) (by decide +kernel)) (by decide +kernel), rfl, rfl, Or.inr (Or.inr trivial)⟩
theorem ff_X9_49 : zFF RX9 49 8 6 (.object "BoardStones$Hearing") := ⟨RX9, TX9, 10, zcl_X9, by decide, zT_in (List.mem_of_getElem? (i := 322) (by decide +kernel)) (by decide +kernel), rfl, rfl, rfl⟩
theorem fl_X9_56 : zFL RX9 56 8 7 (.object "BoardStones$Ways") true := ⟨RX9, TX9, 10, zcl_X9, by decide, zT_in (List.mem_of_getElem? (i := 323) (by decide +kernel)) (by decide +kernel), rfl, rfl, Or.inr (Or.inr trivial)⟩
theorem ff_X9_56 : zFF RX9 56 8 7 (.object "BoardStones$Ways") := ⟨RX9, TX9, 10, zcl_X9, by decide, zT_in (List.mem_of_getElem? (i := 323) (by decide +kernel)) (by decide +kernel), rfl, rfl, rfl⟩
theorem fl_X9_63 : zFL RX9 63 8 8 (.object "BoardStones$Couples") true := ⟨RX9, TX9, 10, zcl_X9, by decide, zT_in (List.mem_of_getElem? (i := 324) (by decide +kernel)) (by decide +kernel), rfl, rfl, Or.inr (Or.inr trivial)⟩
theorem ff_X9_63 : zFF RX9 63 8 8 (.object "BoardStones$Couples") := ⟨RX9, TX9, 10, zcl_X9, by decide, zT_in (List.mem_of_getElem? (i := 324) (by decide +kernel)) (by decide +kernel), rfl, rfl, rfl⟩
theorem fl_X9_72 : zFL RX9 72 6 1 .int false := ⟨RX7, TX7, 7, zcl_X7, by decide, zT_in (List.mem_of_getElem? (i := 91) (by decide +kernel)) (by decide +kernel), rfl, rfl, Or.inr (Or.inr trivial)⟩
theorem fl_X9_88 : zFL RX9 88 2 1 .int false := ⟨RX3, TX3, 2, zcl_X3, by decide, zT_in (List.mem_of_getElem? (i := 230) (by decide +kernel)) (by decide +kernel), rfl, rfl, Or.inr (Or.inr trivial)⟩
theorem fl_X9_91 : zFL RX9 91 1 2 .int false := ⟨RX2, TX2, 3, zcl_X2, by decide, zT_in (List.mem_of_getElem? (i := 249) (by decide +kernel)) (by decide +kernel), rfl, rfl, Or.inr (Or.inr trivial)⟩
theorem fl_X9_94 : zFL RX9 94 4 2 .boolean false := ⟨RX5, TX5, 3, zcl_X5, by decide, zT_in (List.mem_of_getElem? (i := 308) (by decide +kernel)) (by decide +kernel), rfl, rfl, Or.inr (Or.inr trivial)⟩
theorem fl_X9_101 : zFL RX9 101 3 4 (.array .int) true := ⟨RX4, TX4, 13, zcl_X4, by decide, zT_in (List.mem_of_getElem? (i := 137) (by decide +kernel)) (by decide +kernel), rfl, rfl, Or.inr (Or.inr trivial)⟩
theorem fl_X9_105 : zFL RX9 105 3 5 (.array .int) true := ⟨RX4, TX4, 13, zcl_X4, by decide, zT_in (List.mem_of_getElem? (i := 140) (by decide +kernel)) (by decide +kernel), rfl, rfl, Or.inr (Or.inr trivial)⟩
theorem fl_X9_108 : zFL RX9 108 3 6 (.array .int) true := ⟨RX4, TX4, 13, zcl_X4, by decide, zT_in (List.mem_of_getElem? (i := 143) (by decide +kernel)) (by decide +kernel), rfl, rfl, Or.inr (Or.inr trivial)⟩
theorem fl_X9_118 : zFL RX9 118 3 7 (.array .int) true := ⟨RX4, TX4, 13, zcl_X4, by decide, zT_in (List.mem_of_getElem? (i := 146) (by decide +kernel)) (by decide +kernel), rfl, rfl, Or.inr (Or.inr trivial)⟩
theorem fl_X9_121 : zFL RX9 121 5 1 (.array .int) true := ⟨RX6, TX6, 6, zcl_X6, by decide, zT_in (List.mem_of_getElem? (i := 196) (by decide +kernel)) (by decide +kernel), rfl, rfl, Or.inr (Or.inr trivial)⟩
theorem fl_X9_124 : zFL RX9 124 3 9 (.array .int) true := ⟨RX4, TX4, 13, zcl_X4, by decide, zT_in (List.mem_of_getElem? (i := 151) (by decide +kernel)) (by decide +kernel), rfl, rfl, Or.inr (Or.inr trivial)⟩
theorem fl_X9_127 : zFL RX9 127 5 0 (.array .int) true := ⟨RX6, TX6, 6, zcl_X6, by decide, zT_in (List.mem_of_getElem? (i := 192) (by decide +kernel)) (by decide +kernel), rfl, rfl, Or.inr (Or.inr trivial)⟩
theorem fl_X9_130 : zFL RX9 130 5 2 (.array .int) true := ⟨RX6, TX6, 6, zcl_X6, by decide, zT_in (List.mem_of_getElem? (i := 199) (by decide +kernel)) (by decide +kernel), rfl, rfl, Or.inr (Or.inr trivial)⟩
theorem fl_X9_133 : zFL RX9 133 5 3 (.array .int) true := ⟨RX6, TX6, 6, zcl_X6, by decide, zT_in (List.mem_of_getElem? (i := 201) (by decide +kernel)) (by decide +kernel), rfl, rfl, Or.inr (Or.inr trivial)⟩
theorem fl_X9_136 : zFL RX9 136 3 11 (.array .int) true := ⟨RX4, TX4, 13, zcl_X4, by decide, zT_in (List.mem_of_getElem? (i := 155) (by decide +kernel)) (by decide +kernel), rfl, rfl, Or.inr (Or.inr trivial)⟩
theorem fl_X9_149 : zFL RX9 149 3 12 (.array .int) true := ⟨RX4, TX4, 13, zcl_X4, by decide, zT_in (List.mem_of_getElem? (i := 157) (by decide +kernel)) (by decide +kernel), rfl, rfl, Or.inr (Or.inr trivial)⟩
theorem fl_X9_152 : zFL RX9 152 5 4 (.array .int) true := ⟨RX6, TX6, 6, zcl_X6, by decide, zT_in (List.mem_of_getElem? (i := 203) (by decide +kernel)) (by decide +kernel), rfl, rfl, Or.inr (Or.inr trivial)⟩
theorem fl_X9_181 : zFL RX9 181 5 5 .int false := ⟨RX6, TX6, 6, zcl_X6, by decide, zT_in (List.mem_of_getElem? (i := 205) (by decide +kernel)) (by decide +kernel), rfl, rfl, Or.inr (Or.inr trivial)⟩
theorem fl_X9_187 : zFL RX9 187 3 2 .int false := ⟨RX4, TX4, 13, zcl_X4, by decide, zT_in (List.mem_of_getElem? (i := 131) (by decide +kernel)) (by decide +kernel), rfl, rfl, Or.inr (Or.inr trivial)⟩
theorem fl_X9_200 : zFL RX9 200 7 2 .int false := ⟨RX8, TX8, 4, zcl_X8, by decide, zT_in (List.mem_of_getElem? (i := 266) (by decide +kernel)) (by decide +kernel), rfl, rfl, Or.inr (Or.inr trivial)⟩
theorem fl_X9_203 : zFL RX9 203 7 3 .int false := ⟨RX8, TX8, 4, zcl_X8, by decide, zT_in (List.mem_of_getElem? (i := 268) (by decide +kernel)) (by decide +kernel), rfl, rfl, Or.inr (Or.inr trivial)⟩
theorem fl_X9_232 : zFL RX9 232 0 2 .int false := ⟨RX0, TX0, 3, zcl_X0, by decide, zT_in (List.mem_of_getElem? (i := 288) (by decide +kernel)) (by decide +kernel), rfl, rfl, Or.inr (Or.inr trivial)⟩
theorem fl_X9_235 : zFL RX9 235 0 1 (.array .int) true := ⟨RX0, TX0, 3, zcl_X0, by decide, zT_in (List.mem_of_getElem? (i := 286) (by decide +kernel)) (by decide +kernel), rfl, rfl, Or.inr (Or.inr trivial)⟩
theorem fl_X9_238 : zFL RX9 238 3 3 .int false := ⟨RX4, TX4, 13, zcl_X4, by decide, zT_in (List.mem_of_getElem? (i := 134) (by decide +kernel)) (by decide +kernel), rfl, rfl, Or.inr (Or.inr trivial)⟩
theorem fl_X9_259 : zFL RX9 259 1 0 (.array .int) true := ⟨RX2, TX2, 3, zcl_X2, by decide, zT_in (List.mem_of_getElem? (i := 245) (by decide +kernel)) (by decide +kernel), rfl, rfl, Or.inr (Or.inr trivial)⟩
theorem fl_X9_262 : zFL RX9 262 1 1 (.array .int) true := ⟨RX2, TX2, 3, zcl_X2, by decide, zT_in (List.mem_of_getElem? (i := 247) (by decide +kernel)) (by decide +kernel), rfl, rfl, Or.inr (Or.inr trivial)⟩
theorem fl_X9_273 : zFL RX9 273 3 1 .int false := ⟨RX4, TX4, 13, zcl_X4, by decide, zT_in (List.mem_of_getElem? (i := 126) (by decide +kernel)) (by decide +kernel), rfl, rfl, Or.inr (Or.inr trivial)⟩
theorem fl_X9_302 : zFL RX9 302 3 0 .int false := ⟨RX4, TX4, 13, zcl_X4, by decide, zT_in (List.mem_of_getElem? (i := 122) (by decide +kernel)) (by decide +kernel), rfl, rfl, Or.inr (Or.inr trivial)⟩
theorem fl_X9_305 : zFL RX9 305 8 9 .long false := ⟨RX9, TX9, 10, zcl_X9, by decide, zT_in (List.mem_of_getElem? (i := 325) (by decide +kernel)) (by decide +kernel), rfl, rfl, Or.inr (Or.inr trivial)⟩
theorem fl_X0_9 : zFL RX0 9 0 0 (.array .int) true := ⟨RX0, TX0, 3, zcl_X0, by decide, zT_in (List.mem_of_getElem? (i := 284) (by decide +kernel)) (by decide +kernel), rfl, rfl, Or.inr (Or.inr trivial)⟩
theorem ff_X0_9 : zFF RX0 9 0 0 (.array .int) := ⟨RX0, TX0, 3, zcl_X0, by decide, zT_in (List.mem_of_getElem? (i := 284) (by decide +kernel)) (by decide +kernel), rfl, rfl, rfl⟩
theorem fl_X0_15 : zFL RX0 15 0 1 (.array .int) true := ⟨RX0, TX0, 3, zcl_X0, by decide, zT_in (List.mem_of_getElem? (i := 285) (by decide +kernel)) (by decide +kernel), rfl, rfl, Or.inr (Or.inr trivial)⟩
theorem ff_X0_15 : zFF RX0 15 0 1 (.array .int) := ⟨RX0, TX0, 3, zcl_X0, by decide, zT_in (List.mem_of_getElem? (i := 285) (by decide +kernel)) (by decide +kernel), rfl, rfl, rfl⟩
theorem fl_X0_28 : zFL RX0 28 0 2 .int false := ⟨RX0, TX0, 3, zcl_X0, by decide, zT_in (List.mem_of_getElem? (i := 287) (by decide +kernel)) (by decide +kernel), rfl, rfl, Or.inr (Or.inr trivial)⟩
theorem fl_X0_32 : zFL RX0 32 3 2 .int false := ⟨RX4, TX4, 13, zcl_X4, by decide, zT_in (List.mem_of_getElem? (i := 128) (by decide +kernel)) (by decide +kernel), rfl, rfl, Or.inr (Or.inr trivial)⟩
theorem fl_X0_57 : zFL RX0 57 3 7 (.array .int) true := ⟨RX4, TX4, 13, zcl_X4, by decide, zT_in (List.mem_of_getElem? (i := 145) (by decide +kernel)) (by decide +kernel), rfl, rfl, Or.inr (Or.inr trivial)⟩
theorem fl_X0_60 : zFL RX0 60 5 1 (.array .int) true := ⟨RX6, TX6, 6, zcl_X6, by decide, zT_in (List.mem_of_getElem? (i := 195) (by decide +kernel)) (by decide +kernel), rfl, rfl, Or.inr (Or.inr trivial)⟩
theorem fl_X2_9 : zFL RX2 9 1 0 (.array .int) true := ⟨RX2, TX2, 3, zcl_X2, by decide, zT_in (List.mem_of_getElem? (i := 244) (by decide +kernel)) (by decide +kernel), rfl, rfl, Or.inr (Or.inr trivial)⟩
theorem ff_X2_9 : zFF RX2 9 1 0 (.array .int) := ⟨RX2, TX2, 3, zcl_X2, by decide, zT_in (List.mem_of_getElem? (i := 244) (by decide +kernel)) (by decide +kernel), rfl, rfl, rfl⟩
theorem fl_X2_15 : zFL RX2 15 1 1 (.array .int) true := ⟨RX2, TX2, 3, zcl_X2, by decide, zT_in (List.mem_of_getElem? (i := 246) (by decide +kernel)) (by decide +kernel), rfl, rfl, Or.inr (Or.inr trivial)⟩
theorem ff_X2_15 : zFF RX2 15 1 1 (.array .int) := ⟨RX2, TX2, 3, zcl_X2, by decide, zT_in (List.mem_of_getElem? (i := 246) (by decide +kernel)) (by decide +kernel), rfl, rfl, rfl⟩
theorem fl_X2_18 : zFL RX2 18 1 2 .int false := ⟨RX2, TX2, 3, zcl_X2, by decide, zT_in (List.mem_of_getElem? (i := 248) (by decide +kernel)) (by decide +kernel), rfl, rfl, Or.inr (Or.inr trivial)⟩
theorem fl_X3_11 : zFL RX3 11 2 0 (.array (.object "BoardStones$Now")) true := ⟨RX3, TX3, 2, zcl_X3, by decide, zT_in (List.mem_of_getElem? (i := 228) (by decide +kernel)) (by decide +kernel), rfl, rfl, Or.inr (Or.inr trivial)⟩
theorem ff_X3_11 : zFF RX3 11 2 0 (.array (.object "BoardStones$Now")) := ⟨RX3, TX3, 2, zcl_X3, by decide, zT_in (List.mem_of_getElem? (i := 228) (by decide +kernel)) (by decide +kernel), rfl, rfl, rfl⟩
theorem fl_X3_18 : zFL RX3 18 2 1 .int false := ⟨RX3, TX3, 2, zcl_X3, by decide, zT_in (List.mem_of_getElem? (i := 229) (by decide +kernel)) (by decide +kernel), rfl, rfl, Or.inr (Or.inr trivial)⟩
theorem fl_X4_9 : zFL RX4 9 3 0 .int false := ⟨RX4, TX4, 13, zcl_X4, by decide, zT_in (List.mem_of_getElem? (i := 119) (by decide +kernel)) (by decide +kernel), rfl, rfl, Or.inr (Or.inr trivial)⟩
theorem fl_X4_15 : zFL RX4 15 3 4 (.array .int) true := ⟨RX4, TX4, 13, zcl_X4, by decide, zT_in (List.mem_of_getElem? (i := 135) (by decide +kernel)) (by decide +kernel), rfl, rfl, Or.inr (Or.inr trivial)⟩
theorem ff_X4_15 : zFF RX4 15 3 4 (.array .int) := ⟨RX4, TX4, 13, zcl_X4, by decide, zT_in (List.mem_of_getElem? (i := 135) (by decide +kernel)) (by decide +kernel), rfl, rfl, rfl⟩
theorem fl_X4_19 : zFL RX4 19 3 5 (.array .int) true := ⟨RX4, TX4, 13, zcl_X4, by decide, zT_in (List.mem_of_getElem? (i := 138) (by decide +kernel)) (by decide +kernel), rfl, rfl, Or.inr (Or.inr trivial)⟩
theorem ff_X4_19 : zFF RX4 19 3 5 (.array .int) := ⟨RX4, TX4, 13, zcl_X4, by decide, zT_in (List.mem_of_getElem? (i := 138) (by decide +kernel)) (by decide +kernel), rfl, rfl, rfl⟩
theorem fl_X4_22 : zFL RX4 22 3 6 (.array .int) true := ⟨RX4, TX4, 13, zcl_X4, by decide, zT_in (List.mem_of_getElem? (i := 141) (by decide +kernel)) (by decide +kernel), rfl, rfl, Or.inr (Or.inr trivial)⟩
theorem ff_X4_22 : zFF RX4 22 3 6 (.array .int) := ⟨RX4, TX4, 13, zcl_X4, by decide, zT_in (List.mem_of_getElem? (i := 141) (by decide +kernel)) (by decide +kernel), rfl, rfl, rfl⟩
theorem fl_X4_25 : zFL RX4 25 3 7 (.array .int) true := ⟨RX4, TX4, 13, zcl_X4, by decide, zT_in (List.mem_of_getElem? (i := 144) (by decide +kernel)) (by decide +kernel), rfl, rfl, Or.inr (Or.inr trivial)⟩
theorem ff_X4_25 : zFF RX4 25 3 7 (.array .int) := ⟨RX4, TX4, 13, zcl_X4, by decide, zT_in (List.mem_of_getElem? (i := 144) (by decide +kernel)) (by decide +kernel), rfl, rfl, rfl⟩
theorem fl_X4_28 : zFL RX4 28 3 8 (.array .int) true := ⟨RX4, TX4, 13, zcl_X4, by decide, zT_in (List.mem_of_getElem? (i := 148) (by decide +kernel)) (by decide +kernel), rfl, rfl, Or.inr (Or.inr trivial)⟩
theorem ff_X4_28 : zFF RX4 28 3 8 (.array .int) := ⟨RX4, TX4, 13, zcl_X4, by decide, zT_in (List.mem_of_getElem? (i := 148) (by decide +kernel)) (by decide +kernel), rfl, rfl, rfl⟩
theorem fl_X4_31 : zFL RX4 31 3 9 (.array .int) true := ⟨RX4, TX4, 13, zcl_X4, by decide, zT_in (List.mem_of_getElem? (i := 150) (by decide +kernel)) (by decide +kernel), rfl, rfl, Or.inr (Or.inr trivial)⟩
theorem ff_X4_31 : zFF RX4 31 3 9 (.array .int) := ⟨RX4, TX4, 13, zcl_X4, by decide, zT_in (List.mem_of_getElem? (i := 150) (by decide +kernel)) (by decide +kernel), rfl, rfl, rfl⟩
theorem fl_X4_34 : zFL RX4 34 3 10 (.array .int) true := ⟨RX4, TX4, 13, zcl_X4, by decide, zT_in (List.mem_of_getElem? (i := 152) (by decide +kernel)) (by decide +kernel), rfl, rfl, Or.inr (Or.inr trivial)⟩
theorem ff_X4_34 : zFF RX4 34 3 10 (.array .int) := ⟨RX4, TX4, 13, zcl_X4, by decide, zT_in (List.mem_of_getElem? (i := 152) (by decide +kernel)) (by decide +kernel), rfl, rfl, rfl⟩
theorem fl_X4_37 : zFL RX4 37 3 11 (.array .int) true := ⟨RX4, TX4, 13, zcl_X4, by decide, zT_in (List.mem_of_getElem? (i := 154) (by decide +kernel)) (by decide +kernel), rfl, rfl, Or.inr (Or.inr trivial)⟩
theorem ff_X4_37 : zFF RX4 37 3 11 (.array .int) := ⟨RX4, TX4, 13, zcl_X4, by decide, zT_in (List.mem_of_getElem? (i := 154) (by decide +kernel)) (by decide +kernel), rfl, rfl, rfl⟩
theorem fl_X4_40 : zFL RX4 40 3 12 (.array .int) true := ⟨RX4, TX4, 13, zcl_X4, by decide, zT_in (List.mem_of_getElem? (i := 156) (by decide +kernel)) (by decide +kernel), rfl, rfl, Or.inr (Or.inr trivial)⟩
theorem ff_X4_40 : zFF RX4 40 3 12 (.array .int) := ⟨RX4, TX4, 13, zcl_X4, by decide, zT_in (List.mem_of_getElem? (i := 156) (by decide +kernel)) (by decide +kernel), rfl, rfl, rfl⟩
theorem fl_X4_43 : zFL RX4 43 3 1 .int false := ⟨RX4, TX4, 13, zcl_X4, by decide, zT_in (List.mem_of_getElem? (i := 123) (by decide +kernel)) (by decide +kernel), rfl, rfl, Or.inr (Or.inr trivial)⟩
theorem fl_X4_46 : zFL RX4 46 3 2 .int false := ⟨RX4, TX4, 13, zcl_X4, by decide, zT_in (List.mem_of_getElem? (i := 127) (by decide +kernel)) (by decide +kernel), rfl, rfl, Or.inr (Or.inr trivial)⟩
theorem fl_X4_49 : zFL RX4 49 3 3 .int false := ⟨RX4, TX4, 13, zcl_X4, by decide, zT_in (List.mem_of_getElem? (i := 132) (by decide +kernel)) (by decide +kernel), rfl, rfl, Or.inr (Or.inr trivial)⟩
theorem fl_X5_10 : zFL RX5 10 4 0 (.object "BoardStones$Now") true := ⟨RX5, TX5, 3, zcl_X5, by decide, zT_in (List.mem_of_getElem? (i := 305) (by decide +kernel)) (by decide +kernel), rfl, rfl, Or.inr (Or.inr trivial)⟩
theorem ff_X5_10 : zFF RX5 10 4 0 (.object "BoardStones$Now") := ⟨RX5, TX5, 3, zcl_X5, by decide, zT_in (List.mem_of_getElem? (i := 305) (by decide +kernel)) (by decide +kernel), rfl, rfl, rfl⟩
theorem fl_X5_19 : zFL RX5 19 4 1 (.object "BoardStones$History") true := ⟨RX5, TX5, 3, zcl_X5, by decide, zT_in (List.mem_of_getElem? (i := 306) (by decide +kernel)) (by decide +kernel), rfl, rfl, Or.inr (Or.inr trivial)⟩
theorem ff_X5_19 : zFF RX5 19 4 1 (.object "BoardStones$History") := ⟨RX5, TX5, 3, zcl_X5, by decide, zT_in (List.mem_of_getElem? (i := 306) (by decide +kernel)) (by decide +kernel), rfl, rfl, rfl⟩
theorem fl_X5_30 : zFL RX5 30 4 2 .boolean false := ⟨RX5, TX5, 3, zcl_X5, by decide, zT_in (List.mem_of_getElem? (i := 307) (by decide +kernel)) (by decide +kernel), rfl, rfl, Or.inr (Or.inr trivial)⟩
theorem fl_X6_9 : zFL RX6 9 5 0 (.array .int) true := ⟨RX6, TX6, 6, zcl_X6, by decide, zT_in (List.mem_of_getElem? (i := 191) (by decide +kernel)) (by decide +kernel), rfl, rfl, Or.inr (Or.inr trivial)⟩
theorem ff_X6_9 : zFF RX6 9 5 0 (.array .int) := ⟨RX6, TX6, 6, zcl_X6, by decide, zT_in (List.mem_of_getElem? (i := 191) (by decide +kernel)) (by decide +kernel), rfl, rfl, rfl⟩
theorem fl_X6_15 : zFL RX6 15 5 1 (.array .int) true := ⟨RX6, TX6, 6, zcl_X6, by decide, zT_in (List.mem_of_getElem? (i := 194) (by decide +kernel)) (by decide +kernel), rfl, rfl, Or.inr (Or.inr trivial)⟩
theorem ff_X6_15 : zFF RX6 15 5 1 (.array .int) := ⟨RX6, TX6, 6, zcl_X6, by decide, zT_in (List.mem_of_getElem? (i := 194) (by decide +kernel)) (by decide +kernel), rfl, rfl, rfl⟩
theorem fl_X6_18 : zFL RX6 18 5 2 (.array .int) true := ⟨RX6, TX6, 6, zcl_X6, by decide, zT_in (List.mem_of_getElem? (i := 198) (by decide +kernel)) (by decide +kernel), rfl, rfl, Or.inr (Or.inr trivial)⟩
theorem ff_X6_18 : zFF RX6 18 5 2 (.array .int) := ⟨RX6, TX6, 6, zcl_X6, by decide, zT_in (List.mem_of_getElem? (i := 198) (by decide +kernel)) (by decide +kernel), rfl, rfl, rfl⟩
theorem fl_X6_21 : zFL RX6 21 5 3 (.array .int) true := ⟨RX6, TX6, 6, zcl_X6, by decide, zT_in (List.mem_of_getElem? (i := 200) (by decide +kernel)) (by decide +kernel), rfl, rfl, Or.inr (Or.inr trivial)⟩
theorem ff_X6_21 : zFF RX6 21 5 3 (.array .int) := ⟨RX6, TX6, 6, zcl_X6, by decide, zT_in (List.mem_of_getElem? (i := 200) (by decide +kernel)) (by decide +kernel), rfl, rfl, rfl⟩
theorem fl_X6_24 : zFL RX6 24 5 4 (.array .int) true := ⟨RX6, TX6, 6, zcl_X6, by decide, zT_in (List.mem_of_getElem? (i := 202) (by decide +kernel)) (by decide +kernel), rfl, rfl, Or.inr (Or.inr trivial)⟩
theorem ff_X6_24 : zFF RX6 24 5 4 (.array .int) := ⟨RX6, TX6, 6, zcl_X6, by decide, zT_in (List.mem_of_getElem? (i := 202) (by decide +kernel)) (by decide +kernel), rfl, rfl, rfl⟩
theorem fl_X6_27 : zFL RX6 27 3 10 (.array .int) true := ⟨RX4, TX4, 13, zcl_X4, by decide, zT_in (List.mem_of_getElem? (i := 153) (by decide +kernel)) (by decide +kernel), rfl, rfl, Or.inr (Or.inr trivial)⟩
theorem fl_X6_34 : zFL RX6 34 3 8 (.array .int) true := ⟨RX4, TX4, 13, zcl_X4, by decide, zT_in (List.mem_of_getElem? (i := 149) (by decide +kernel)) (by decide +kernel), rfl, rfl, Or.inr (Or.inr trivial)⟩
theorem fl_X6_35 : zFL RX6 35 5 5 .int false := ⟨RX6, TX6, 6, zcl_X6, by decide, zT_in (List.mem_of_getElem? (i := 204) (by decide +kernel)) (by decide +kernel), rfl, rfl, Or.inr (Or.inr trivial)⟩
theorem fl_X7_9 : zFL RX7 9 6 0 (.array .int) true := ⟨RX7, TX7, 7, zcl_X7, by decide, zT_in (List.mem_of_getElem? (i := 89) (by decide +kernel)) (by decide +kernel), rfl, rfl, Or.inr (Or.inr trivial)⟩
theorem ff_X7_9 : zFF RX7 9 6 0 (.array .int) := ⟨RX7, TX7, 7, zcl_X7, by decide, zT_in (List.mem_of_getElem? (i := 89) (by decide +kernel)) (by decide +kernel), rfl, rfl, rfl⟩
theorem fl_X7_15 : zFL RX7 15 6 1 .int false := ⟨RX7, TX7, 7, zcl_X7, by decide, zT_in (List.mem_of_getElem? (i := 90) (by decide +kernel)) (by decide +kernel), rfl, rfl, Or.inr (Or.inr trivial)⟩
theorem fl_X7_24 : zFL RX7 24 6 2 .int false := ⟨RX7, TX7, 7, zcl_X7, by decide, zT_in (List.mem_of_getElem? (i := 92) (by decide +kernel)) (by decide +kernel), rfl, rfl, Or.inr (Or.inr trivial)⟩
theorem fl_X7_27 : zFL RX7 27 6 6 .boolean false := ⟨RX7, TX7, 7, zcl_X7, by decide, zT_in (List.mem_of_getElem? (i := 96) (by decide +kernel)) (by decide +kernel), rfl, rfl, Or.inr (Or.inr trivial)⟩
theorem fl_X7_34 : zFL RX7 34 6 4 .int false := ⟨RX7, TX7, 7, zcl_X7, by decide, zT_in (List.mem_of_getElem? (i := 94) (by decide +kernel)) (by decide +kernel), rfl, rfl, Or.inr (Or.inr trivial)⟩
theorem fl_X7_41 : zFL RX7 41 6 3 .int false := ⟨RX7, TX7, 7, zcl_X7, by decide, zT_in (List.mem_of_getElem? (i := 93) (by decide +kernel)) (by decide +kernel), rfl, rfl, Or.inr (Or.inr trivial)⟩
theorem fl_X7_44 : zFL RX7 44 6 5 .int false := ⟨RX7, TX7, 7, zcl_X7, by decide, zT_in (List.mem_of_getElem? (i := 95) (by decide +kernel)) (by decide +kernel), rfl, rfl, Or.inr (Or.inr trivial)⟩
theorem fl_X7_70 : zFL RX7 70 3 0 .int false := ⟨RX4, TX4, 13, zcl_X4, by decide, zT_in (List.mem_of_getElem? (i := 121) (by decide +kernel)) (by decide +kernel), rfl, rfl, Or.inr (Or.inr trivial)⟩
theorem fl_X7_73 : zFL RX7 73 3 1 .int false := ⟨RX4, TX4, 13, zcl_X4, by decide, zT_in (List.mem_of_getElem? (i := 125) (by decide +kernel)) (by decide +kernel), rfl, rfl, Or.inr (Or.inr trivial)⟩
theorem fl_X7_84 : zFL RX7 84 3 2 .int false := ⟨RX4, TX4, 13, zcl_X4, by decide, zT_in (List.mem_of_getElem? (i := 130) (by decide +kernel)) (by decide +kernel), rfl, rfl, Or.inr (Or.inr trivial)⟩
theorem fl_X7_94 : zFL RX7 94 3 3 .int false := ⟨RX4, TX4, 13, zcl_X4, by decide, zT_in (List.mem_of_getElem? (i := 133) (by decide +kernel)) (by decide +kernel), rfl, rfl, Or.inr (Or.inr trivial)⟩
theorem fl_X8_9 : zFL RX8 9 7 0 (.array .int) true := ⟨RX8, TX8, 4, zcl_X8, by decide, zT_in (List.mem_of_getElem? (i := 263) (by decide +kernel)) (by decide +kernel), rfl, rfl, Or.inr (Or.inr trivial)⟩
theorem ff_X8_9 : zFF RX8 9 7 0 (.array .int) := ⟨RX8, TX8, 4, zcl_X8, by decide, zT_in (List.mem_of_getElem? (i := 263) (by decide +kernel)) (by decide +kernel), rfl, rfl, rfl⟩
theorem fl_X8_15 : zFL RX8 15 7 1 (.array .int) true := ⟨RX8, TX8, 4, zcl_X8, by decide, zT_in (List.mem_of_getElem? (i := 264) (by decide +kernel)) (by decide +kernel), rfl, rfl, Or.inr (Or.inr trivial)⟩
theorem ff_X8_15 : zFF RX8 15 7 1 (.array .int) := ⟨RX8, TX8, 4, zcl_X8, by decide, zT_in (List.mem_of_getElem? (i := 264) (by decide +kernel)) (by decide +kernel), rfl, rfl, rfl⟩
theorem fl_X8_19 : zFL RX8 19 3 0 .int false := ⟨RX4, TX4, 13, zcl_X4, by decide, zT_in (List.mem_of_getElem? (i := 120) (by decide +kernel)) (by decide +kernel), rfl, rfl, Or.inr (Or.inr trivial)⟩
theorem fl_X8_25 : zFL RX8 25 3 1 .int false := ⟨RX4, TX4, 13, zcl_X4, by decide, zT_in (List.mem_of_getElem? (i := 124) (by decide +kernel)) (by decide +kernel), rfl, rfl, Or.inr (Or.inr trivial)⟩
theorem fl_X8_28 : zFL RX8 28 3 6 (.array .int) true := ⟨RX4, TX4, 13, zcl_X4, by decide, zT_in (List.mem_of_getElem? (i := 142) (by decide +kernel)) (by decide +kernel), rfl, rfl, Or.inr (Or.inr trivial)⟩
theorem fl_X8_31 : zFL RX8 31 3 4 (.array .int) true := ⟨RX4, TX4, 13, zcl_X4, by decide, zT_in (List.mem_of_getElem? (i := 136) (by decide +kernel)) (by decide +kernel), rfl, rfl, Or.inr (Or.inr trivial)⟩
theorem fl_X8_34 : zFL RX8 34 3 5 (.array .int) true := ⟨RX4, TX4, 13, zcl_X4, by decide, zT_in (List.mem_of_getElem? (i := 139) (by decide +kernel)) (by decide +kernel), rfl, rfl, Or.inr (Or.inr trivial)⟩
theorem fl_X8_47 : zFL RX8 47 3 2 .int false := ⟨RX4, TX4, 13, zcl_X4, by decide, zT_in (List.mem_of_getElem? (i := 129) (by decide +kernel)) (by decide +kernel), rfl, rfl, Or.inr (Or.inr trivial)⟩
theorem fl_X8_50 : zFL RX8 50 5 0 (.array .int) true := ⟨RX6, TX6, 6, zcl_X6, by decide, zT_in (List.mem_of_getElem? (i := 193) (by decide +kernel)) (by decide +kernel), rfl, rfl, Or.inr (Or.inr trivial)⟩
theorem fl_X8_55 : zFL RX8 55 5 1 (.array .int) true := ⟨RX6, TX6, 6, zcl_X6, by decide, zT_in (List.mem_of_getElem? (i := 197) (by decide +kernel)) (by decide +kernel), rfl, rfl, Or.inr (Or.inr trivial)⟩
theorem fl_X8_58 : zFL RX8 58 3 7 (.array .int) true := ⟨RX4, TX4, 13, zcl_X4, by decide, zT_in (List.mem_of_getElem? (i := 147) (by decide +kernel)) (by decide +kernel), rfl, rfl, Or.inr (Or.inr trivial)⟩
theorem fl_X8_73 : zFL RX8 73 7 2 .int false := ⟨RX8, TX8, 4, zcl_X8, by decide, zT_in (List.mem_of_getElem? (i := 265) (by decide +kernel)) (by decide +kernel), rfl, rfl, Or.inr (Or.inr trivial)⟩
theorem fl_X8_76 : zFL RX8 76 7 3 .int false := ⟨RX8, TX8, 4, zcl_X8, by decide, zT_in (List.mem_of_getElem? (i := 267) (by decide +kernel)) (by decide +kernel), rfl, rfl, Or.inr (Or.inr trivial)⟩
theorem fl_X10_7 : zFL RX10 7 9 0 .int false := ⟨RX10, TX10, 34, zcl_X10, by decide, zT_in (List.mem_of_getElem? (i := 760) (by decide +kernel)) (by decide +kernel), rfl, rfl, Or.inr (Or.inr trivial)⟩
theorem fl_X10_13 : zFL RX10 13 9 2 (.array .int) true := ⟨RX10, TX10, 34, zcl_X10, by decide, zT_in (List.mem_of_getElem? (i := 762) (by decide +kernel)) (by decide +kernel), rfl, rfl, Or.inr (Or.inr trivial)⟩
theorem ff_X10_13 : zFF RX10 13 9 2 (.array .int) := ⟨RX10, TX10, 34, zcl_X10, by decide, zT_in (List.mem_of_getElem? (i := 762) (by decide +kernel)) (by decide +kernel), rfl, rfl, rfl⟩
theorem fl_X10_17 : zFL RX10 17 9 4 (.array .int) true := ⟨RX10, TX10, 34, zcl_X10, by decide, zT_in (List.mem_of_getElem? (i := 764) (by decide +kernel)) (by decide +kernel), rfl, rfl, Or.inr (Or.inr trivial)⟩
theorem ff_X10_17 : zFF RX10 17 9 4 (.array .int) := ⟨RX10, TX10, 34, zcl_X10, by decide, zT_in (List.mem_of_getElem? (i := 764) (by decide +kernel)) (by decide +kernel), rfl, rfl, rfl⟩
theorem fl_X10_20 : zFL RX10 20 9 6 (.array .int) true := ⟨RX10, TX10, 34, zcl_X10, by decide, zT_in (List.mem_of_getElem? (i := 766) (by decide +kernel)) (by decide +kernel), rfl, rfl, Or.inr (Or.inr trivial)⟩
theorem ff_X10_20 : zFF RX10 20 9 6 (.array .int) := ⟨RX10, TX10, 34, zcl_X10, by decide, zT_in (List.mem_of_getElem? (i := 766) (by decide +kernel)) (by decide +kernel), rfl, rfl, rfl⟩
theorem fl_X10_23 : zFL RX10 23 9 7 (.array .int) true := ⟨RX10, TX10, 34, zcl_X10, by decide, zT_in (List.mem_of_getElem? (i := 767) (by decide +kernel)) (by decide +kernel), rfl, rfl, Or.inr (Or.inr trivial)⟩
theorem ff_X10_23 : zFF RX10 23 9 7 (.array .int) := ⟨RX10, TX10, 34, zcl_X10, by decide, zT_in (List.mem_of_getElem? (i := 767) (by decide +kernel)) (by decide +kernel), rfl, rfl, rfl⟩
theorem fl_X10_26 : zFL RX10 26 9 8 (.array .int) true := ⟨RX10, TX10, 34, zcl_X10, by decide, zT_in (List.mem_of_getElem? (i := 768) (by decide +kernel)) (by decide +kernel), rfl, rfl, Or.inr (Or.inr trivial)⟩
theorem ff_X10_26 : zFF RX10 26 9 8 (.array .int) := ⟨RX10, TX10, 34, zcl_X10, by decide, zT_in (List.mem_of_getElem? (i := 768) (by decide +kernel)) (by decide +kernel), rfl, rfl, rfl⟩
theorem fl_X10_29 : zFL RX10 29 9 10 (.array .int) true := ⟨RX10, TX10, 34, zcl_X10, by decide, zT_in (List.mem_of_getElem? (i := 770) (by decide +kernel)) (by decide +kernel), rfl, rfl, Or.inr (Or.inr trivial)⟩
theorem ff_X10_29 : zFF RX10 29 9 10 (.array .int) := ⟨RX10, TX10, 34, zcl_X10, by decide, zT_in (List.mem_of_getElem? (i := 770) (by decide +kernel)) (by decide +kernel), rfl, rfl, rfl⟩
theorem fl_X10_32 : zFL RX10 32 9 11 (.array .boolean) true := ⟨RX10, TX10, 34, zcl_X10, by decide, zT_in (List.mem_of_getElem? (i := 771) (by decide +kernel)) (by decide +kernel), rfl, rfl, Or.inr (Or.inr trivial)⟩
theorem ff_X10_32 : zFF RX10 32 9 11 (.array .boolean) := ⟨RX10, TX10, 34, zcl_X10, by decide, zT_in (List.mem_of_getElem? (i := 771) (by decide +kernel)) (by decide +kernel), rfl, rfl, rfl⟩
theorem fl_X10_36 : zFL RX10 36 9 12 (.array .int) true := ⟨RX10, TX10, 34, zcl_X10, by decide, zT_in (List.mem_of_getElem? (i := 772) (by decide +kernel)) (by decide +kernel), rfl, rfl, Or.inr (Or.inr trivial)⟩
theorem ff_X10_36 : zFF RX10 36 9 12 (.array .int) := ⟨RX10, TX10, 34, zcl_X10, by decide, zT_in (List.mem_of_getElem? (i := 772) (by decide +kernel)) (by decide +kernel), rfl, rfl, rfl⟩
theorem fl_X10_39 : zFL RX10 39 9 15 (.array .int) true := ⟨RX10, TX10, 34, zcl_X10, by decide, zT_in (List.mem_of_getElem? (i := 775) (by decide +kernel)) (by decide +kernel), rfl, rfl, Or.inr (Or.inr trivial)⟩
theorem ff_X10_39 : zFF RX10 39 9 15 (.array .int) := ⟨RX10, TX10, 34, zcl_X10, by decide, zT_in (List.mem_of_getElem? (i := 775) (by decide +kernel)) (by decide +kernel), rfl, rfl, rfl⟩
theorem fl_X10_42 : zFL RX10 42 9 18 .int false := ⟨RX10, TX10, 34, zcl_X10, by decide, zT_in (List.mem_of_getElem? (i := 778) (by decide +kernel)) (by decide +kernel), rfl, rfl, Or.inr (Or.inr trivial)⟩
theorem fl_X10_45 : zFL RX10 45 9 23 (.array .int) true := ⟨RX10, TX10, 34, zcl_X10, by decide, zT_in (List.mem_of_getElem? (i := 783) (by decide +kernel)) (by decide +kernel), rfl, rfl, Or.inr (Or.inr trivial)⟩
theorem ff_X10_45 : zFF RX10 45 9 23 (.array .int) := ⟨RX10, TX10, 34, zcl_X10, by decide, zT_in (List.mem_of_getElem? (i := 783) (by decide +kernel)) (by decide +kernel), rfl, rfl, rfl⟩
theorem fl_X10_48 : zFL RX10 48 9 25 (.array .int) true := ⟨RX10, TX10, 34, zcl_X10, by decide, zT_in (List.mem_of_getElem? (i := 785) (by decide +kernel)) (by decide +kernel), rfl, rfl, Or.inr (Or.inr trivial)⟩
theorem ff_X10_48 : zFF RX10 48 9 25 (.array .int) := ⟨RX10, TX10, 34, zcl_X10, by decide, zT_in (List.mem_of_getElem? (i := 785) (by decide +kernel)) (by decide +kernel), rfl, rfl, rfl⟩
theorem fl_X10_51 : zFL RX10 51 9 26 (.array .int) true := ⟨RX10, TX10, 34, zcl_X10, by decide, zT_in (List.mem_of_getElem? (i := 786) (by decide +kernel)) (by decide +kernel), rfl, rfl, Or.inr (Or.inr trivial)⟩
theorem ff_X10_51 : zFF RX10 51 9 26 (.array .int) := ⟨RX10, TX10, 34, zcl_X10, by decide, zT_in (List.mem_of_getElem? (i := 786) (by decide +kernel)) (by decide +kernel), rfl, rfl, rfl⟩
theorem fl_X10_54 : zFL RX10 54 9 27 (.array .int) true := ⟨RX10, TX10, 34, zcl_X10, by decide, zT_in (List.mem_of_getElem? (i := 787) (by decide +kernel)) (by decide +kernel), rfl, rfl, Or.inr (Or.inr trivial)⟩
theorem ff_X10_54 : zFF RX10 54 9 27 (.array .int) := ⟨RX10, TX10, 34, zcl_X10, by decide, zT_in (List.mem_of_getElem? (i := 787) (by decide +kernel)) (by decide +kernel), rfl, rfl, rfl⟩
theorem fl_X10_57 : zFL RX10 57 9 29 (.array .int) true := ⟨RX10, TX10, 34, zcl_X10, by decide, zT_in (List.mem_of_getElem? (i := 789) (by decide +kernel)) (by decide +kernel), rfl, rfl, Or.inr (Or.inr trivial)⟩
theorem ff_X10_57 : zFF RX10 57 9 29 (.array .int) := ⟨RX10, TX10, 34, zcl_X10, by decide, zT_in (List.mem_of_getElem? (i := 789) (by decide +kernel)) (by decide +kernel), rfl, rfl, rfl⟩
theorem fl_X10_60 : zFL RX10 60 9 30 (.array .int) true := ⟨RX10, TX10, 34, zcl_X10, by decide, zT_in (List.mem_of_getElem? (i := 790) (by decide +kernel)) (by decide +kernel), rfl, rfl, Or.inr (Or.inr trivial)⟩
theorem ff_X10_60 : zFF RX10 60 9 30 (.array .int) := ⟨RX10, TX10, 34, zcl_X10, by decide, zT_in (List.mem_of_getElem? (i := 790) (by decide +kernel)) (by decide +kernel), rfl, rfl, rfl⟩
theorem fl_X10_63 : zFL RX10 63 9 33 (.array .int) true := ⟨RX10, TX10, 34, zcl_X10, by decide, zT_in (List.mem_of_getElem? (i := 793) (by decide +kernel)) (by decide +kernel), rfl, rfl, Or.inr (Or.inr trivial)⟩
theorem ff_X10_63 : zFF RX10 63 9 33 (.array .int) := ⟨RX10, TX10, 34, zcl_X10, by decide, zT_in (List.mem_of_getElem? (i := 793) (by decide +kernel)) (by decide +kernel), rfl, rfl, rfl⟩
theorem fl_X10_66 : zFL RX10 66 9 3 .int false := ⟨RX10, TX10, 34, zcl_X10, by decide, zT_in (List.mem_of_getElem? (i := 763) (by decide +kernel)) (by decide +kernel), rfl, rfl, Or.inr (Or.inr trivial)⟩
theorem fl_X10_73 : zFL RX10 73 9 1 .int false := ⟨RX10, TX10, 34, zcl_X10, by decide, zT_in (List.mem_of_getElem? (i := 761) (by decide +kernel)) (by decide +kernel), rfl, rfl, Or.inr (Or.inr trivial)⟩
theorem fl_X10_82 : zFL RX10 82 9 16 .int false := ⟨RX10, TX10, 34, zcl_X10, by decide, zT_in (List.mem_of_getElem? (i := 776) (by decide +kernel)) (by decide +kernel), rfl, rfl, Or.inr (Or.inr trivial)⟩
theorem fl_X10_85 : zFL RX10 85 9 17 .int false := ⟨RX10, TX10, 34, zcl_X10, by decide, zT_in (List.mem_of_getElem? (i := 777) (by decide +kernel)) (by decide +kernel), rfl, rfl, Or.inr (Or.inr trivial)⟩
theorem fl_X10_88 : zFL RX10 88 9 20 .int false := ⟨RX10, TX10, 34, zcl_X10, by decide, zT_in (List.mem_of_getElem? (i := 780) (by decide +kernel)) (by decide +kernel), rfl, rfl, Or.inr (Or.inr trivial)⟩
theorem fl_X10_91 : zFL RX10 91 9 19 .int false := ⟨RX10, TX10, 34, zcl_X10, by decide, zT_in (List.mem_of_getElem? (i := 779) (by decide +kernel)) (by decide +kernel), rfl, rfl, Or.inr (Or.inr trivial)⟩
theorem fl_X10_111 : zFL RX10 111 9 22 .int false := ⟨RX10, TX10, 34, zcl_X10, by decide, zT_in (List.mem_of_getElem? (i := 782) (by decide +kernel)) (by decide +kernel), rfl, rfl, Or.inr (Or.inr trivial)⟩
theorem fl_X10_114 : zFL RX10 114 9 21 .int false := ⟨RX10, TX10, 34, zcl_X10, by decide, zT_in (List.mem_of_getElem? (i := 781) (by decide +kernel)) (by decide +kernel), rfl, rfl, Or.inr (Or.inr trivial)⟩
theorem fl_X10_126 : zFL RX10 126 9 24 .int false := ⟨RX10, TX10, 34, zcl_X10, by decide, zT_in (List.mem_of_getElem? (i := 784) (by decide +kernel)) (by decide +kernel), rfl, rfl, Or.inr (Or.inr trivial)⟩
theorem fl_X10_129 : zFL RX10 129 9 28 .int false := ⟨RX10, TX10, 34, zcl_X10, by decide, zT_in (List.mem_of_getElem? (i := 788) (by decide +kernel)) (by decide +kernel), rfl, rfl, Or.inr (Or.inr trivial)⟩
theorem fl_X10_132 : zFL RX10 132 9 5 .int false := ⟨RX10, TX10, 34, zcl_X10, by decide, zT_in (List.mem_of_getElem? (i := 765) (by decide +kernel)) (by decide +kernel), rfl, rfl, Or.inr (Or.inr trivial)⟩
theorem fl_X10_135 : zFL RX10 135 9 9 .int false := ⟨RX10, TX10, 34, zcl_X10, by decide, zT_in (List.mem_of_getElem? (i := 769) (by decide +kernel)) (by decide +kernel), rfl, rfl, Or.inr (Or.inr trivial)⟩
theorem fl_X10_138 : zFL RX10 138 9 13 .int false := ⟨RX10, TX10, 34, zcl_X10, by decide, zT_in (List.mem_of_getElem? (i := 773) (by decide +kernel)) (by decide +kernel), rfl, rfl, Or.inr (Or.inr trivial)⟩
theorem fl_X10_208 : zFL RX10 208 9 31 .int false := ⟨RX10, TX10, 34, zcl_X10, by decide, zT_in (List.mem_of_getElem? (i := 791) (by decide +kernel)) (by decide +kernel), rfl, rfl, Or.inr (Or.inr trivial)⟩
theorem fl_X10_211 : zFL RX10 211 9 32 .int false := ⟨RX10, TX10, 34, zcl_X10, by decide, zT_in (List.mem_of_getElem? (i := 792) (by decide +kernel)) (by decide +kernel), rfl, rfl, Or.inr (Or.inr trivial)⟩
theorem fl_X10_240 : zFL RX10 240 9 14 .long false := ⟨RX10, TX10, 34, zcl_X10, by decide, zT_in (List.mem_of_getElem? (i := 774) (by decide +kernel)) (by decide +kernel), rfl, rfl, Or.inr (Or.inr trivial)⟩
abbrev mX9_init : zMd := (yX9_init, cX9_init, 2, none, 4, 73, 238, 1575)
theorem kX9_init : zMc mX9_init 0 := ⟨⟨by decide, by decide +kernel, by decide +kernel, by decide +kernel, zT_in (List.mem_of_getElem? (i := 79) (by decide +kernel)) (by decide +kernel), zT_in (List.mem_of_getElem? (i := 62) (by decide +kernel)) (by decide +kernel)⟩, zT_in (List.mem_of_getElem? (i := 78) (by decide +kernel)) (by decide +kernel), rfl, rfl⟩
abbrev mX7_init : zMd := (yX7_init, cX7_init, 1, none, 1, 12, 1, 150)
theorem kX7_init : zMc mX7_init 0 := ⟨⟨by decide, by decide +kernel, by decide +kernel, by decide +kernel, zT_in (List.mem_of_getElem? (i := 87) (by decide +kernel)) (by decide +kernel), zT_in (List.mem_of_getElem? (i := 63) (by decide +kernel)) (by decide +kernel)⟩, zT_in (List.mem_of_getElem? (i := 86) (by decide +kernel)) (by decide +kernel), rfl, rfl⟩
abbrev mX4_init : zMd := (yX4_init, cX4_init, 1, none, 1, 12, 9, 61)
theorem kX4_init : zMc mX4_init 0 := ⟨⟨by decide, by decide +kernel, by decide +kernel, by decide +kernel, zT_in (List.mem_of_getElem? (i := 117) (by decide +kernel)) (by decide +kernel), zT_in (List.mem_of_getElem? (i := 64) (by decide +kernel)) (by decide +kernel)⟩, zT_in (List.mem_of_getElem? (i := 116) (by decide +kernel)) (by decide +kernel), rfl, rfl⟩
abbrev mX6_init : zMd := (yX6_init, cX6_init, 1, none, 1, 12, 5, 28)
theorem kX6_init : zMc mX6_init 0 := ⟨⟨by decide, by decide +kernel, by decide +kernel, by decide +kernel, zT_in (List.mem_of_getElem? (i := 189) (by decide +kernel)) (by decide +kernel), zT_in (List.mem_of_getElem? (i := 65) (by decide +kernel)) (by decide +kernel)⟩, zT_in (List.mem_of_getElem? (i := 188) (by decide +kernel)) (by decide +kernel), rfl, rfl⟩
abbrev mX3_init : zMd := (yX3_init, cX3_init, 2, none, 2, 32, 61, 350)
theorem kX3_init : zMc mX3_init 0 := ⟨⟨by decide, by decide +kernel, by decide +kernel, by decide +kernel, zT_in (List.mem_of_getElem? (i := 223) (by decide +kernel)) (by decide +kernel), zT_in (List.mem_of_getElem? (i := 66) (by decide +kernel)) (by decide +kernel)⟩, zT_in (List.mem_of_getElem? (i := 222) (by decide +kernel)) (by decide +kernel), rfl, rfl⟩
abbrev mX2_init : zMd := (yX2_init, cX2_init, 1, none, 1, 12, 2, 8)
theorem kX2_init : zMc mX2_init 0 := ⟨⟨by decide, by decide +kernel, by decide +kernel, by decide +kernel, zT_in (List.mem_of_getElem? (i := 242) (by decide +kernel)) (by decide +kernel), zT_in (List.mem_of_getElem? (i := 67) (by decide +kernel)) (by decide +kernel)⟩, zT_in (List.mem_of_getElem? (i := 241) (by decide +kernel)) (by decide +kernel), rfl, rfl⟩
abbrev mX8_init : zMd := (yX8_init, cX8_init, 1, none, 1, 12, 2, 16)
theorem kX8_init : zMc mX8_init 0 := ⟨⟨by decide, by decide +kernel, by decide +kernel, by decide +kernel, zT_in (List.mem_of_getElem? (i := 261) (by decide +kernel)) (by decide +kernel), zT_in (List.mem_of_getElem? (i := 68) (by decide +kernel)) (by decide +kernel)⟩, zT_in (List.mem_of_getElem? (i := 260) (by decide +kernel)) (by decide +kernel), rfl, rfl⟩
abbrev mX0_init : zMd := (yX0_init, cX0_init, 1, none, 1, 12, 2, 70)
theorem kX0_init : zMc mX0_init 0 := ⟨⟨by decide, by decide +kernel, by decide +kernel, by decide +kernel, zT_in (List.mem_of_getElem? (i := 282) (by decide +kernel)) (by decide +kernel), zT_in (List.mem_of_getElem? (i := 69) (by decide +kernel)) (by decide +kernel)⟩, zT_in (List.mem_of_getElem? (i := 281) (by decide +kernel)) (by decide +kernel), rfl, rfl⟩
abbrev mX5_init : zMd := (yX5_init, cX5_init, 1, none, 3, 53, 68, 386)
theorem kX5_init : zMc mX5_init 0 := ⟨⟨by decide, by decide +kernel, by decide +kernel, by decide +kernel, zT_in (List.mem_of_getElem? (i := 299) (by decide +kernel)) (by decide +kernel), zT_in (List.mem_of_getElem? (i := 70) (by decide +kernel)) (by decide +kernel)⟩, zT_in (List.mem_of_getElem? (i := 298) (by decide +kernel)) (by decide +kernel), rfl, rfl⟩
abbrev mX9_type : zMd := (yX9_type, cX9_type, 2, some .int, 1, 21, 0, 0)
theorem kX9_type : zMi mX9_type 1 := ⟨⟨by decide, by decide +kernel, by decide +kernel, by decide +kernel, zT_in (List.mem_of_getElem? (i := 350) (by decide +kernel)) (by decide +kernel), zT_in (List.mem_of_getElem? (i := 62) (by decide +kernel)) (by decide +kernel)⟩, zT_in (List.mem_of_getElem? (i := 348) (by decide +kernel)) (by decide +kernel), zT_in (List.mem_of_getElem? (i := 349) (by decide +kernel)) (by decide +kernel)⟩
abbrev mX7_append : zMd := (yX7_append, cX7_append, 2, some .boolean, 0, 0, 0, 0)
theorem kX7_append : zMi mX7_append 1 := ⟨⟨by decide, by decide +kernel, by decide +kernel, by decide +kernel, zT_in (List.mem_of_getElem? (i := 354) (by decide +kernel)) (by decide +kernel), zT_in (List.mem_of_getElem? (i := 63) (by decide +kernel)) (by decide +kernel)⟩, zT_in (List.mem_of_getElem? (i := 352) (by decide +kernel)) (by decide +kernel), zT_in (List.mem_of_getElem? (i := 353) (by decide +kernel)) (by decide +kernel)⟩
abbrev mX9_clear : zMd := (yX9_clear, cX9_clear, 1, some .int, 1, 21, 0, 0)
theorem kX9_clear : zMi mX9_clear 0 := ⟨⟨by decide, by decide +kernel, by decide +kernel, by decide +kernel, zT_in (List.mem_of_getElem? (i := 358) (by decide +kernel)) (by decide +kernel), zT_in (List.mem_of_getElem? (i := 62) (by decide +kernel)) (by decide +kernel)⟩, zT_in (List.mem_of_getElem? (i := 356) (by decide +kernel)) (by decide +kernel), zT_in (List.mem_of_getElem? (i := 357) (by decide +kernel)) (by decide +kernel)⟩
abbrev mX7_drop : zMd := (yX7_drop, cX7_drop, 2, some .int, 0, 0, 0, 0)
theorem kX7_drop : zMi mX7_drop 0 := ⟨⟨by decide, by decide +kernel, by decide +kernel, by decide +kernel, zT_in (List.mem_of_getElem? (i := 362) (by decide +kernel)) (by decide +kernel), zT_in (List.mem_of_getElem? (i := 63) (by decide +kernel)) (by decide +kernel)⟩, zT_in (List.mem_of_getElem? (i := 360) (by decide +kernel)) (by decide +kernel), zT_in (List.mem_of_getElem? (i := 361) (by decide +kernel)) (by decide +kernel)⟩
abbrev mX9_house : zMd := (yX9_house, cX9_house, 4, some .int, 7, 155, 0, 0)
theorem kX9_house : zMi mX9_house 0 := ⟨⟨by decide, by decide +kernel, by decide +kernel, by decide +kernel, zT_in (List.mem_of_getElem? (i := 366) (by decide +kernel)) (by decide +kernel), zT_in (List.mem_of_getElem? (i := 62) (by decide +kernel)) (by decide +kernel)⟩, zT_in (List.mem_of_getElem? (i := 364) (by decide +kernel)) (by decide +kernel), zT_in (List.mem_of_getElem? (i := 365) (by decide +kernel)) (by decide +kernel)⟩
abbrev mX7_readInto : zMd := (yX7_readInto, cX7_readInto, 3, some .int, 6, 133, 0, 0)
theorem kX7_readInto : zMi mX7_readInto 1 := ⟨⟨by decide, by decide +kernel, by decide +kernel, by decide +kernel, zT_in (List.mem_of_getElem? (i := 370) (by decide +kernel)) (by decide +kernel), zT_in (List.mem_of_getElem? (i := 63) (by decide +kernel)) (by decide +kernel)⟩, zT_in (List.mem_of_getElem? (i := 368) (by decide +kernel)) (by decide +kernel), zT_in (List.mem_of_getElem? (i := 369) (by decide +kernel)) (by decide +kernel)⟩
abbrev mX4_tellNothing : zMd := (yX4_tellNothing, cX4_tellNothing, 1, none, 0, 0, 0, 0)
theorem kX4_tellNothing : zMi mX4_tellNothing 0 := ⟨⟨by decide, by decide +kernel, by decide +kernel, by decide +kernel, zT_in (List.mem_of_getElem? (i := 374) (by decide +kernel)) (by decide +kernel), zT_in (List.mem_of_getElem? (i := 64) (by decide +kernel)) (by decide +kernel)⟩, zT_in (List.mem_of_getElem? (i := 372) (by decide +kernel)) (by decide +kernel), zT_in (List.mem_of_getElem? (i := 373) (by decide +kernel)) (by decide +kernel)⟩
abbrev mX7_nextToken : zMd := (yX7_nextToken, cX7_nextToken, 1, none, 2, 43, 0, 0)
theorem kX7_nextToken : zMi mX7_nextToken 0 := ⟨⟨by decide, by decide +kernel, by decide +kernel, by decide +kernel, zT_in (List.mem_of_getElem? (i := 378) (by decide +kernel)) (by decide +kernel), zT_in (List.mem_of_getElem? (i := 63) (by decide +kernel)) (by decide +kernel)⟩, zT_in (List.mem_of_getElem? (i := 377) (by decide +kernel)) (by decide +kernel), zT_in (List.mem_of_getElem? (i := 0) (by decide +kernel)) (by decide +kernel)⟩
abbrev mX7_isLetter : zMd := (yX7_isLetter, cX7_isLetter, 1, some .boolean, 0, 0, 0, 0)
theorem kX7_isLetter : zMs mX7_isLetter 1 := ⟨⟨by decide, by decide +kernel, by decide +kernel, by decide +kernel, zT_in (List.mem_of_getElem? (i := 381) (by decide +kernel)) (by decide +kernel), zT_in (List.mem_of_getElem? (i := 63) (by decide +kernel)) (by decide +kernel)⟩, zT_in (List.mem_of_getElem? (i := 380) (by decide +kernel)) (by decide +kernel)⟩
abbrev mX7_takeLetters : zMd := (yX7_takeLetters, cX7_takeLetters, 1, none, 1, 20, 0, 0)
theorem kX7_takeLetters : zMi mX7_takeLetters 0 := ⟨⟨by decide, by decide +kernel, by decide +kernel, by decide +kernel, zT_in (List.mem_of_getElem? (i := 385) (by decide +kernel)) (by decide +kernel), zT_in (List.mem_of_getElem? (i := 63) (by decide +kernel)) (by decide +kernel)⟩, zT_in (List.mem_of_getElem? (i := 384) (by decide +kernel)) (by decide +kernel), zT_in (List.mem_of_getElem? (i := 1) (by decide +kernel)) (by decide +kernel)⟩
abbrev mX7_isDigit : zMd := (yX7_isDigit, cX7_isDigit, 1, some .boolean, 0, 0, 0, 0)
theorem kX7_isDigit : zMs mX7_isDigit 1 := ⟨⟨by decide, by decide +kernel, by decide +kernel, by decide +kernel, zT_in (List.mem_of_getElem? (i := 388) (by decide +kernel)) (by decide +kernel), zT_in (List.mem_of_getElem? (i := 63) (by decide +kernel)) (by decide +kernel)⟩, zT_in (List.mem_of_getElem? (i := 387) (by decide +kernel)) (by decide +kernel)⟩
abbrev mX7_takeNumber : zMd := (yX7_takeNumber, cX7_takeNumber, 3, none, 1, 21, 0, 0)
theorem kX7_takeNumber : zMi mX7_takeNumber 0 := ⟨⟨by decide, by decide +kernel, by decide +kernel, by decide +kernel, zT_in (List.mem_of_getElem? (i := 392) (by decide +kernel)) (by decide +kernel), zT_in (List.mem_of_getElem? (i := 63) (by decide +kernel)) (by decide +kernel)⟩, zT_in (List.mem_of_getElem? (i := 391) (by decide +kernel)) (by decide +kernel), zT_in (List.mem_of_getElem? (i := 2) (by decide +kernel)) (by decide +kernel)⟩
abbrev mX7_readItem : zMd := (yX7_readItem, cX7_readItem, 4, none, 5, 110, 0, 0)
theorem kX7_readItem : zMi mX7_readItem 2 := ⟨⟨by decide, by decide +kernel, by decide +kernel, by decide +kernel, zT_in (List.mem_of_getElem? (i := 399) (by decide +kernel)) (by decide +kernel), zT_in (List.mem_of_getElem? (i := 63) (by decide +kernel)) (by decide +kernel)⟩, zT_in (List.mem_of_getElem? (i := 398) (by decide +kernel)) (by decide +kernel), zT_in (List.mem_of_getElem? (i := 3) (by decide +kernel)) (by decide +kernel)⟩
abbrev mX7_readRooms : zMd := (yX7_readRooms, cX7_readRooms, 4, none, 4, 85, 0, 0)
theorem kX7_readRooms : zMi mX7_readRooms 2 := ⟨⟨by decide, by decide +kernel, by decide +kernel, by decide +kernel, zT_in (List.mem_of_getElem? (i := 403) (by decide +kernel)) (by decide +kernel), zT_in (List.mem_of_getElem? (i := 63) (by decide +kernel)) (by decide +kernel)⟩, zT_in (List.mem_of_getElem? (i := 402) (by decide +kernel)) (by decide +kernel), zT_in (List.mem_of_getElem? (i := 4) (by decide +kernel)) (by decide +kernel)⟩
abbrev mX7_readNumber : zMd := (yX7_readNumber, cX7_readNumber, 3, some .int, 3, 63, 0, 0)
theorem kX7_readNumber : zMi mX7_readNumber 2 := ⟨⟨by decide, by decide +kernel, by decide +kernel, by decide +kernel, zT_in (List.mem_of_getElem? (i := 407) (by decide +kernel)) (by decide +kernel), zT_in (List.mem_of_getElem? (i := 63) (by decide +kernel)) (by decide +kernel)⟩, zT_in (List.mem_of_getElem? (i := 406) (by decide +kernel)) (by decide +kernel), zT_in (List.mem_of_getElem? (i := 5) (by decide +kernel)) (by decide +kernel)⟩
abbrev mX7_readStop : zMd := (yX7_readStop, cX7_readStop, 1, none, 3, 63, 0, 0)
theorem kX7_readStop : zMi mX7_readStop 0 := ⟨⟨by decide, by decide +kernel, by decide +kernel, by decide +kernel, zT_in (List.mem_of_getElem? (i := 411) (by decide +kernel)) (by decide +kernel), zT_in (List.mem_of_getElem? (i := 63) (by decide +kernel)) (by decide +kernel)⟩, zT_in (List.mem_of_getElem? (i := 410) (by decide +kernel)) (by decide +kernel), zT_in (List.mem_of_getElem? (i := 6) (by decide +kernel)) (by decide +kernel)⟩
abbrev mX7_readPath : zMd := (yX7_readPath, cX7_readPath, 5, none, 4, 85, 0, 0)
theorem kX7_readPath : zMi mX7_readPath 1 := ⟨⟨by decide, by decide +kernel, by decide +kernel, by decide +kernel, zT_in (List.mem_of_getElem? (i := 415) (by decide +kernel)) (by decide +kernel), zT_in (List.mem_of_getElem? (i := 63) (by decide +kernel)) (by decide +kernel)⟩, zT_in (List.mem_of_getElem? (i := 414) (by decide +kernel)) (by decide +kernel), zT_in (List.mem_of_getElem? (i := 7) (by decide +kernel)) (by decide +kernel)⟩
abbrev mX7_refuseAlike : zMd := (yX7_refuseAlike, cX7_refuseAlike, 3, none, 0, 0, 0, 0)
theorem kX7_refuseAlike : zMi mX7_refuseAlike 2 := ⟨⟨by decide, by decide +kernel, by decide +kernel, by decide +kernel, zT_in (List.mem_of_getElem? (i := 419) (by decide +kernel)) (by decide +kernel), zT_in (List.mem_of_getElem? (i := 63) (by decide +kernel)) (by decide +kernel)⟩, zT_in (List.mem_of_getElem? (i := 418) (by decide +kernel)) (by decide +kernel), zT_in (List.mem_of_getElem? (i := 8) (by decide +kernel)) (by decide +kernel)⟩
abbrev mX4_addPath : zMd := (yX4_addPath, cX4_addPath, 4, none, 0, 0, 0, 0)
theorem kX4_addPath : zMi mX4_addPath 3 := ⟨⟨by decide, by decide +kernel, by decide +kernel, by decide +kernel, zT_in (List.mem_of_getElem? (i := 423) (by decide +kernel)) (by decide +kernel), zT_in (List.mem_of_getElem? (i := 64) (by decide +kernel)) (by decide +kernel)⟩, zT_in (List.mem_of_getElem? (i := 421) (by decide +kernel)) (by decide +kernel), zT_in (List.mem_of_getElem? (i := 422) (by decide +kernel)) (by decide +kernel)⟩
abbrev mX7_readDirector : zMd := (yX7_readDirector, cX7_readDirector, 6, none, 4, 85, 0, 0)
theorem kX7_readDirector : zMi mX7_readDirector 1 := ⟨⟨by decide, by decide +kernel, by decide +kernel, by decide +kernel, zT_in (List.mem_of_getElem? (i := 427) (by decide +kernel)) (by decide +kernel), zT_in (List.mem_of_getElem? (i := 63) (by decide +kernel)) (by decide +kernel)⟩, zT_in (List.mem_of_getElem? (i := 426) (by decide +kernel)) (by decide +kernel), zT_in (List.mem_of_getElem? (i := 9) (by decide +kernel)) (by decide +kernel)⟩
abbrev mX4_addDirector : zMd := (yX4_addDirector, cX4_addDirector, 5, none, 0, 0, 0, 0)
theorem kX4_addDirector : zMi mX4_addDirector 4 := ⟨⟨by decide, by decide +kernel, by decide +kernel, by decide +kernel, zT_in (List.mem_of_getElem? (i := 431) (by decide +kernel)) (by decide +kernel), zT_in (List.mem_of_getElem? (i := 64) (by decide +kernel)) (by decide +kernel)⟩, zT_in (List.mem_of_getElem? (i := 429) (by decide +kernel)) (by decide +kernel), zT_in (List.mem_of_getElem? (i := 430) (by decide +kernel)) (by decide +kernel)⟩
abbrev mX7_readFriends : zMd := (yX7_readFriends, cX7_readFriends, 4, none, 4, 85, 0, 0)
theorem kX7_readFriends : zMi mX7_readFriends 1 := ⟨⟨by decide, by decide +kernel, by decide +kernel, by decide +kernel, zT_in (List.mem_of_getElem? (i := 435) (by decide +kernel)) (by decide +kernel), zT_in (List.mem_of_getElem? (i := 63) (by decide +kernel)) (by decide +kernel)⟩, zT_in (List.mem_of_getElem? (i := 434) (by decide +kernel)) (by decide +kernel), zT_in (List.mem_of_getElem? (i := 10) (by decide +kernel)) (by decide +kernel)⟩
abbrev mX4_addFriends : zMd := (yX4_addFriends, cX4_addFriends, 3, none, 1, 21, 0, 0)
theorem kX4_addFriends : zMi mX4_addFriends 2 := ⟨⟨by decide, by decide +kernel, by decide +kernel, by decide +kernel, zT_in (List.mem_of_getElem? (i := 439) (by decide +kernel)) (by decide +kernel), zT_in (List.mem_of_getElem? (i := 64) (by decide +kernel)) (by decide +kernel)⟩, zT_in (List.mem_of_getElem? (i := 437) (by decide +kernel)) (by decide +kernel), zT_in (List.mem_of_getElem? (i := 438) (by decide +kernel)) (by decide +kernel)⟩
abbrev mX4_hasDirector : zMd := (yX4_hasDirector, cX4_hasDirector, 2, some .boolean, 0, 0, 0, 0)
theorem kX4_hasDirector : zMi mX4_hasDirector 1 := ⟨⟨by decide, by decide +kernel, by decide +kernel, by decide +kernel, zT_in (List.mem_of_getElem? (i := 443) (by decide +kernel)) (by decide +kernel), zT_in (List.mem_of_getElem? (i := 64) (by decide +kernel)) (by decide +kernel)⟩, zT_in (List.mem_of_getElem? (i := 441) (by decide +kernel)) (by decide +kernel), zT_in (List.mem_of_getElem? (i := 442) (by decide +kernel)) (by decide +kernel)⟩
abbrev mX7_readChild : zMd := (yX7_readChild, cX7_readChild, 3, none, 4, 85, 0, 0)
theorem kX7_readChild : zMi mX7_readChild 1 := ⟨⟨by decide, by decide +kernel, by decide +kernel, by decide +kernel, zT_in (List.mem_of_getElem? (i := 447) (by decide +kernel)) (by decide +kernel), zT_in (List.mem_of_getElem? (i := 63) (by decide +kernel)) (by decide +kernel)⟩, zT_in (List.mem_of_getElem? (i := 446) (by decide +kernel)) (by decide +kernel), zT_in (List.mem_of_getElem? (i := 11) (by decide +kernel)) (by decide +kernel)⟩
abbrev mX4_addChild : zMd := (yX4_addChild, cX4_addChild, 2, none, 0, 0, 0, 0)
theorem kX4_addChild : zMi mX4_addChild 1 := ⟨⟨by decide, by decide +kernel, by decide +kernel, by decide +kernel, zT_in (List.mem_of_getElem? (i := 451) (by decide +kernel)) (by decide +kernel), zT_in (List.mem_of_getElem? (i := 64) (by decide +kernel)) (by decide +kernel)⟩, zT_in (List.mem_of_getElem? (i := 449) (by decide +kernel)) (by decide +kernel), zT_in (List.mem_of_getElem? (i := 450) (by decide +kernel)) (by decide +kernel)⟩
abbrev mX6_begin : zMd := (yX6_begin, cX6_begin, 3, none, 1, 22, 0, 0)
theorem kX6_begin : zMi mX6_begin 1 := ⟨⟨by decide, by decide +kernel, by decide +kernel, by decide +kernel, zT_in (List.mem_of_getElem? (i := 455) (by decide +kernel)) (by decide +kernel), zT_in (List.mem_of_getElem? (i := 65) (by decide +kernel)) (by decide +kernel)⟩, zT_in (List.mem_of_getElem? (i := 453) (by decide +kernel)) (by decide +kernel), zT_in (List.mem_of_getElem? (i := 454) (by decide +kernel)) (by decide +kernel)⟩
abbrev mX9_copyRow : zMd := (yX9_copyRow, cX9_copyRow, 3, none, 0, 0, 0, 0)
theorem kX9_copyRow : zMs mX9_copyRow 2 := ⟨⟨by decide, by decide +kernel, by decide +kernel, by decide +kernel, zT_in (List.mem_of_getElem? (i := 458) (by decide +kernel)) (by decide +kernel), zT_in (List.mem_of_getElem? (i := 62) (by decide +kernel)) (by decide +kernel)⟩, zT_in (List.mem_of_getElem? (i := 457) (by decide +kernel)) (by decide +kernel)⟩
abbrev mX9_path : zMd := (yX9_path, cX9_path, 3, some .int, 3, 66, 0, 0)
theorem kX9_path : zMi mX9_path 2 := ⟨⟨by decide, by decide +kernel, by decide +kernel, by decide +kernel, zT_in (List.mem_of_getElem? (i := 462) (by decide +kernel)) (by decide +kernel), zT_in (List.mem_of_getElem? (i := 62) (by decide +kernel)) (by decide +kernel)⟩, zT_in (List.mem_of_getElem? (i := 460) (by decide +kernel)) (by decide +kernel), zT_in (List.mem_of_getElem? (i := 461) (by decide +kernel)) (by decide +kernel)⟩
abbrev mX4_hasPath : zMd := (yX4_hasPath, cX4_hasPath, 2, some .boolean, 0, 0, 0, 0)
theorem kX4_hasPath : zMi mX4_hasPath 1 := ⟨⟨by decide, by decide +kernel, by decide +kernel, by decide +kernel, zT_in (List.mem_of_getElem? (i := 466) (by decide +kernel)) (by decide +kernel), zT_in (List.mem_of_getElem? (i := 64) (by decide +kernel)) (by decide +kernel)⟩, zT_in (List.mem_of_getElem? (i := 464) (by decide +kernel)) (by decide +kernel), zT_in (List.mem_of_getElem? (i := 465) (by decide +kernel)) (by decide +kernel)⟩
abbrev mX9_whoMayGo : zMd := (yX9_whoMayGo, cX9_whoMayGo, 4, some .int, 2, 43, 0, 0)
theorem kX9_whoMayGo : zMi mX9_whoMayGo 1 := ⟨⟨by decide, by decide +kernel, by decide +kernel, by decide +kernel, zT_in (List.mem_of_getElem? (i := 470) (by decide +kernel)) (by decide +kernel), zT_in (List.mem_of_getElem? (i := 62) (by decide +kernel)) (by decide +kernel)⟩, zT_in (List.mem_of_getElem? (i := 469) (by decide +kernel)) (by decide +kernel), zT_in (List.mem_of_getElem? (i := 12) (by decide +kernel)) (by decide +kernel)⟩
abbrev mX9_mayGo : zMd := (yX9_mayGo, cX9_mayGo, 3, some .boolean, 1, 21, 0, 0)
theorem kX9_mayGo : zMi mX9_mayGo 2 := ⟨⟨by decide, by decide +kernel, by decide +kernel, by decide +kernel, zT_in (List.mem_of_getElem? (i := 474) (by decide +kernel)) (by decide +kernel), zT_in (List.mem_of_getElem? (i := 62) (by decide +kernel)) (by decide +kernel)⟩, zT_in (List.mem_of_getElem? (i := 473) (by decide +kernel)) (by decide +kernel), zT_in (List.mem_of_getElem? (i := 13) (by decide +kernel)) (by decide +kernel)⟩
abbrev mX9_strengthLeft : zMd := (yX9_strengthLeft, cX9_strengthLeft, 2, some .int, 0, 0, 0, 0)
theorem kX9_strengthLeft : zMi mX9_strengthLeft 1 := ⟨⟨by decide, by decide +kernel, by decide +kernel, by decide +kernel, zT_in (List.mem_of_getElem? (i := 478) (by decide +kernel)) (by decide +kernel), zT_in (List.mem_of_getElem? (i := 62) (by decide +kernel)) (by decide +kernel)⟩, zT_in (List.mem_of_getElem? (i := 477) (by decide +kernel)) (by decide +kernel), zT_in (List.mem_of_getElem? (i := 14) (by decide +kernel)) (by decide +kernel)⟩
abbrev mX9_director : zMd := (yX9_director, cX9_director, 3, some .int, 1, 26, 0, 0)
theorem kX9_director : zMi mX9_director 2 := ⟨⟨by decide, by decide +kernel, by decide +kernel, by decide +kernel, zT_in (List.mem_of_getElem? (i := 482) (by decide +kernel)) (by decide +kernel), zT_in (List.mem_of_getElem? (i := 62) (by decide +kernel)) (by decide +kernel)⟩, zT_in (List.mem_of_getElem? (i := 480) (by decide +kernel)) (by decide +kernel), zT_in (List.mem_of_getElem? (i := 481) (by decide +kernel)) (by decide +kernel)⟩
abbrev mX4_reachable : zMd := (yX4_reachable, cX4_reachable, 7, some .int, 0, 0, 0, 0)
theorem kX4_reachable : zMi mX4_reachable 2 := ⟨⟨by decide, by decide +kernel, by decide +kernel, by decide +kernel, zT_in (List.mem_of_getElem? (i := 487) (by decide +kernel)) (by decide +kernel), zT_in (List.mem_of_getElem? (i := 64) (by decide +kernel)) (by decide +kernel)⟩, zT_in (List.mem_of_getElem? (i := 485) (by decide +kernel)) (by decide +kernel), zT_in (List.mem_of_getElem? (i := 486) (by decide +kernel)) (by decide +kernel)⟩
abbrev mX9_child : zMd := (yX9_child, cX9_child, 3, some .int, 1, 21, 0, 0)
theorem kX9_child : zMi mX9_child 2 := ⟨⟨by decide, by decide +kernel, by decide +kernel, by decide +kernel, zT_in (List.mem_of_getElem? (i := 491) (by decide +kernel)) (by decide +kernel), zT_in (List.mem_of_getElem? (i := 62) (by decide +kernel)) (by decide +kernel)⟩, zT_in (List.mem_of_getElem? (i := 489) (by decide +kernel)) (by decide +kernel), zT_in (List.mem_of_getElem? (i := 490) (by decide +kernel)) (by decide +kernel)⟩
abbrev mX4_hasChild : zMd := (yX4_hasChild, cX4_hasChild, 2, some .boolean, 0, 0, 0, 0)
theorem kX4_hasChild : zMi mX4_hasChild 1 := ⟨⟨by decide, by decide +kernel, by decide +kernel, by decide +kernel, zT_in (List.mem_of_getElem? (i := 495) (by decide +kernel)) (by decide +kernel), zT_in (List.mem_of_getElem? (i := 64) (by decide +kernel)) (by decide +kernel)⟩, zT_in (List.mem_of_getElem? (i := 493) (by decide +kernel)) (by decide +kernel), zT_in (List.mem_of_getElem? (i := 494) (by decide +kernel)) (by decide +kernel)⟩
abbrev mX9_goes : zMd := (yX9_goes, cX9_goes, 4, some .int, 3, 64, 0, 0)
theorem kX9_goes : zMi mX9_goes 2 := ⟨⟨by decide, by decide +kernel, by decide +kernel, by decide +kernel, zT_in (List.mem_of_getElem? (i := 499) (by decide +kernel)) (by decide +kernel), zT_in (List.mem_of_getElem? (i := 62) (by decide +kernel)) (by decide +kernel)⟩, zT_in (List.mem_of_getElem? (i := 497) (by decide +kernel)) (by decide +kernel), zT_in (List.mem_of_getElem? (i := 498) (by decide +kernel)) (by decide +kernel)⟩
abbrev mX4_acrossFrom : zMd := (yX4_acrossFrom, cX4_acrossFrom, 3, some .int, 0, 0, 0, 0)
theorem kX4_acrossFrom : zMi mX4_acrossFrom 2 := ⟨⟨by decide, by decide +kernel, by decide +kernel, by decide +kernel, zT_in (List.mem_of_getElem? (i := 503) (by decide +kernel)) (by decide +kernel), zT_in (List.mem_of_getElem? (i := 64) (by decide +kernel)) (by decide +kernel)⟩, zT_in (List.mem_of_getElem? (i := 501) (by decide +kernel)) (by decide +kernel), zT_in (List.mem_of_getElem? (i := 502) (by decide +kernel)) (by decide +kernel)⟩
abbrev mX3_remember : zMd := (yX3_remember, cX3_remember, 2, none, 2, 43, 0, 0)
theorem kX3_remember : zMi mX3_remember 1 := ⟨⟨by decide, by decide +kernel, by decide +kernel, by decide +kernel, zT_in (List.mem_of_getElem? (i := 507) (by decide +kernel)) (by decide +kernel), zT_in (List.mem_of_getElem? (i := 66) (by decide +kernel)) (by decide +kernel)⟩, zT_in (List.mem_of_getElem? (i := 505) (by decide +kernel)) (by decide +kernel), zT_in (List.mem_of_getElem? (i := 506) (by decide +kernel)) (by decide +kernel)⟩
abbrev mX3_loseOldest : zMd := (yX3_loseOldest, cX3_loseOldest, 3, none, 0, 0, 0, 0)
theorem kX3_loseOldest : zMi mX3_loseOldest 0 := ⟨⟨by decide, by decide +kernel, by decide +kernel, by decide +kernel, zT_in (List.mem_of_getElem? (i := 511) (by decide +kernel)) (by decide +kernel), zT_in (List.mem_of_getElem? (i := 66) (by decide +kernel)) (by decide +kernel)⟩, zT_in (List.mem_of_getElem? (i := 510) (by decide +kernel)) (by decide +kernel), zT_in (List.mem_of_getElem? (i := 15) (by decide +kernel)) (by decide +kernel)⟩
abbrev mX6_copyFrom : zMd := (yX6_copyFrom, cX6_copyFrom, 2, none, 1, 22, 0, 0)
theorem kX6_copyFrom : zMi mX6_copyFrom 1 := ⟨⟨by decide, by decide +kernel, by decide +kernel, by decide +kernel, zT_in (List.mem_of_getElem? (i := 515) (by decide +kernel)) (by decide +kernel), zT_in (List.mem_of_getElem? (i := 65) (by decide +kernel)) (by decide +kernel)⟩, zT_in (List.mem_of_getElem? (i := 513) (by decide +kernel)) (by decide +kernel), zT_in (List.mem_of_getElem? (i := 514) (by decide +kernel)) (by decide +kernel)⟩
abbrev mX9_rests : zMd := (yX9_rests, cX9_rests, 3, some .int, 3, 64, 0, 0)
theorem kX9_rests : zMi mX9_rests 1 := ⟨⟨by decide, by decide +kernel, by decide +kernel, by decide +kernel, zT_in (List.mem_of_getElem? (i := 520) (by decide +kernel)) (by decide +kernel), zT_in (List.mem_of_getElem? (i := 62) (by decide +kernel)) (by decide +kernel)⟩, zT_in (List.mem_of_getElem? (i := 518) (by decide +kernel)) (by decide +kernel), zT_in (List.mem_of_getElem? (i := 519) (by decide +kernel)) (by decide +kernel)⟩
abbrev mX9_offends : zMd := (yX9_offends, cX9_offends, 4, some .int, 3, 64, 0, 0)
theorem kX9_offends : zMi mX9_offends 3 := ⟨⟨by decide, by decide +kernel, by decide +kernel, by decide +kernel, zT_in (List.mem_of_getElem? (i := 524) (by decide +kernel)) (by decide +kernel), zT_in (List.mem_of_getElem? (i := 62) (by decide +kernel)) (by decide +kernel)⟩, zT_in (List.mem_of_getElem? (i := 522) (by decide +kernel)) (by decide +kernel), zT_in (List.mem_of_getElem? (i := 523) (by decide +kernel)) (by decide +kernel)⟩
abbrev mX6_lookInto : zMd := (yX6_lookInto, cX6_lookInto, 3, none, 1, 21, 0, 0)
theorem kX6_lookInto : zMi mX6_lookInto 2 := ⟨⟨by decide, by decide +kernel, by decide +kernel, by decide +kernel, zT_in (List.mem_of_getElem? (i := 528) (by decide +kernel)) (by decide +kernel), zT_in (List.mem_of_getElem? (i := 65) (by decide +kernel)) (by decide +kernel)⟩, zT_in (List.mem_of_getElem? (i := 526) (by decide +kernel)) (by decide +kernel), zT_in (List.mem_of_getElem? (i := 527) (by decide +kernel)) (by decide +kernel)⟩
abbrev mX9_shifts : zMd := (yX9_shifts, cX9_shifts, 3, some .int, 3, 64, 0, 0)
theorem kX9_shifts : zMi mX9_shifts 2 := ⟨⟨by decide, by decide +kernel, by decide +kernel, by decide +kernel, zT_in (List.mem_of_getElem? (i := 533) (by decide +kernel)) (by decide +kernel), zT_in (List.mem_of_getElem? (i := 62) (by decide +kernel)) (by decide +kernel)⟩, zT_in (List.mem_of_getElem? (i := 531) (by decide +kernel)) (by decide +kernel), zT_in (List.mem_of_getElem? (i := 532) (by decide +kernel)) (by decide +kernel)⟩
abbrev mX9_calls : zMd := (yX9_calls, cX9_calls, 4, some .int, 3, 64, 0, 0)
theorem kX9_calls : zMi mX9_calls 1 := ⟨⟨by decide, by decide +kernel, by decide +kernel, by decide +kernel, zT_in (List.mem_of_getElem? (i := 537) (by decide +kernel)) (by decide +kernel), zT_in (List.mem_of_getElem? (i := 62) (by decide +kernel)) (by decide +kernel)⟩, zT_in (List.mem_of_getElem? (i := 535) (by decide +kernel)) (by decide +kernel), zT_in (List.mem_of_getElem? (i := 536) (by decide +kernel)) (by decide +kernel)⟩
abbrev mX4_hasRoom : zMd := (yX4_hasRoom, cX4_hasRoom, 2, some .boolean, 0, 0, 0, 0)
theorem kX4_hasRoom : zMi mX4_hasRoom 1 := ⟨⟨by decide, by decide +kernel, by decide +kernel, by decide +kernel, zT_in (List.mem_of_getElem? (i := 541) (by decide +kernel)) (by decide +kernel), zT_in (List.mem_of_getElem? (i := 64) (by decide +kernel)) (by decide +kernel)⟩, zT_in (List.mem_of_getElem? (i := 539) (by decide +kernel)) (by decide +kernel), zT_in (List.mem_of_getElem? (i := 540) (by decide +kernel)) (by decide +kernel)⟩
abbrev mX9_whoIsIn : zMd := (yX9_whoIsIn, cX9_whoIsIn, 4, some .int, 0, 0, 0, 0)
theorem kX9_whoIsIn : zMi mX9_whoIsIn 1 := ⟨⟨by decide, by decide +kernel, by decide +kernel, by decide +kernel, zT_in (List.mem_of_getElem? (i := 545) (by decide +kernel)) (by decide +kernel), zT_in (List.mem_of_getElem? (i := 62) (by decide +kernel)) (by decide +kernel)⟩, zT_in (List.mem_of_getElem? (i := 544) (by decide +kernel)) (by decide +kernel), zT_in (List.mem_of_getElem? (i := 16) (by decide +kernel)) (by decide +kernel)⟩
abbrev mX4_laughFrom : zMd := (yX4_laughFrom, cX4_laughFrom, 6, some .int, 1, 21, 0, 0)
theorem kX4_laughFrom : zMi mX4_laughFrom 1 := ⟨⟨by decide, by decide +kernel, by decide +kernel, by decide +kernel, zT_in (List.mem_of_getElem? (i := 549) (by decide +kernel)) (by decide +kernel), zT_in (List.mem_of_getElem? (i := 64) (by decide +kernel)) (by decide +kernel)⟩, zT_in (List.mem_of_getElem? (i := 547) (by decide +kernel)) (by decide +kernel), zT_in (List.mem_of_getElem? (i := 548) (by decide +kernel)) (by decide +kernel)⟩
abbrev mJ6_bitCount_0f7a4 : zMd := (yJ6_bitCount_0f7a4, cJ6_bitCount_0f7a4, 1, some .int, 0, 0, 0, 0)
theorem kJ6_bitCount_0f7a4 : zMs mJ6_bitCount_0f7a4 1 := ⟨⟨by decide, by decide +kernel, by decide +kernel, by decide +kernel, zT_in (List.mem_of_getElem? (i := 552) (by decide +kernel)) (by decide +kernel), zT_in (List.mem_of_getElem? (i := 73) (by decide +kernel)) (by decide +kernel)⟩, zT_in (List.mem_of_getElem? (i := 551) (by decide +kernel)) (by decide +kernel)⟩
abbrev mX9_has : zMd := (yX9_has, cX9_has, 2, some .boolean, 0, 0, 0, 0)
theorem kX9_has : zMs mX9_has 2 := ⟨⟨by decide, by decide +kernel, by decide +kernel, by decide +kernel, zT_in (List.mem_of_getElem? (i := 561) (by decide +kernel)) (by decide +kernel), zT_in (List.mem_of_getElem? (i := 62) (by decide +kernel)) (by decide +kernel)⟩, zT_in (List.mem_of_getElem? (i := 560) (by decide +kernel)) (by decide +kernel)⟩
abbrev mX9_undo : zMd := (yX9_undo, cX9_undo, 1, some .int, 3, 64, 0, 0)
theorem kX9_undo : zMi mX9_undo 0 := ⟨⟨by decide, by decide +kernel, by decide +kernel, by decide +kernel, zT_in (List.mem_of_getElem? (i := 565) (by decide +kernel)) (by decide +kernel), zT_in (List.mem_of_getElem? (i := 62) (by decide +kernel)) (by decide +kernel)⟩, zT_in (List.mem_of_getElem? (i := 563) (by decide +kernel)) (by decide +kernel), zT_in (List.mem_of_getElem? (i := 564) (by decide +kernel)) (by decide +kernel)⟩
abbrev mX3_takeBack : zMd := (yX3_takeBack, cX3_takeBack, 2, none, 2, 43, 0, 0)
theorem kX3_takeBack : zMi mX3_takeBack 1 := ⟨⟨by decide, by decide +kernel, by decide +kernel, by decide +kernel, zT_in (List.mem_of_getElem? (i := 569) (by decide +kernel)) (by decide +kernel), zT_in (List.mem_of_getElem? (i := 66) (by decide +kernel)) (by decide +kernel)⟩, zT_in (List.mem_of_getElem? (i := 567) (by decide +kernel)) (by decide +kernel), zT_in (List.mem_of_getElem? (i := 568) (by decide +kernel)) (by decide +kernel)⟩
abbrev mX9_now : zMd := (yX9_now, cX9_now, 2, some .int, 4, 95, 0, 0)
theorem kX9_now : zMi mX9_now 1 := ⟨⟨by decide, by decide +kernel, by decide +kernel, by decide +kernel, zT_in (List.mem_of_getElem? (i := 573) (by decide +kernel)) (by decide +kernel), zT_in (List.mem_of_getElem? (i := 62) (by decide +kernel)) (by decide +kernel)⟩, zT_in (List.mem_of_getElem? (i := 571) (by decide +kernel)) (by decide +kernel), zT_in (List.mem_of_getElem? (i := 572) (by decide +kernel)) (by decide +kernel)⟩
abbrev mX8_findMeeting : zMd := (yX8_findMeeting, cX8_findMeeting, 5, some .boolean, 3, 71, 0, 0)
theorem kX8_findMeeting : zMi mX8_findMeeting 2 := ⟨⟨by decide, by decide +kernel, by decide +kernel, by decide +kernel, zT_in (List.mem_of_getElem? (i := 577) (by decide +kernel)) (by decide +kernel), zT_in (List.mem_of_getElem? (i := 68) (by decide +kernel)) (by decide +kernel)⟩, zT_in (List.mem_of_getElem? (i := 575) (by decide +kernel)) (by decide +kernel), zT_in (List.mem_of_getElem? (i := 576) (by decide +kernel)) (by decide +kernel)⟩
abbrev mX8_findFrom : zMd := (yX8_findFrom, cX8_findFrom, 8, none, 2, 44, 0, 0)
theorem kX8_findFrom : zMi mX8_findFrom 4 := ⟨⟨by decide, by decide +kernel, by decide +kernel, by decide +kernel, zT_in (List.mem_of_getElem? (i := 581) (by decide +kernel)) (by decide +kernel), zT_in (List.mem_of_getElem? (i := 68) (by decide +kernel)) (by decide +kernel)⟩, zT_in (List.mem_of_getElem? (i := 579) (by decide +kernel)) (by decide +kernel), zT_in (List.mem_of_getElem? (i := 580) (by decide +kernel)) (by decide +kernel)⟩
abbrev mX8_lessen : zMd := (yX8_lessen, cX8_lessen, 4, none, 1, 21, 0, 0)
theorem kX8_lessen : zMi mX8_lessen 3 := ⟨⟨by decide, by decide +kernel, by decide +kernel, by decide +kernel, zT_in (List.mem_of_getElem? (i := 586) (by decide +kernel)) (by decide +kernel), zT_in (List.mem_of_getElem? (i := 68) (by decide +kernel)) (by decide +kernel)⟩, zT_in (List.mem_of_getElem? (i := 585) (by decide +kernel)) (by decide +kernel), zT_in (List.mem_of_getElem? (i := 17) (by decide +kernel)) (by decide +kernel)⟩
abbrev mX8_leadTo : zMd := (yX8_leadTo, cX8_leadTo, 2, some .boolean, 0, 0, 0, 0)
theorem kX8_leadTo : zMi mX8_leadTo 1 := ⟨⟨by decide, by decide +kernel, by decide +kernel, by decide +kernel, zT_in (List.mem_of_getElem? (i := 591) (by decide +kernel)) (by decide +kernel), zT_in (List.mem_of_getElem? (i := 68) (by decide +kernel)) (by decide +kernel)⟩, zT_in (List.mem_of_getElem? (i := 589) (by decide +kernel)) (by decide +kernel), zT_in (List.mem_of_getElem? (i := 590) (by decide +kernel)) (by decide +kernel)⟩
abbrev mX8_wearinessTo : zMd := (yX8_wearinessTo, cX8_wearinessTo, 2, some .int, 0, 0, 0, 0)
theorem kX8_wearinessTo : zMi mX8_wearinessTo 1 := ⟨⟨by decide, by decide +kernel, by decide +kernel, by decide +kernel, zT_in (List.mem_of_getElem? (i := 595) (by decide +kernel)) (by decide +kernel), zT_in (List.mem_of_getElem? (i := 68) (by decide +kernel)) (by decide +kernel)⟩, zT_in (List.mem_of_getElem? (i := 593) (by decide +kernel)) (by decide +kernel), zT_in (List.mem_of_getElem? (i := 594) (by decide +kernel)) (by decide +kernel)⟩
abbrev mX4_fewestToLaugh : zMd := (yX4_fewestToLaugh, cX4_fewestToLaugh, 4, some .int, 2, 46, 0, 0)
theorem kX4_fewestToLaugh : zMi mX4_fewestToLaugh 0 := ⟨⟨by decide, by decide +kernel, by decide +kernel, by decide +kernel, zT_in (List.mem_of_getElem? (i := 599) (by decide +kernel)) (by decide +kernel), zT_in (List.mem_of_getElem? (i := 64) (by decide +kernel)) (by decide +kernel)⟩, zT_in (List.mem_of_getElem? (i := 597) (by decide +kernel)) (by decide +kernel), zT_in (List.mem_of_getElem? (i := 598) (by decide +kernel)) (by decide +kernel)⟩
abbrev mX4_allDirectors : zMd := (yX4_allDirectors, cX4_allDirectors, 1, some .int, 0, 0, 0, 0)
theorem kX4_allDirectors : zMi mX4_allDirectors 0 := ⟨⟨by decide, by decide +kernel, by decide +kernel, by decide +kernel, zT_in (List.mem_of_getElem? (i := 603) (by decide +kernel)) (by decide +kernel), zT_in (List.mem_of_getElem? (i := 64) (by decide +kernel)) (by decide +kernel)⟩, zT_in (List.mem_of_getElem? (i := 601) (by decide +kernel)) (by decide +kernel), zT_in (List.mem_of_getElem? (i := 602) (by decide +kernel)) (by decide +kernel)⟩
abbrev mX9_stonesTogether : zMd := (yX9_stonesTogether, cX9_stonesTogether, 3, some .int, 0, 0, 0, 0)
theorem kX9_stonesTogether : zMi mX9_stonesTogether 0 := ⟨⟨by decide, by decide +kernel, by decide +kernel, by decide +kernel, zT_in (List.mem_of_getElem? (i := 608) (by decide +kernel)) (by decide +kernel), zT_in (List.mem_of_getElem? (i := 62) (by decide +kernel)) (by decide +kernel)⟩, zT_in (List.mem_of_getElem? (i := 607) (by decide +kernel)) (by decide +kernel), zT_in (List.mem_of_getElem? (i := 18) (by decide +kernel)) (by decide +kernel)⟩
abbrev mX9_way : zMd := (yX9_way, cX9_way, 4, some .int, 3, 71, 0, 0)
theorem kX9_way : zMi mX9_way 3 := ⟨⟨by decide, by decide +kernel, by decide +kernel, by decide +kernel, zT_in (List.mem_of_getElem? (i := 612) (by decide +kernel)) (by decide +kernel), zT_in (List.mem_of_getElem? (i := 62) (by decide +kernel)) (by decide +kernel)⟩, zT_in (List.mem_of_getElem? (i := 610) (by decide +kernel)) (by decide +kernel), zT_in (List.mem_of_getElem? (i := 611) (by decide +kernel)) (by decide +kernel)⟩
abbrev mX8_pathsTo : zMd := (yX8_pathsTo, cX8_pathsTo, 2, some .int, 0, 0, 0, 0)
theorem kX8_pathsTo : zMi mX8_pathsTo 1 := ⟨⟨by decide, by decide +kernel, by decide +kernel, by decide +kernel, zT_in (List.mem_of_getElem? (i := 619) (by decide +kernel)) (by decide +kernel), zT_in (List.mem_of_getElem? (i := 68) (by decide +kernel)) (by decide +kernel)⟩, zT_in (List.mem_of_getElem? (i := 617) (by decide +kernel)) (by decide +kernel), zT_in (List.mem_of_getElem? (i := 618) (by decide +kernel)) (by decide +kernel)⟩
abbrev mX9_edge : zMd := (yX9_edge, cX9_edge, 5, some .int, 1, 26, 0, 0)
theorem kX9_edge : zMi mX9_edge 2 := ⟨⟨by decide, by decide +kernel, by decide +kernel, by decide +kernel, zT_in (List.mem_of_getElem? (i := 623) (by decide +kernel)) (by decide +kernel), zT_in (List.mem_of_getElem? (i := 62) (by decide +kernel)) (by decide +kernel)⟩, zT_in (List.mem_of_getElem? (i := 621) (by decide +kernel)) (by decide +kernel), zT_in (List.mem_of_getElem? (i := 622) (by decide +kernel)) (by decide +kernel)⟩
abbrev mX9_spread : zMd := (yX9_spread, cX9_spread, 2, some .int, 2, 46, 0, 0)
theorem kX9_spread : zMi mX9_spread 1 := ⟨⟨by decide, by decide +kernel, by decide +kernel, by decide +kernel, zT_in (List.mem_of_getElem? (i := 627) (by decide +kernel)) (by decide +kernel), zT_in (List.mem_of_getElem? (i := 62) (by decide +kernel)) (by decide +kernel)⟩, zT_in (List.mem_of_getElem? (i := 625) (by decide +kernel)) (by decide +kernel), zT_in (List.mem_of_getElem? (i := 626) (by decide +kernel)) (by decide +kernel)⟩
abbrev mX9_pair : zMd := (yX9_pair, cX9_pair, 2, some .int, 4, 94, 0, 0)
theorem kX9_pair : zMi mX9_pair 1 := ⟨⟨by decide, by decide +kernel, by decide +kernel, by decide +kernel, zT_in (List.mem_of_getElem? (i := 632) (by decide +kernel)) (by decide +kernel), zT_in (List.mem_of_getElem? (i := 62) (by decide +kernel)) (by decide +kernel)⟩, zT_in (List.mem_of_getElem? (i := 630) (by decide +kernel)) (by decide +kernel), zT_in (List.mem_of_getElem? (i := 631) (by decide +kernel)) (by decide +kernel)⟩
abbrev mX0_find : zMd := (yX0_find, cX0_find, 6, none, 3, 69, 0, 0)
theorem kX0_find : zMi mX0_find 2 := ⟨⟨by decide, by decide +kernel, by decide +kernel, by decide +kernel, zT_in (List.mem_of_getElem? (i := 636) (by decide +kernel)) (by decide +kernel), zT_in (List.mem_of_getElem? (i := 69) (by decide +kernel)) (by decide +kernel)⟩, zT_in (List.mem_of_getElem? (i := 634) (by decide +kernel)) (by decide +kernel), zT_in (List.mem_of_getElem? (i := 635) (by decide +kernel)) (by decide +kernel)⟩
abbrev mX0_mostOf : zMd := (yX0_mostOf, cX0_mostOf, 8, some .int, 2, 42, 0, 0)
theorem kX0_mostOf : zMi mX0_mostOf 3 := ⟨⟨by decide, by decide +kernel, by decide +kernel, by decide +kernel, zT_in (List.mem_of_getElem? (i := 641) (by decide +kernel)) (by decide +kernel), zT_in (List.mem_of_getElem? (i := 69) (by decide +kernel)) (by decide +kernel)⟩, zT_in (List.mem_of_getElem? (i := 640) (by decide +kernel)) (by decide +kernel), zT_in (List.mem_of_getElem? (i := 19) (by decide +kernel)) (by decide +kernel)⟩
abbrev mX0_lowestOf : zMd := (yX0_lowestOf, cX0_lowestOf, 2, some .int, 1, 21, 0, 0)
theorem kX0_lowestOf : zMs mX0_lowestOf 1 := ⟨⟨by decide, by decide +kernel, by decide +kernel, by decide +kernel, zT_in (List.mem_of_getElem? (i := 644) (by decide +kernel)) (by decide +kernel), zT_in (List.mem_of_getElem? (i := 69) (by decide +kernel)) (by decide +kernel)⟩, zT_in (List.mem_of_getElem? (i := 643) (by decide +kernel)) (by decide +kernel)⟩
abbrev mX0_canPair : zMd := (yX0_canPair, cX0_canPair, 4, some .boolean, 0, 0, 0, 0)
theorem kX0_canPair : zMs mX0_canPair 4 := ⟨⟨by decide, by decide +kernel, by decide +kernel, by decide +kernel, zT_in (List.mem_of_getElem? (i := 648) (by decide +kernel)) (by decide +kernel), zT_in (List.mem_of_getElem? (i := 69) (by decide +kernel)) (by decide +kernel)⟩, zT_in (List.mem_of_getElem? (i := 647) (by decide +kernel)) (by decide +kernel)⟩
abbrev mX0_settle : zMd := (yX0_settle, cX0_settle, 8, some .int, 1, 23, 0, 0)
theorem kX0_settle : zMi mX0_settle 4 := ⟨⟨by decide, by decide +kernel, by decide +kernel, by decide +kernel, zT_in (List.mem_of_getElem? (i := 653) (by decide +kernel)) (by decide +kernel), zT_in (List.mem_of_getElem? (i := 69) (by decide +kernel)) (by decide +kernel)⟩, zT_in (List.mem_of_getElem? (i := 652) (by decide +kernel)) (by decide +kernel), zT_in (List.mem_of_getElem? (i := 20) (by decide +kernel)) (by decide +kernel)⟩
abbrev mX9_odds : zMd := (yX9_odds, cX9_odds, 7, some .int, 2, 48, 0, 0)
theorem kX9_odds : zMi mX9_odds 3 := ⟨⟨by decide, by decide +kernel, by decide +kernel, by decide +kernel, zT_in (List.mem_of_getElem? (i := 657) (by decide +kernel)) (by decide +kernel), zT_in (List.mem_of_getElem? (i := 62) (by decide +kernel)) (by decide +kernel)⟩, zT_in (List.mem_of_getElem? (i := 655) (by decide +kernel)) (by decide +kernel), zT_in (List.mem_of_getElem? (i := 656) (by decide +kernel)) (by decide +kernel)⟩
abbrev mX1_atMost : zMd := (yX1_atMost, cX1_atMost, 6, some .int, 1, 23, 0, 0)
theorem kX1_atMost : zMs mX1_atMost 3 := ⟨⟨by decide, by decide +kernel, by decide +kernel, by decide +kernel, zT_in (List.mem_of_getElem? (i := 660) (by decide +kernel)) (by decide +kernel), zT_in (List.mem_of_getElem? (i := 74) (by decide +kernel)) (by decide +kernel)⟩, zT_in (List.mem_of_getElem? (i := 659) (by decide +kernel)) (by decide +kernel)⟩
abbrev mX1_power : zMd := (yX1_power, cX1_power, 4, some .int, 0, 0, 0, 0)
theorem kX1_power : zMs mX1_power 2 := ⟨⟨by decide, by decide +kernel, by decide +kernel, by decide +kernel, zT_in (List.mem_of_getElem? (i := 663) (by decide +kernel)) (by decide +kernel), zT_in (List.mem_of_getElem? (i := 74) (by decide +kernel)) (by decide +kernel)⟩, zT_in (List.mem_of_getElem? (i := 662) (by decide +kernel)) (by decide +kernel)⟩
abbrev mX1_commonDivisor : zMd := (yX1_commonDivisor, cX1_commonDivisor, 6, some .int, 0, 0, 0, 0)
theorem kX1_commonDivisor : zMs mX1_commonDivisor 2 := ⟨⟨by decide, by decide +kernel, by decide +kernel, by decide +kernel, zT_in (List.mem_of_getElem? (i := 667) (by decide +kernel)) (by decide +kernel), zT_in (List.mem_of_getElem? (i := 74) (by decide +kernel)) (by decide +kernel)⟩, zT_in (List.mem_of_getElem? (i := 666) (by decide +kernel)) (by decide +kernel)⟩
abbrev mX9_hears : zMd := (yX9_hears, cX9_hears, 3, some .int, 1, 22, 0, 0)
theorem kX9_hears : zMi mX9_hears 2 := ⟨⟨by decide, by decide +kernel, by decide +kernel, by decide +kernel, zT_in (List.mem_of_getElem? (i := 672) (by decide +kernel)) (by decide +kernel), zT_in (List.mem_of_getElem? (i := 62) (by decide +kernel)) (by decide +kernel)⟩, zT_in (List.mem_of_getElem? (i := 670) (by decide +kernel)) (by decide +kernel), zT_in (List.mem_of_getElem? (i := 671) (by decide +kernel)) (by decide +kernel)⟩
abbrev mX2_add : zMd := (yX2_add, cX2_add, 3, some .boolean, 0, 0, 0, 0)
theorem kX2_add : zMi mX2_add 2 := ⟨⟨by decide, by decide +kernel, by decide +kernel, by decide +kernel, zT_in (List.mem_of_getElem? (i := 676) (by decide +kernel)) (by decide +kernel), zT_in (List.mem_of_getElem? (i := 67) (by decide +kernel)) (by decide +kernel)⟩, zT_in (List.mem_of_getElem? (i := 674) (by decide +kernel)) (by decide +kernel), zT_in (List.mem_of_getElem? (i := 675) (by decide +kernel)) (by decide +kernel)⟩
abbrev mX9_forget : zMd := (yX9_forget, cX9_forget, 2, some .int, 0, 0, 0, 0)
theorem kX9_forget : zMi mX9_forget 0 := ⟨⟨by decide, by decide +kernel, by decide +kernel, by decide +kernel, zT_in (List.mem_of_getElem? (i := 680) (by decide +kernel)) (by decide +kernel), zT_in (List.mem_of_getElem? (i := 62) (by decide +kernel)) (by decide +kernel)⟩, zT_in (List.mem_of_getElem? (i := 678) (by decide +kernel)) (by decide +kernel), zT_in (List.mem_of_getElem? (i := 679) (by decide +kernel)) (by decide +kernel)⟩
abbrev mX9_who : zMd := (yX9_who, cX9_who, 4, some .int, 3, 66, 0, 0)
theorem kX9_who : zMi mX9_who 0 := ⟨⟨by decide, by decide +kernel, by decide +kernel, by decide +kernel, zT_in (List.mem_of_getElem? (i := 684) (by decide +kernel)) (by decide +kernel), zT_in (List.mem_of_getElem? (i := 62) (by decide +kernel)) (by decide +kernel)⟩, zT_in (List.mem_of_getElem? (i := 682) (by decide +kernel)) (by decide +kernel), zT_in (List.mem_of_getElem? (i := 683) (by decide +kernel)) (by decide +kernel)⟩
abbrev mX9_ask : zMd := (yX9_ask, cX9_ask, 8, some .int, 4, 89, 0, 0)
theorem kX9_ask : zMi mX9_ask 0 := ⟨⟨by decide, by decide +kernel, by decide +kernel, by decide +kernel, zT_in (List.mem_of_getElem? (i := 688) (by decide +kernel)) (by decide +kernel), zT_in (List.mem_of_getElem? (i := 62) (by decide +kernel)) (by decide +kernel)⟩, zT_in (List.mem_of_getElem? (i := 686) (by decide +kernel)) (by decide +kernel), zT_in (List.mem_of_getElem? (i := 687) (by decide +kernel)) (by decide +kernel)⟩
abbrev mX9_mark : zMd := (yX9_mark, cX9_mark, 3, some .int, 3, 63, 0, 0)
theorem kX9_mark : zMi mX9_mark 2 := ⟨⟨by decide, by decide +kernel, by decide +kernel, by decide +kernel, zT_in (List.mem_of_getElem? (i := 694) (by decide +kernel)) (by decide +kernel), zT_in (List.mem_of_getElem? (i := 62) (by decide +kernel)) (by decide +kernel)⟩, zT_in (List.mem_of_getElem? (i := 692) (by decide +kernel)) (by decide +kernel), zT_in (List.mem_of_getElem? (i := 693) (by decide +kernel)) (by decide +kernel)⟩
abbrev mX9_asDirector : zMd := (yX9_asDirector, cX9_asDirector, 2, some .int, 0, 0, 0, 0)
theorem kX9_asDirector : zMi mX9_asDirector 1 := ⟨⟨by decide, by decide +kernel, by decide +kernel, by decide +kernel, zT_in (List.mem_of_getElem? (i := 699) (by decide +kernel)) (by decide +kernel), zT_in (List.mem_of_getElem? (i := 62) (by decide +kernel)) (by decide +kernel)⟩, zT_in (List.mem_of_getElem? (i := 698) (by decide +kernel)) (by decide +kernel), zT_in (List.mem_of_getElem? (i := 21) (by decide +kernel)) (by decide +kernel)⟩
abbrev mX9_asFounder : zMd := (yX9_asFounder, cX9_asFounder, 2, some .int, 1, 21, 0, 0)
theorem kX9_asFounder : zMi mX9_asFounder 1 := ⟨⟨by decide, by decide +kernel, by decide +kernel, by decide +kernel, zT_in (List.mem_of_getElem? (i := 703) (by decide +kernel)) (by decide +kernel), zT_in (List.mem_of_getElem? (i := 62) (by decide +kernel)) (by decide +kernel)⟩, zT_in (List.mem_of_getElem? (i := 702) (by decide +kernel)) (by decide +kernel), zT_in (List.mem_of_getElem? (i := 22) (by decide +kernel)) (by decide +kernel)⟩
abbrev mX9_asChair : zMd := (yX9_asChair, cX9_asChair, 2, some .int, 1, 21, 0, 0)
theorem kX9_asChair : zMi mX9_asChair 1 := ⟨⟨by decide, by decide +kernel, by decide +kernel, by decide +kernel, zT_in (List.mem_of_getElem? (i := 708) (by decide +kernel)) (by decide +kernel), zT_in (List.mem_of_getElem? (i := 62) (by decide +kernel)) (by decide +kernel)⟩, zT_in (List.mem_of_getElem? (i := 707) (by decide +kernel)) (by decide +kernel), zT_in (List.mem_of_getElem? (i := 23) (by decide +kernel)) (by decide +kernel)⟩
abbrev mX9_asElder : zMd := (yX9_asElder, cX9_asElder, 2, some .int, 2, 42, 0, 0)
theorem kX9_asElder : zMi mX9_asElder 1 := ⟨⟨by decide, by decide +kernel, by decide +kernel, by decide +kernel, zT_in (List.mem_of_getElem? (i := 713) (by decide +kernel)) (by decide +kernel), zT_in (List.mem_of_getElem? (i := 62) (by decide +kernel)) (by decide +kernel)⟩, zT_in (List.mem_of_getElem? (i := 712) (by decide +kernel)) (by decide +kernel), zT_in (List.mem_of_getElem? (i := 24) (by decide +kernel)) (by decide +kernel)⟩
abbrev mX9_asBursar : zMd := (yX9_asBursar, cX9_asBursar, 2, some .int, 2, 42, 0, 0)
theorem kX9_asBursar : zMi mX9_asBursar 1 := ⟨⟨by decide, by decide +kernel, by decide +kernel, by decide +kernel, zT_in (List.mem_of_getElem? (i := 718) (by decide +kernel)) (by decide +kernel), zT_in (List.mem_of_getElem? (i := 62) (by decide +kernel)) (by decide +kernel)⟩, zT_in (List.mem_of_getElem? (i := 717) (by decide +kernel)) (by decide +kernel), zT_in (List.mem_of_getElem? (i := 25) (by decide +kernel)) (by decide +kernel)⟩
abbrev mX9_asClerk : zMd := (yX9_asClerk, cX9_asClerk, 2, some .int, 1, 21, 0, 0)
theorem kX9_asClerk : zMi mX9_asClerk 1 := ⟨⟨by decide, by decide +kernel, by decide +kernel, by decide +kernel, zT_in (List.mem_of_getElem? (i := 723) (by decide +kernel)) (by decide +kernel), zT_in (List.mem_of_getElem? (i := 62) (by decide +kernel)) (by decide +kernel)⟩, zT_in (List.mem_of_getElem? (i := 722) (by decide +kernel)) (by decide +kernel), zT_in (List.mem_of_getElem? (i := 26) (by decide +kernel)) (by decide +kernel)⟩
abbrev mX9_keep : zMd := (yX9_keep, cX9_keep, 2, some .int, 4, 87, 0, 0)
theorem kX9_keep : zMi mX9_keep 1 := ⟨⟨by decide, by decide +kernel, by decide +kernel, by decide +kernel, zT_in (List.mem_of_getElem? (i := 728) (by decide +kernel)) (by decide +kernel), zT_in (List.mem_of_getElem? (i := 62) (by decide +kernel)) (by decide +kernel)⟩, zT_in (List.mem_of_getElem? (i := 726) (by decide +kernel)) (by decide +kernel), zT_in (List.mem_of_getElem? (i := 727) (by decide +kernel)) (by decide +kernel)⟩
abbrev mX5_take : zMd := (yX5_take, cX5_take, 3, none, 3, 65, 0, 0)
theorem kX5_take : zMi mX5_take 2 := ⟨⟨by decide, by decide +kernel, by decide +kernel, by decide +kernel, zT_in (List.mem_of_getElem? (i := 732) (by decide +kernel)) (by decide +kernel), zT_in (List.mem_of_getElem? (i := 70) (by decide +kernel)) (by decide +kernel)⟩, zT_in (List.mem_of_getElem? (i := 730) (by decide +kernel)) (by decide +kernel), zT_in (List.mem_of_getElem? (i := 731) (by decide +kernel)) (by decide +kernel)⟩
abbrev mX3_copyFrom : zMd := (yX3_copyFrom, cX3_copyFrom, 3, none, 2, 43, 0, 0)
theorem kX3_copyFrom : zMi mX3_copyFrom 1 := ⟨⟨by decide, by decide +kernel, by decide +kernel, by decide +kernel, zT_in (List.mem_of_getElem? (i := 737) (by decide +kernel)) (by decide +kernel), zT_in (List.mem_of_getElem? (i := 66) (by decide +kernel)) (by decide +kernel)⟩, zT_in (List.mem_of_getElem? (i := 735) (by decide +kernel)) (by decide +kernel), zT_in (List.mem_of_getElem? (i := 736) (by decide +kernel)) (by decide +kernel)⟩
abbrev mX9_back : zMd := (yX9_back, cX9_back, 2, some .int, 4, 87, 0, 0)
theorem kX9_back : zMi mX9_back 1 := ⟨⟨by decide, by decide +kernel, by decide +kernel, by decide +kernel, zT_in (List.mem_of_getElem? (i := 741) (by decide +kernel)) (by decide +kernel), zT_in (List.mem_of_getElem? (i := 62) (by decide +kernel)) (by decide +kernel)⟩, zT_in (List.mem_of_getElem? (i := 739) (by decide +kernel)) (by decide +kernel), zT_in (List.mem_of_getElem? (i := 740) (by decide +kernel)) (by decide +kernel)⟩
abbrev mX5_give : zMd := (yX5_give, cX5_give, 3, none, 3, 65, 0, 0)
theorem kX5_give : zMi mX5_give 2 := ⟨⟨by decide, by decide +kernel, by decide +kernel, by decide +kernel, zT_in (List.mem_of_getElem? (i := 745) (by decide +kernel)) (by decide +kernel), zT_in (List.mem_of_getElem? (i := 70) (by decide +kernel)) (by decide +kernel)⟩, zT_in (List.mem_of_getElem? (i := 743) (by decide +kernel)) (by decide +kernel), zT_in (List.mem_of_getElem? (i := 744) (by decide +kernel)) (by decide +kernel)⟩
abbrev mX9_count : zMd := (yX9_count, cX9_count, 2, some .int, 0, 0, 0, 0)
theorem kX9_count : zMi mX9_count 1 := ⟨⟨by decide, by decide +kernel, by decide +kernel, by decide +kernel, zT_in (List.mem_of_getElem? (i := 749) (by decide +kernel)) (by decide +kernel), zT_in (List.mem_of_getElem? (i := 62) (by decide +kernel)) (by decide +kernel)⟩, zT_in (List.mem_of_getElem? (i := 747) (by decide +kernel)) (by decide +kernel), zT_in (List.mem_of_getElem? (i := 748) (by decide +kernel)) (by decide +kernel)⟩
abbrev mX9_trace : zMd := (yX9_trace, cX9_trace, 1, some .long, 0, 0, 0, 0)
theorem kX9_trace : zMi mX9_trace 0 := ⟨⟨by decide, by decide +kernel, by decide +kernel, by decide +kernel, zT_in (List.mem_of_getElem? (i := 753) (by decide +kernel)) (by decide +kernel), zT_in (List.mem_of_getElem? (i := 62) (by decide +kernel)) (by decide +kernel)⟩, zT_in (List.mem_of_getElem? (i := 751) (by decide +kernel)) (by decide +kernel), zT_in (List.mem_of_getElem? (i := 752) (by decide +kernel)) (by decide +kernel)⟩
abbrev mX10_init : zMd := (yX10_init, cX10_init, 1, none, 1, 12, 16, 1301)
theorem kX10_init : zMc mX10_init 0 := ⟨⟨by decide, by decide +kernel, by decide +kernel, by decide +kernel, zT_in (List.mem_of_getElem? (i := 758) (by decide +kernel)) (by decide +kernel), zT_in (List.mem_of_getElem? (i := 71) (by decide +kernel)) (by decide +kernel)⟩, zT_in (List.mem_of_getElem? (i := 757) (by decide +kernel)) (by decide +kernel), rfl, rfl⟩
abbrev mX10_type : zMd := (yX10_type, cX10_type, 2, some .int, 1, 25, 0, 0)
theorem kX10_type : zMi mX10_type 1 := ⟨⟨by decide, by decide +kernel, by decide +kernel, by decide +kernel, zT_in (List.mem_of_getElem? (i := 867) (by decide +kernel)) (by decide +kernel), zT_in (List.mem_of_getElem? (i := 71) (by decide +kernel)) (by decide +kernel)⟩, zT_in (List.mem_of_getElem? (i := 865) (by decide +kernel)) (by decide +kernel), zT_in (List.mem_of_getElem? (i := 866) (by decide +kernel)) (by decide +kernel)⟩
abbrev mX10_in : zMd := (yX10_in, cX10_in, 6, some .boolean, 0, 0, 0, 0)
theorem kX10_in : zMs mX10_in 3 := ⟨⟨by decide, by decide +kernel, by decide +kernel, by decide +kernel, zT_in (List.mem_of_getElem? (i := 871) (by decide +kernel)) (by decide +kernel), zT_in (List.mem_of_getElem? (i := 71) (by decide +kernel)) (by decide +kernel)⟩, zT_in (List.mem_of_getElem? (i := 870) (by decide +kernel)) (by decide +kernel)⟩
abbrev mX10_clear : zMd := (yX10_clear, cX10_clear, 2, some .int, 0, 0, 0, 0)
theorem kX10_clear : zMi mX10_clear 0 := ⟨⟨by decide, by decide +kernel, by decide +kernel, by decide +kernel, zT_in (List.mem_of_getElem? (i := 875) (by decide +kernel)) (by decide +kernel), zT_in (List.mem_of_getElem? (i := 71) (by decide +kernel)) (by decide +kernel)⟩, zT_in (List.mem_of_getElem? (i := 873) (by decide +kernel)) (by decide +kernel), zT_in (List.mem_of_getElem? (i := 874) (by decide +kernel)) (by decide +kernel)⟩
abbrev mX10_house : zMd := (yX10_house, cX10_house, 2, some .int, 5, 108, 0, 0)
theorem kX10_house : zMi mX10_house 0 := ⟨⟨by decide, by decide +kernel, by decide +kernel, by decide +kernel, zT_in (List.mem_of_getElem? (i := 879) (by decide +kernel)) (by decide +kernel), zT_in (List.mem_of_getElem? (i := 71) (by decide +kernel)) (by decide +kernel)⟩, zT_in (List.mem_of_getElem? (i := 877) (by decide +kernel)) (by decide +kernel), zT_in (List.mem_of_getElem? (i := 878) (by decide +kernel)) (by decide +kernel)⟩
abbrev mX10_next : zMd := (yX10_next, cX10_next, 2, none, 1, 20, 0, 0)
theorem kX10_next : zMi mX10_next 0 := ⟨⟨by decide, by decide +kernel, by decide +kernel, by decide +kernel, zT_in (List.mem_of_getElem? (i := 883) (by decide +kernel)) (by decide +kernel), zT_in (List.mem_of_getElem? (i := 71) (by decide +kernel)) (by decide +kernel)⟩, zT_in (List.mem_of_getElem? (i := 882) (by decide +kernel)) (by decide +kernel), zT_in (List.mem_of_getElem? (i := 27) (by decide +kernel)) (by decide +kernel)⟩
abbrev mX10_isFigure : zMd := (yX10_isFigure, cX10_isFigure, 1, some .boolean, 0, 0, 0, 0)
theorem kX10_isFigure : zMs mX10_isFigure 1 := ⟨⟨by decide, by decide +kernel, by decide +kernel, by decide +kernel, zT_in (List.mem_of_getElem? (i := 886) (by decide +kernel)) (by decide +kernel), zT_in (List.mem_of_getElem? (i := 71) (by decide +kernel)) (by decide +kernel)⟩, zT_in (List.mem_of_getElem? (i := 885) (by decide +kernel)) (by decide +kernel)⟩
abbrev mX10_isLetter : zMd := (yX10_isLetter, cX10_isLetter, 1, some .boolean, 0, 0, 0, 0)
theorem kX10_isLetter : zMs mX10_isLetter 1 := ⟨⟨by decide, by decide +kernel, by decide +kernel, by decide +kernel, zT_in (List.mem_of_getElem? (i := 889) (by decide +kernel)) (by decide +kernel), zT_in (List.mem_of_getElem? (i := 71) (by decide +kernel)) (by decide +kernel)⟩, zT_in (List.mem_of_getElem? (i := 888) (by decide +kernel)) (by decide +kernel)⟩
abbrev mX10_readRooms : zMd := (yX10_readRooms, cX10_readRooms, 3, none, 4, 84, 0, 0)
theorem kX10_readRooms : zMi mX10_readRooms 1 := ⟨⟨by decide, by decide +kernel, by decide +kernel, by decide +kernel, zT_in (List.mem_of_getElem? (i := 893) (by decide +kernel)) (by decide +kernel), zT_in (List.mem_of_getElem? (i := 71) (by decide +kernel)) (by decide +kernel)⟩, zT_in (List.mem_of_getElem? (i := 892) (by decide +kernel)) (by decide +kernel), zT_in (List.mem_of_getElem? (i := 28) (by decide +kernel)) (by decide +kernel)⟩
abbrev mX10_must : zMd := (yX10_must, cX10_must, 2, none, 0, 0, 0, 0)
theorem kX10_must : zMi mX10_must 1 := ⟨⟨by decide, by decide +kernel, by decide +kernel, by decide +kernel, zT_in (List.mem_of_getElem? (i := 897) (by decide +kernel)) (by decide +kernel), zT_in (List.mem_of_getElem? (i := 71) (by decide +kernel)) (by decide +kernel)⟩, zT_in (List.mem_of_getElem? (i := 896) (by decide +kernel)) (by decide +kernel), zT_in (List.mem_of_getElem? (i := 29) (by decide +kernel)) (by decide +kernel)⟩
abbrev mX10_goOn : zMd := (yX10_goOn, cX10_goOn, 1, none, 2, 41, 0, 0)
theorem kX10_goOn : zMi mX10_goOn 0 := ⟨⟨by decide, by decide +kernel, by decide +kernel, by decide +kernel, zT_in (List.mem_of_getElem? (i := 901) (by decide +kernel)) (by decide +kernel), zT_in (List.mem_of_getElem? (i := 71) (by decide +kernel)) (by decide +kernel)⟩, zT_in (List.mem_of_getElem? (i := 900) (by decide +kernel)) (by decide +kernel), zT_in (List.mem_of_getElem? (i := 30) (by decide +kernel)) (by decide +kernel)⟩
abbrev mX10_number : zMd := (yX10_number, cX10_number, 4, some .int, 3, 61, 0, 0)
theorem kX10_number : zMi mX10_number 2 := ⟨⟨by decide, by decide +kernel, by decide +kernel, by decide +kernel, zT_in (List.mem_of_getElem? (i := 905) (by decide +kernel)) (by decide +kernel), zT_in (List.mem_of_getElem? (i := 71) (by decide +kernel)) (by decide +kernel)⟩, zT_in (List.mem_of_getElem? (i := 904) (by decide +kernel)) (by decide +kernel), zT_in (List.mem_of_getElem? (i := 31) (by decide +kernel)) (by decide +kernel)⟩
abbrev mX10_end : zMd := (yX10_end, cX10_end, 1, none, 3, 61, 0, 0)
theorem kX10_end : zMi mX10_end 0 := ⟨⟨by decide, by decide +kernel, by decide +kernel, by decide +kernel, zT_in (List.mem_of_getElem? (i := 909) (by decide +kernel)) (by decide +kernel), zT_in (List.mem_of_getElem? (i := 71) (by decide +kernel)) (by decide +kernel)⟩, zT_in (List.mem_of_getElem? (i := 908) (by decide +kernel)) (by decide +kernel), zT_in (List.mem_of_getElem? (i := 32) (by decide +kernel)) (by decide +kernel)⟩
abbrev mX10_readPath : zMd := (yX10_readPath, cX10_readPath, 4, none, 4, 84, 0, 0)
theorem kX10_readPath : zMi mX10_readPath 0 := ⟨⟨by decide, by decide +kernel, by decide +kernel, by decide +kernel, zT_in (List.mem_of_getElem? (i := 913) (by decide +kernel)) (by decide +kernel), zT_in (List.mem_of_getElem? (i := 71) (by decide +kernel)) (by decide +kernel)⟩, zT_in (List.mem_of_getElem? (i := 912) (by decide +kernel)) (by decide +kernel), zT_in (List.mem_of_getElem? (i := 33) (by decide +kernel)) (by decide +kernel)⟩
abbrev mX10_unlike : zMd := (yX10_unlike, cX10_unlike, 4, some .int, 3, 61, 0, 0)
theorem kX10_unlike : zMi mX10_unlike 2 := ⟨⟨by decide, by decide +kernel, by decide +kernel, by decide +kernel, zT_in (List.mem_of_getElem? (i := 917) (by decide +kernel)) (by decide +kernel), zT_in (List.mem_of_getElem? (i := 71) (by decide +kernel)) (by decide +kernel)⟩, zT_in (List.mem_of_getElem? (i := 916) (by decide +kernel)) (by decide +kernel), zT_in (List.mem_of_getElem? (i := 34) (by decide +kernel)) (by decide +kernel)⟩
abbrev mX10_readDirector : zMd := (yX10_readDirector, cX10_readDirector, 5, none, 4, 84, 0, 0)
theorem kX10_readDirector : zMi mX10_readDirector 0 := ⟨⟨by decide, by decide +kernel, by decide +kernel, by decide +kernel, zT_in (List.mem_of_getElem? (i := 921) (by decide +kernel)) (by decide +kernel), zT_in (List.mem_of_getElem? (i := 71) (by decide +kernel)) (by decide +kernel)⟩, zT_in (List.mem_of_getElem? (i := 920) (by decide +kernel)) (by decide +kernel), zT_in (List.mem_of_getElem? (i := 35) (by decide +kernel)) (by decide +kernel)⟩
abbrev mX10_readFriends : zMd := (yX10_readFriends, cX10_readFriends, 3, none, 4, 84, 0, 0)
theorem kX10_readFriends : zMi mX10_readFriends 0 := ⟨⟨by decide, by decide +kernel, by decide +kernel, by decide +kernel, zT_in (List.mem_of_getElem? (i := 925) (by decide +kernel)) (by decide +kernel), zT_in (List.mem_of_getElem? (i := 71) (by decide +kernel)) (by decide +kernel)⟩, zT_in (List.mem_of_getElem? (i := 924) (by decide +kernel)) (by decide +kernel), zT_in (List.mem_of_getElem? (i := 36) (by decide +kernel)) (by decide +kernel)⟩
abbrev mX10_readChild : zMd := (yX10_readChild, cX10_readChild, 2, none, 4, 84, 0, 0)
theorem kX10_readChild : zMi mX10_readChild 0 := ⟨⟨by decide, by decide +kernel, by decide +kernel, by decide +kernel, zT_in (List.mem_of_getElem? (i := 929) (by decide +kernel)) (by decide +kernel), zT_in (List.mem_of_getElem? (i := 71) (by decide +kernel)) (by decide +kernel)⟩, zT_in (List.mem_of_getElem? (i := 928) (by decide +kernel)) (by decide +kernel), zT_in (List.mem_of_getElem? (i := 37) (by decide +kernel)) (by decide +kernel)⟩
abbrev mX10_take : zMd := (yX10_take, cX10_take, 2, none, 0, 0, 0, 0)
theorem kX10_take : zMi mX10_take 0 := ⟨⟨by decide, by decide +kernel, by decide +kernel, by decide +kernel, zT_in (List.mem_of_getElem? (i := 933) (by decide +kernel)) (by decide +kernel), zT_in (List.mem_of_getElem? (i := 71) (by decide +kernel)) (by decide +kernel)⟩, zT_in (List.mem_of_getElem? (i := 932) (by decide +kernel)) (by decide +kernel), zT_in (List.mem_of_getElem? (i := 38) (by decide +kernel)) (by decide +kernel)⟩
abbrev mX10_path : zMd := (yX10_path, cX10_path, 5, some .int, 2, 46, 0, 0)
theorem kX10_path : zMi mX10_path 2 := ⟨⟨by decide, by decide +kernel, by decide +kernel, by decide +kernel, zT_in (List.mem_of_getElem? (i := 937) (by decide +kernel)) (by decide +kernel), zT_in (List.mem_of_getElem? (i := 71) (by decide +kernel)) (by decide +kernel)⟩, zT_in (List.mem_of_getElem? (i := 935) (by decide +kernel)) (by decide +kernel), zT_in (List.mem_of_getElem? (i := 936) (by decide +kernel)) (by decide +kernel)⟩
abbrev mX10_isPath : zMd := (yX10_isPath, cX10_isPath, 2, some .boolean, 1, 25, 0, 0)
theorem kX10_isPath : zMi mX10_isPath 1 := ⟨⟨by decide, by decide +kernel, by decide +kernel, by decide +kernel, zT_in (List.mem_of_getElem? (i := 941) (by decide +kernel)) (by decide +kernel), zT_in (List.mem_of_getElem? (i := 71) (by decide +kernel)) (by decide +kernel)⟩, zT_in (List.mem_of_getElem? (i := 940) (by decide +kernel)) (by decide +kernel), zT_in (List.mem_of_getElem? (i := 39) (by decide +kernel)) (by decide +kernel)⟩
abbrev mX10_may : zMd := (yX10_may, cX10_may, 3, some .boolean, 1, 22, 0, 0)
theorem kX10_may : zMi mX10_may 2 := ⟨⟨by decide, by decide +kernel, by decide +kernel, by decide +kernel, zT_in (List.mem_of_getElem? (i := 946) (by decide +kernel)) (by decide +kernel), zT_in (List.mem_of_getElem? (i := 71) (by decide +kernel)) (by decide +kernel)⟩, zT_in (List.mem_of_getElem? (i := 945) (by decide +kernel)) (by decide +kernel), zT_in (List.mem_of_getElem? (i := 40) (by decide +kernel)) (by decide +kernel)⟩
abbrev mX10_of : zMd := (yX10_of, cX10_of, 3, some .int, 0, 0, 0, 0)
theorem kX10_of : zMi mX10_of 2 := ⟨⟨by decide, by decide +kernel, by decide +kernel, by decide +kernel, zT_in (List.mem_of_getElem? (i := 950) (by decide +kernel)) (by decide +kernel), zT_in (List.mem_of_getElem? (i := 71) (by decide +kernel)) (by decide +kernel)⟩, zT_in (List.mem_of_getElem? (i := 949) (by decide +kernel)) (by decide +kernel), zT_in (List.mem_of_getElem? (i := 41) (by decide +kernel)) (by decide +kernel)⟩
abbrev mX10_strength : zMd := (yX10_strength, cX10_strength, 2, some .int, 0, 0, 0, 0)
theorem kX10_strength : zMi mX10_strength 1 := ⟨⟨by decide, by decide +kernel, by decide +kernel, by decide +kernel, zT_in (List.mem_of_getElem? (i := 954) (by decide +kernel)) (by decide +kernel), zT_in (List.mem_of_getElem? (i := 71) (by decide +kernel)) (by decide +kernel)⟩, zT_in (List.mem_of_getElem? (i := 953) (by decide +kernel)) (by decide +kernel), zT_in (List.mem_of_getElem? (i := 42) (by decide +kernel)) (by decide +kernel)⟩
abbrev mX10_director : zMd := (yX10_director, cX10_director, 3, some .int, 4, 94, 0, 0)
theorem kX10_director : zMi mX10_director 2 := ⟨⟨by decide, by decide +kernel, by decide +kernel, by decide +kernel, zT_in (List.mem_of_getElem? (i := 958) (by decide +kernel)) (by decide +kernel), zT_in (List.mem_of_getElem? (i := 71) (by decide +kernel)) (by decide +kernel)⟩, zT_in (List.mem_of_getElem? (i := 956) (by decide +kernel)) (by decide +kernel), zT_in (List.mem_of_getElem? (i := 957) (by decide +kernel)) (by decide +kernel)⟩
abbrev mX10_isDirector : zMd := (yX10_isDirector, cX10_isDirector, 2, some .boolean, 1, 25, 0, 0)
theorem kX10_isDirector : zMi mX10_isDirector 1 := ⟨⟨by decide, by decide +kernel, by decide +kernel, by decide +kernel, zT_in (List.mem_of_getElem? (i := 962) (by decide +kernel)) (by decide +kernel), zT_in (List.mem_of_getElem? (i := 71) (by decide +kernel)) (by decide +kernel)⟩, zT_in (List.mem_of_getElem? (i := 961) (by decide +kernel)) (by decide +kernel), zT_in (List.mem_of_getElem? (i := 43) (by decide +kernel)) (by decide +kernel)⟩
abbrev mX10_gravity : zMd := (yX10_gravity, cX10_gravity, 2, some .int, 0, 0, 0, 0)
theorem kX10_gravity : zMi mX10_gravity 1 := ⟨⟨by decide, by decide +kernel, by decide +kernel, by decide +kernel, zT_in (List.mem_of_getElem? (i := 966) (by decide +kernel)) (by decide +kernel), zT_in (List.mem_of_getElem? (i := 71) (by decide +kernel)) (by decide +kernel)⟩, zT_in (List.mem_of_getElem? (i := 965) (by decide +kernel)) (by decide +kernel), zT_in (List.mem_of_getElem? (i := 44) (by decide +kernel)) (by decide +kernel)⟩
abbrev mX10_friends : zMd := (yX10_friends, cX10_friends, 2, some .int, 0, 0, 0, 0)
theorem kX10_friends : zMi mX10_friends 1 := ⟨⟨by decide, by decide +kernel, by decide +kernel, by decide +kernel, zT_in (List.mem_of_getElem? (i := 970) (by decide +kernel)) (by decide +kernel), zT_in (List.mem_of_getElem? (i := 71) (by decide +kernel)) (by decide +kernel)⟩, zT_in (List.mem_of_getElem? (i := 969) (by decide +kernel)) (by decide +kernel), zT_in (List.mem_of_getElem? (i := 45) (by decide +kernel)) (by decide +kernel)⟩
abbrev mX10_reach : zMd := (yX10_reach, cX10_reach, 4, some .int, 3, 71, 0, 0)
theorem kX10_reach : zMi mX10_reach 1 := ⟨⟨by decide, by decide +kernel, by decide +kernel, by decide +kernel, zT_in (List.mem_of_getElem? (i := 974) (by decide +kernel)) (by decide +kernel), zT_in (List.mem_of_getElem? (i := 71) (by decide +kernel)) (by decide +kernel)⟩, zT_in (List.mem_of_getElem? (i := 973) (by decide +kernel)) (by decide +kernel), zT_in (List.mem_of_getElem? (i := 46) (by decide +kernel)) (by decide +kernel)⟩
abbrev mX10_lay : zMd := (yX10_lay, cX10_lay, 8, none, 2, 44, 0, 0)
theorem kX10_lay : zMi mX10_lay 1 := ⟨⟨by decide, by decide +kernel, by decide +kernel, by decide +kernel, zT_in (List.mem_of_getElem? (i := 978) (by decide +kernel)) (by decide +kernel), zT_in (List.mem_of_getElem? (i := 71) (by decide +kernel)) (by decide +kernel)⟩, zT_in (List.mem_of_getElem? (i := 977) (by decide +kernel)) (by decide +kernel), zT_in (List.mem_of_getElem? (i := 47) (by decide +kernel)) (by decide +kernel)⟩
abbrev mX10_child : zMd := (yX10_child, cX10_child, 3, some .int, 1, 25, 0, 0)
theorem kX10_child : zMi mX10_child 2 := ⟨⟨by decide, by decide +kernel, by decide +kernel, by decide +kernel, zT_in (List.mem_of_getElem? (i := 982) (by decide +kernel)) (by decide +kernel), zT_in (List.mem_of_getElem? (i := 71) (by decide +kernel)) (by decide +kernel)⟩, zT_in (List.mem_of_getElem? (i := 980) (by decide +kernel)) (by decide +kernel), zT_in (List.mem_of_getElem? (i := 981) (by decide +kernel)) (by decide +kernel)⟩
abbrev mX10_goes : zMd := (yX10_goes, cX10_goes, 5, some .int, 2, 46, 0, 0)
theorem kX10_goes : zMi mX10_goes 2 := ⟨⟨by decide, by decide +kernel, by decide +kernel, by decide +kernel, zT_in (List.mem_of_getElem? (i := 986) (by decide +kernel)) (by decide +kernel), zT_in (List.mem_of_getElem? (i := 71) (by decide +kernel)) (by decide +kernel)⟩, zT_in (List.mem_of_getElem? (i := 984) (by decide +kernel)) (by decide +kernel), zT_in (List.mem_of_getElem? (i := 985) (by decide +kernel)) (by decide +kernel)⟩
abbrev mX10_other : zMd := (yX10_other, cX10_other, 3, some .int, 0, 0, 0, 0)
theorem kX10_other : zMi mX10_other 2 := ⟨⟨by decide, by decide +kernel, by decide +kernel, by decide +kernel, zT_in (List.mem_of_getElem? (i := 990) (by decide +kernel)) (by decide +kernel), zT_in (List.mem_of_getElem? (i := 71) (by decide +kernel)) (by decide +kernel)⟩, zT_in (List.mem_of_getElem? (i := 989) (by decide +kernel)) (by decide +kernel), zT_in (List.mem_of_getElem? (i := 48) (by decide +kernel)) (by decide +kernel)⟩
abbrev mX10_keepPast : zMd := (yX10_keepPast, cX10_keepPast, 2, none, 0, 0, 0, 0)
theorem kX10_keepPast : zMi mX10_keepPast 0 := ⟨⟨by decide, by decide +kernel, by decide +kernel, by decide +kernel, zT_in (List.mem_of_getElem? (i := 994) (by decide +kernel)) (by decide +kernel), zT_in (List.mem_of_getElem? (i := 71) (by decide +kernel)) (by decide +kernel)⟩, zT_in (List.mem_of_getElem? (i := 993) (by decide +kernel)) (by decide +kernel), zT_in (List.mem_of_getElem? (i := 49) (by decide +kernel)) (by decide +kernel)⟩
abbrev mX10_rests : zMd := (yX10_rests, cX10_rests, 3, some .int, 2, 46, 0, 0)
theorem kX10_rests : zMi mX10_rests 1 := ⟨⟨by decide, by decide +kernel, by decide +kernel, by decide +kernel, zT_in (List.mem_of_getElem? (i := 998) (by decide +kernel)) (by decide +kernel), zT_in (List.mem_of_getElem? (i := 71) (by decide +kernel)) (by decide +kernel)⟩, zT_in (List.mem_of_getElem? (i := 996) (by decide +kernel)) (by decide +kernel), zT_in (List.mem_of_getElem? (i := 997) (by decide +kernel)) (by decide +kernel)⟩
abbrev mX10_offends : zMd := (yX10_offends, cX10_offends, 4, some .int, 2, 46, 0, 0)
theorem kX10_offends : zMi mX10_offends 3 := ⟨⟨by decide, by decide +kernel, by decide +kernel, by decide +kernel, zT_in (List.mem_of_getElem? (i := 1002) (by decide +kernel)) (by decide +kernel), zT_in (List.mem_of_getElem? (i := 71) (by decide +kernel)) (by decide +kernel)⟩, zT_in (List.mem_of_getElem? (i := 1000) (by decide +kernel)) (by decide +kernel), zT_in (List.mem_of_getElem? (i := 1001) (by decide +kernel)) (by decide +kernel)⟩
abbrev mX10_shifts : zMd := (yX10_shifts, cX10_shifts, 3, some .int, 2, 46, 0, 0)
theorem kX10_shifts : zMi mX10_shifts 2 := ⟨⟨by decide, by decide +kernel, by decide +kernel, by decide +kernel, zT_in (List.mem_of_getElem? (i := 1007) (by decide +kernel)) (by decide +kernel), zT_in (List.mem_of_getElem? (i := 71) (by decide +kernel)) (by decide +kernel)⟩, zT_in (List.mem_of_getElem? (i := 1005) (by decide +kernel)) (by decide +kernel), zT_in (List.mem_of_getElem? (i := 1006) (by decide +kernel)) (by decide +kernel)⟩
abbrev mX10_calls : zMd := (yX10_calls, cX10_calls, 4, some .int, 2, 47, 0, 0)
theorem kX10_calls : zMi mX10_calls 1 := ⟨⟨by decide, by decide +kernel, by decide +kernel, by decide +kernel, zT_in (List.mem_of_getElem? (i := 1011) (by decide +kernel)) (by decide +kernel), zT_in (List.mem_of_getElem? (i := 71) (by decide +kernel)) (by decide +kernel)⟩, zT_in (List.mem_of_getElem? (i := 1009) (by decide +kernel)) (by decide +kernel), zT_in (List.mem_of_getElem? (i := 1010) (by decide +kernel)) (by decide +kernel)⟩
abbrev mX10_isRoom : zMd := (yX10_isRoom, cX10_isRoom, 2, some .boolean, 1, 25, 0, 0)
theorem kX10_isRoom : zMi mX10_isRoom 1 := ⟨⟨by decide, by decide +kernel, by decide +kernel, by decide +kernel, zT_in (List.mem_of_getElem? (i := 1015) (by decide +kernel)) (by decide +kernel), zT_in (List.mem_of_getElem? (i := 71) (by decide +kernel)) (by decide +kernel)⟩, zT_in (List.mem_of_getElem? (i := 1014) (by decide +kernel)) (by decide +kernel), zT_in (List.mem_of_getElem? (i := 50) (by decide +kernel)) (by decide +kernel)⟩
abbrev mX10_spreadOf : zMd := (yX10_spreadOf, cX10_spreadOf, 6, some .int, 1, 22, 0, 0)
theorem kX10_spreadOf : zMi mX10_spreadOf 1 := ⟨⟨by decide, by decide +kernel, by decide +kernel, by decide +kernel, zT_in (List.mem_of_getElem? (i := 1019) (by decide +kernel)) (by decide +kernel), zT_in (List.mem_of_getElem? (i := 71) (by decide +kernel)) (by decide +kernel)⟩, zT_in (List.mem_of_getElem? (i := 1018) (by decide +kernel)) (by decide +kernel), zT_in (List.mem_of_getElem? (i := 51) (by decide +kernel)) (by decide +kernel)⟩
abbrev mX10_bits : zMd := (yX10_bits, cX10_bits, 3, some .int, 0, 0, 0, 0)
theorem kX10_bits : zMs mX10_bits 1 := ⟨⟨by decide, by decide +kernel, by decide +kernel, by decide +kernel, zT_in (List.mem_of_getElem? (i := 1022) (by decide +kernel)) (by decide +kernel), zT_in (List.mem_of_getElem? (i := 71) (by decide +kernel)) (by decide +kernel)⟩, zT_in (List.mem_of_getElem? (i := 1021) (by decide +kernel)) (by decide +kernel)⟩
abbrev mX10_has : zMd := (yX10_has, cX10_has, 2, some .boolean, 0, 0, 0, 0)
theorem kX10_has : zMs mX10_has 2 := ⟨⟨by decide, by decide +kernel, by decide +kernel, by decide +kernel, zT_in (List.mem_of_getElem? (i := 1025) (by decide +kernel)) (by decide +kernel), zT_in (List.mem_of_getElem? (i := 71) (by decide +kernel)) (by decide +kernel)⟩, zT_in (List.mem_of_getElem? (i := 1024) (by decide +kernel)) (by decide +kernel)⟩
abbrev mX10_undo : zMd := (yX10_undo, cX10_undo, 2, some .int, 0, 0, 0, 0)
theorem kX10_undo : zMi mX10_undo 0 := ⟨⟨by decide, by decide +kernel, by decide +kernel, by decide +kernel, zT_in (List.mem_of_getElem? (i := 1029) (by decide +kernel)) (by decide +kernel), zT_in (List.mem_of_getElem? (i := 71) (by decide +kernel)) (by decide +kernel)⟩, zT_in (List.mem_of_getElem? (i := 1027) (by decide +kernel)) (by decide +kernel), zT_in (List.mem_of_getElem? (i := 1028) (by decide +kernel)) (by decide +kernel)⟩
abbrev mX10_now : zMd := (yX10_now, cX10_now, 2, some .int, 4, 95, 0, 0)
theorem kX10_now : zMi mX10_now 1 := ⟨⟨by decide, by decide +kernel, by decide +kernel, by decide +kernel, zT_in (List.mem_of_getElem? (i := 1033) (by decide +kernel)) (by decide +kernel), zT_in (List.mem_of_getElem? (i := 71) (by decide +kernel)) (by decide +kernel)⟩, zT_in (List.mem_of_getElem? (i := 1031) (by decide +kernel)) (by decide +kernel), zT_in (List.mem_of_getElem? (i := 1032) (by decide +kernel)) (by decide +kernel)⟩
abbrev mX10_meet : zMd := (yX10_meet, cX10_meet, 5, none, 3, 71, 0, 0)
theorem kX10_meet : zMi mX10_meet 0 := ⟨⟨by decide, by decide +kernel, by decide +kernel, by decide +kernel, zT_in (List.mem_of_getElem? (i := 1037) (by decide +kernel)) (by decide +kernel), zT_in (List.mem_of_getElem? (i := 71) (by decide +kernel)) (by decide +kernel)⟩, zT_in (List.mem_of_getElem? (i := 1036) (by decide +kernel)) (by decide +kernel), zT_in (List.mem_of_getElem? (i := 52) (by decide +kernel)) (by decide +kernel)⟩
abbrev mX10_fewestToAll : zMd := (yX10_fewestToAll, cX10_fewestToAll, 3, some .int, 2, 47, 0, 0)
theorem kX10_fewestToAll : zMi mX10_fewestToAll 0 := ⟨⟨by decide, by decide +kernel, by decide +kernel, by decide +kernel, zT_in (List.mem_of_getElem? (i := 1041) (by decide +kernel)) (by decide +kernel), zT_in (List.mem_of_getElem? (i := 71) (by decide +kernel)) (by decide +kernel)⟩, zT_in (List.mem_of_getElem? (i := 1040) (by decide +kernel)) (by decide +kernel), zT_in (List.mem_of_getElem? (i := 53) (by decide +kernel)) (by decide +kernel)⟩
abbrev mX10_stones : zMd := (yX10_stones, cX10_stones, 3, some .int, 1, 22, 0, 0)
theorem kX10_stones : zMi mX10_stones 0 := ⟨⟨by decide, by decide +kernel, by decide +kernel, by decide +kernel, zT_in (List.mem_of_getElem? (i := 1045) (by decide +kernel)) (by decide +kernel), zT_in (List.mem_of_getElem? (i := 71) (by decide +kernel)) (by decide +kernel)⟩, zT_in (List.mem_of_getElem? (i := 1044) (by decide +kernel)) (by decide +kernel), zT_in (List.mem_of_getElem? (i := 54) (by decide +kernel)) (by decide +kernel)⟩
abbrev mX10_way : zMd := (yX10_way, cX10_way, 4, some .int, 3, 71, 0, 0)
theorem kX10_way : zMi mX10_way 3 := ⟨⟨by decide, by decide +kernel, by decide +kernel, by decide +kernel, zT_in (List.mem_of_getElem? (i := 1049) (by decide +kernel)) (by decide +kernel), zT_in (List.mem_of_getElem? (i := 71) (by decide +kernel)) (by decide +kernel)⟩, zT_in (List.mem_of_getElem? (i := 1047) (by decide +kernel)) (by decide +kernel), zT_in (List.mem_of_getElem? (i := 1048) (by decide +kernel)) (by decide +kernel)⟩
abbrev mX10_edge : zMd := (yX10_edge, cX10_edge, 5, some .int, 2, 49, 0, 0)
theorem kX10_edge : zMi mX10_edge 2 := ⟨⟨by decide, by decide +kernel, by decide +kernel, by decide +kernel, zT_in (List.mem_of_getElem? (i := 1053) (by decide +kernel)) (by decide +kernel), zT_in (List.mem_of_getElem? (i := 71) (by decide +kernel)) (by decide +kernel)⟩, zT_in (List.mem_of_getElem? (i := 1051) (by decide +kernel)) (by decide +kernel), zT_in (List.mem_of_getElem? (i := 1052) (by decide +kernel)) (by decide +kernel)⟩
abbrev mX10_widest : zMd := (yX10_widest, cX10_widest, 8, some .int, 1, 22, 0, 0)
theorem kX10_widest : zMi mX10_widest 2 := ⟨⟨by decide, by decide +kernel, by decide +kernel, by decide +kernel, zT_in (List.mem_of_getElem? (i := 1057) (by decide +kernel)) (by decide +kernel), zT_in (List.mem_of_getElem? (i := 71) (by decide +kernel)) (by decide +kernel)⟩, zT_in (List.mem_of_getElem? (i := 1056) (by decide +kernel)) (by decide +kernel), zT_in (List.mem_of_getElem? (i := 55) (by decide +kernel)) (by decide +kernel)⟩
abbrev mX10_spread : zMd := (yX10_spread, cX10_spread, 2, some .int, 2, 47, 0, 0)
theorem kX10_spread : zMi mX10_spread 1 := ⟨⟨by decide, by decide +kernel, by decide +kernel, by decide +kernel, zT_in (List.mem_of_getElem? (i := 1061) (by decide +kernel)) (by decide +kernel), zT_in (List.mem_of_getElem? (i := 71) (by decide +kernel)) (by decide +kernel)⟩, zT_in (List.mem_of_getElem? (i := 1059) (by decide +kernel)) (by decide +kernel), zT_in (List.mem_of_getElem? (i := 1060) (by decide +kernel)) (by decide +kernel)⟩
abbrev mX10_pair : zMd := (yX10_pair, cX10_pair, 7, some .int, 3, 68, 0, 0)
theorem kX10_pair : zMi mX10_pair 1 := ⟨⟨by decide, by decide +kernel, by decide +kernel, by decide +kernel, zT_in (List.mem_of_getElem? (i := 1065) (by decide +kernel)) (by decide +kernel), zT_in (List.mem_of_getElem? (i := 71) (by decide +kernel)) (by decide +kernel)⟩, zT_in (List.mem_of_getElem? (i := 1063) (by decide +kernel)) (by decide +kernel), zT_in (List.mem_of_getElem? (i := 1064) (by decide +kernel)) (by decide +kernel)⟩
abbrev mX10_layPairs : zMd := (yX10_layPairs, cX10_layPairs, 5, none, 2, 44, 0, 0)
theorem kX10_layPairs : zMi mX10_layPairs 0 := ⟨⟨by decide, by decide +kernel, by decide +kernel, by decide +kernel, zT_in (List.mem_of_getElem? (i := 1069) (by decide +kernel)) (by decide +kernel), zT_in (List.mem_of_getElem? (i := 71) (by decide +kernel)) (by decide +kernel)⟩, zT_in (List.mem_of_getElem? (i := 1068) (by decide +kernel)) (by decide +kernel), zT_in (List.mem_of_getElem? (i := 56) (by decide +kernel)) (by decide +kernel)⟩
abbrev mX10_fit : zMd := (yX10_fit, cX10_fit, 3, some .boolean, 1, 22, 0, 0)
theorem kX10_fit : zMi mX10_fit 2 := ⟨⟨by decide, by decide +kernel, by decide +kernel, by decide +kernel, zT_in (List.mem_of_getElem? (i := 1073) (by decide +kernel)) (by decide +kernel), zT_in (List.mem_of_getElem? (i := 71) (by decide +kernel)) (by decide +kernel)⟩, zT_in (List.mem_of_getElem? (i := 1072) (by decide +kernel)) (by decide +kernel), zT_in (List.mem_of_getElem? (i := 57) (by decide +kernel)) (by decide +kernel)⟩
abbrev mX10_odds : zMd := (yX10_odds, cX10_odds, 9, some .int, 1, 25, 0, 0)
theorem kX10_odds : zMi mX10_odds 3 := ⟨⟨by decide, by decide +kernel, by decide +kernel, by decide +kernel, zT_in (List.mem_of_getElem? (i := 1077) (by decide +kernel)) (by decide +kernel), zT_in (List.mem_of_getElem? (i := 71) (by decide +kernel)) (by decide +kernel)⟩, zT_in (List.mem_of_getElem? (i := 1075) (by decide +kernel)) (by decide +kernel), zT_in (List.mem_of_getElem? (i := 1076) (by decide +kernel)) (by decide +kernel)⟩
abbrev mX10_hears : zMd := (yX10_hears, cX10_hears, 3, some .int, 2, 46, 0, 0)
theorem kX10_hears : zMi mX10_hears 2 := ⟨⟨by decide, by decide +kernel, by decide +kernel, by decide +kernel, zT_in (List.mem_of_getElem? (i := 1083) (by decide +kernel)) (by decide +kernel), zT_in (List.mem_of_getElem? (i := 71) (by decide +kernel)) (by decide +kernel)⟩, zT_in (List.mem_of_getElem? (i := 1081) (by decide +kernel)) (by decide +kernel), zT_in (List.mem_of_getElem? (i := 1082) (by decide +kernel)) (by decide +kernel)⟩
abbrev mX10_forget : zMd := (yX10_forget, cX10_forget, 2, some .int, 0, 0, 0, 0)
theorem kX10_forget : zMi mX10_forget 0 := ⟨⟨by decide, by decide +kernel, by decide +kernel, by decide +kernel, zT_in (List.mem_of_getElem? (i := 1087) (by decide +kernel)) (by decide +kernel), zT_in (List.mem_of_getElem? (i := 71) (by decide +kernel)) (by decide +kernel)⟩, zT_in (List.mem_of_getElem? (i := 1085) (by decide +kernel)) (by decide +kernel), zT_in (List.mem_of_getElem? (i := 1086) (by decide +kernel)) (by decide +kernel)⟩
abbrev mX10_who : zMd := (yX10_who, cX10_who, 1, some .int, 3, 68, 0, 0)
theorem kX10_who : zMi mX10_who 0 := ⟨⟨by decide, by decide +kernel, by decide +kernel, by decide +kernel, zT_in (List.mem_of_getElem? (i := 1091) (by decide +kernel)) (by decide +kernel), zT_in (List.mem_of_getElem? (i := 71) (by decide +kernel)) (by decide +kernel)⟩, zT_in (List.mem_of_getElem? (i := 1089) (by decide +kernel)) (by decide +kernel), zT_in (List.mem_of_getElem? (i := 1090) (by decide +kernel)) (by decide +kernel)⟩
abbrev mX10_whoBits : zMd := (yX10_whoBits, cX10_whoBits, 5, some .int, 2, 44, 0, 0)
theorem kX10_whoBits : zMi mX10_whoBits 0 := ⟨⟨by decide, by decide +kernel, by decide +kernel, by decide +kernel, zT_in (List.mem_of_getElem? (i := 1095) (by decide +kernel)) (by decide +kernel), zT_in (List.mem_of_getElem? (i := 71) (by decide +kernel)) (by decide +kernel)⟩, zT_in (List.mem_of_getElem? (i := 1094) (by decide +kernel)) (by decide +kernel), zT_in (List.mem_of_getElem? (i := 58) (by decide +kernel)) (by decide +kernel)⟩
abbrev mX10_ask : zMd := (yX10_ask, cX10_ask, 7, some .int, 3, 68, 0, 0)
theorem kX10_ask : zMi mX10_ask 0 := ⟨⟨by decide, by decide +kernel, by decide +kernel, by decide +kernel, zT_in (List.mem_of_getElem? (i := 1099) (by decide +kernel)) (by decide +kernel), zT_in (List.mem_of_getElem? (i := 71) (by decide +kernel)) (by decide +kernel)⟩, zT_in (List.mem_of_getElem? (i := 1097) (by decide +kernel)) (by decide +kernel), zT_in (List.mem_of_getElem? (i := 1098) (by decide +kernel)) (by decide +kernel)⟩
abbrev mX10_mark : zMd := (yX10_mark, cX10_mark, 3, some .int, 2, 46, 0, 0)
theorem kX10_mark : zMi mX10_mark 2 := ⟨⟨by decide, by decide +kernel, by decide +kernel, by decide +kernel, zT_in (List.mem_of_getElem? (i := 1103) (by decide +kernel)) (by decide +kernel), zT_in (List.mem_of_getElem? (i := 71) (by decide +kernel)) (by decide +kernel)⟩, zT_in (List.mem_of_getElem? (i := 1101) (by decide +kernel)) (by decide +kernel), zT_in (List.mem_of_getElem? (i := 1102) (by decide +kernel)) (by decide +kernel)⟩
abbrev mX10_founder : zMd := (yX10_founder, cX10_founder, 2, some .int, 1, 22, 0, 0)
theorem kX10_founder : zMi mX10_founder 1 := ⟨⟨by decide, by decide +kernel, by decide +kernel, by decide +kernel, zT_in (List.mem_of_getElem? (i := 1109) (by decide +kernel)) (by decide +kernel), zT_in (List.mem_of_getElem? (i := 71) (by decide +kernel)) (by decide +kernel)⟩, zT_in (List.mem_of_getElem? (i := 1108) (by decide +kernel)) (by decide +kernel), zT_in (List.mem_of_getElem? (i := 59) (by decide +kernel)) (by decide +kernel)⟩
abbrev mX10_chair : zMd := (yX10_chair, cX10_chair, 2, some .int, 1, 22, 0, 0)
theorem kX10_chair : zMi mX10_chair 1 := ⟨⟨by decide, by decide +kernel, by decide +kernel, by decide +kernel, zT_in (List.mem_of_getElem? (i := 1114) (by decide +kernel)) (by decide +kernel), zT_in (List.mem_of_getElem? (i := 71) (by decide +kernel)) (by decide +kernel)⟩, zT_in (List.mem_of_getElem? (i := 1113) (by decide +kernel)) (by decide +kernel), zT_in (List.mem_of_getElem? (i := 60) (by decide +kernel)) (by decide +kernel)⟩
abbrev mX10_keep : zMd := (yX10_keep, cX10_keep, 4, some .int, 2, 44, 0, 0)
theorem kX10_keep : zMi mX10_keep 1 := ⟨⟨by decide, by decide +kernel, by decide +kernel, by decide +kernel, zT_in (List.mem_of_getElem? (i := 1122) (by decide +kernel)) (by decide +kernel), zT_in (List.mem_of_getElem? (i := 71) (by decide +kernel)) (by decide +kernel)⟩, zT_in (List.mem_of_getElem? (i := 1120) (by decide +kernel)) (by decide +kernel), zT_in (List.mem_of_getElem? (i := 1121) (by decide +kernel)) (by decide +kernel)⟩
abbrev mX10_back : zMd := (yX10_back, cX10_back, 4, some .int, 2, 44, 0, 0)
theorem kX10_back : zMi mX10_back 1 := ⟨⟨by decide, by decide +kernel, by decide +kernel, by decide +kernel, zT_in (List.mem_of_getElem? (i := 1126) (by decide +kernel)) (by decide +kernel), zT_in (List.mem_of_getElem? (i := 71) (by decide +kernel)) (by decide +kernel)⟩, zT_in (List.mem_of_getElem? (i := 1124) (by decide +kernel)) (by decide +kernel), zT_in (List.mem_of_getElem? (i := 1125) (by decide +kernel)) (by decide +kernel)⟩
abbrev mX10_count : zMd := (yX10_count, cX10_count, 2, some .int, 0, 0, 0, 0)
theorem kX10_count : zMi mX10_count 1 := ⟨⟨by decide, by decide +kernel, by decide +kernel, by decide +kernel, zT_in (List.mem_of_getElem? (i := 1130) (by decide +kernel)) (by decide +kernel), zT_in (List.mem_of_getElem? (i := 71) (by decide +kernel)) (by decide +kernel)⟩, zT_in (List.mem_of_getElem? (i := 1128) (by decide +kernel)) (by decide +kernel), zT_in (List.mem_of_getElem? (i := 1129) (by decide +kernel)) (by decide +kernel)⟩
abbrev mX10_trace : zMd := (yX10_trace, cX10_trace, 1, some .long, 0, 0, 0, 0)
theorem kX10_trace : zMi mX10_trace 0 := ⟨⟨by decide, by decide +kernel, by decide +kernel, by decide +kernel, zT_in (List.mem_of_getElem? (i := 1134) (by decide +kernel)) (by decide +kernel), zT_in (List.mem_of_getElem? (i := 71) (by decide +kernel)) (by decide +kernel)⟩, zT_in (List.mem_of_getElem? (i := 1132) (by decide +kernel)) (by decide +kernel), zT_in (List.mem_of_getElem? (i := 1133) (by decide +kernel)) (by decide +kernel)⟩
abbrev mL_law : zMd := (yL_law, cL_law, 4, some .boolean, 8, 178, 256, 0)
theorem ml_X9_1 : Cond.methodLink RX9 1 objectInit ∈ zT := zT_in (List.mem_of_getElem? (i := 80) (by decide +kernel)) (by decide +kernel)
theorem ml_X9_9 : (RX9, 9, yX7_init, RX9) ∈ zNest := by decide +kernel
theorem ml_X9_18 : (RX9, 18, yX4_init, RX9) ∈ zNest := by decide +kernel
theorem ml_X9_28 : (RX9, 28, yX6_init, RX9) ∈ zNest := by decide +kernel
theorem ml_X9_35 : Cond.methodLink RX9 35 yX3_init ∈ zT := zT_in (List.mem_of_getElem? (i := 221) (by decide +kernel)) (by decide +kernel)
theorem ml_X9_48 : (RX9, 48, yX2_init, RX9) ∈ zNest := by decide +kernel
theorem ml_X9_55 : (RX9, 55, yX8_init, RX9) ∈ zNest := by decide +kernel
theorem ml_X9_62 : (RX9, 62, yX0_init, RX9) ∈ zNest := by decide +kernel
theorem ml_X9_67 : (RX9, 67, yX5_init, RX9) ∈ zNest := by decide +kernel
theorem ml_X9_68 : Cond.methodLink RX9 68 yX7_append ∈ zT := zT_in (List.mem_of_getElem? (i := 351) (by decide +kernel)) (by decide +kernel)
theorem ml_X9_76 : Cond.methodLink RX9 76 yX7_drop ∈ zT := zT_in (List.mem_of_getElem? (i := 359) (by decide +kernel)) (by decide +kernel)
theorem ml_X9_80 : Cond.methodLink RX9 80 yX7_readInto ∈ zT := zT_in (List.mem_of_getElem? (i := 367) (by decide +kernel)) (by decide +kernel)
theorem ml_X9_84 : Cond.methodLink RX9 84 yX6_begin ∈ zT := zT_in (List.mem_of_getElem? (i := 452) (by decide +kernel)) (by decide +kernel)
theorem ml_X9_98 : Cond.methodLink RX9 98 yX4_hasPath ∈ zT := zT_in (List.mem_of_getElem? (i := 463) (by decide +kernel)) (by decide +kernel)
theorem ml_X9_111 : Cond.methodLink RX9 111 yX9_whoMayGo ∈ zT := zT_in (List.mem_of_getElem? (i := 467) (by decide +kernel)) (by decide +kernel)
theorem ml_X9_115 : Cond.methodLink RX9 115 yX4_hasDirector ∈ zT := zT_in (List.mem_of_getElem? (i := 483) (by decide +kernel)) (by decide +kernel)
theorem ml_X9_139 : Cond.methodLink RX9 139 yX9_strengthLeft ∈ zT := zT_in (List.mem_of_getElem? (i := 475) (by decide +kernel)) (by decide +kernel)
theorem ml_X9_142 : Cond.methodLink RX9 142 yX4_reachable ∈ zT := zT_in (List.mem_of_getElem? (i := 484) (by decide +kernel)) (by decide +kernel)
theorem ml_X9_146 : Cond.methodLink RX9 146 yX4_hasChild ∈ zT := zT_in (List.mem_of_getElem? (i := 492) (by decide +kernel)) (by decide +kernel)
theorem ml_X9_155 : Cond.methodLink RX9 155 yX4_acrossFrom ∈ zT := zT_in (List.mem_of_getElem? (i := 500) (by decide +kernel)) (by decide +kernel)
theorem ml_X9_158 : Cond.methodLink RX9 158 yX9_mayGo ∈ zT := zT_in (List.mem_of_getElem? (i := 471) (by decide +kernel)) (by decide +kernel)
theorem ml_X9_162 : Cond.methodLink RX9 162 yX3_remember ∈ zT := zT_in (List.mem_of_getElem? (i := 504) (by decide +kernel)) (by decide +kernel)
theorem ml_X9_166 : Cond.methodLink RX9 166 Lib.Math.min.name ∈ zT := zT_in (List.mem_of_getElem? (i := 516) (by decide +kernel)) (by decide +kernel)
theorem ml_X9_171 : Cond.methodLink RX9 171 yX6_lookInto ∈ zT := zT_in (List.mem_of_getElem? (i := 525) (by decide +kernel)) (by decide +kernel)
theorem ml_X9_175 : Cond.methodLink RX9 175 yX4_hasRoom ∈ zT := zT_in (List.mem_of_getElem? (i := 538) (by decide +kernel)) (by decide +kernel)
theorem ml_X9_178 : Cond.methodLink RX9 178 yX9_whoIsIn ∈ zT := zT_in (List.mem_of_getElem? (i := 542) (by decide +kernel)) (by decide +kernel)
theorem ml_X9_184 : Cond.methodLink RX9 184 yX4_laughFrom ∈ zT := zT_in (List.mem_of_getElem? (i := 546) (by decide +kernel)) (by decide +kernel)
theorem ml_X9_190 : Cond.methodLink RX9 190 yX9_has ∈ zT := zT_in (List.mem_of_getElem? (i := 559) (by decide +kernel)) (by decide +kernel)
theorem ml_X9_193 : Cond.methodLink RX9 193 yX3_takeBack ∈ zT := zT_in (List.mem_of_getElem? (i := 566) (by decide +kernel)) (by decide +kernel)
theorem ml_X9_196 : Cond.methodLink RX9 196 yX8_findMeeting ∈ zT := zT_in (List.mem_of_getElem? (i := 574) (by decide +kernel)) (by decide +kernel)
theorem ml_X9_206 : Cond.methodLink RX9 206 yX4_fewestToLaugh ∈ zT := zT_in (List.mem_of_getElem? (i := 596) (by decide +kernel)) (by decide +kernel)
theorem ml_X9_209 : Cond.methodLink RX9 209 yX9_stonesTogether ∈ zT := zT_in (List.mem_of_getElem? (i := 605) (by decide +kernel)) (by decide +kernel)
theorem ml_X9_212 : Cond.methodLink RX9 212 yX8_findFrom ∈ zT := zT_in (List.mem_of_getElem? (i := 613) (by decide +kernel)) (by decide +kernel)
theorem ml_X9_216 : Cond.methodLink RX9 216 yX8_leadTo ∈ zT := zT_in (List.mem_of_getElem? (i := 614) (by decide +kernel)) (by decide +kernel)
theorem ml_X9_219 : Cond.methodLink RX9 219 yX8_wearinessTo ∈ zT := zT_in (List.mem_of_getElem? (i := 615) (by decide +kernel)) (by decide +kernel)
theorem ml_X9_222 : Cond.methodLink RX9 222 yX8_pathsTo ∈ zT := zT_in (List.mem_of_getElem? (i := 616) (by decide +kernel)) (by decide +kernel)
theorem ml_X9_225 : Cond.methodLink RX9 225 yX4_allDirectors ∈ zT := zT_in (List.mem_of_getElem? (i := 628) (by decide +kernel)) (by decide +kernel)
theorem ml_X9_228 : Cond.methodLink RX9 228 yX0_find ∈ zT := zT_in (List.mem_of_getElem? (i := 633) (by decide +kernel)) (by decide +kernel)
theorem ml_X9_241 : Cond.methodLink RX9 241 yX1_atMost ∈ zT := zT_in (List.mem_of_getElem? (i := 658) (by decide +kernel)) (by decide +kernel)
theorem ml_X9_247 : Cond.methodLink RX9 247 yX1_power ∈ zT := zT_in (List.mem_of_getElem? (i := 664) (by decide +kernel)) (by decide +kernel)
theorem ml_X9_250 : Cond.methodLink RX9 250 yX1_commonDivisor ∈ zT := zT_in (List.mem_of_getElem? (i := 665) (by decide +kernel)) (by decide +kernel)
theorem ml_X9_253 : Cond.methodLink RX9 253 Lib.Math.max.name ∈ zT := zT_in (List.mem_of_getElem? (i := 668) (by decide +kernel)) (by decide +kernel)
theorem ml_X9_256 : Cond.methodLink RX9 256 yX2_add ∈ zT := zT_in (List.mem_of_getElem? (i := 673) (by decide +kernel)) (by decide +kernel)
theorem ml_X9_265 : Cond.methodLink RX9 265 yX9_who ∈ zT := zT_in (List.mem_of_getElem? (i := 689) (by decide +kernel)) (by decide +kernel)
theorem ml_X9_268 : Cond.methodLink RX9 268 yJ6_bitCount_0f7a4 ∈ zT := zT_in (List.mem_of_getElem? (i := 690) (by decide +kernel)) (by decide +kernel)
theorem ml_X9_277 : Cond.methodLink RX9 277 yX9_asDirector ∈ zT := zT_in (List.mem_of_getElem? (i := 696) (by decide +kernel)) (by decide +kernel)
theorem ml_X9_280 : Cond.methodLink RX9 280 yX9_asFounder ∈ zT := zT_in (List.mem_of_getElem? (i := 700) (by decide +kernel)) (by decide +kernel)
theorem ml_X9_283 : Cond.methodLink RX9 283 yX9_asChair ∈ zT := zT_in (List.mem_of_getElem? (i := 705) (by decide +kernel)) (by decide +kernel)
theorem ml_X9_286 : Cond.methodLink RX9 286 yX9_asElder ∈ zT := zT_in (List.mem_of_getElem? (i := 710) (by decide +kernel)) (by decide +kernel)
theorem ml_X9_289 : Cond.methodLink RX9 289 yX9_asBursar ∈ zT := zT_in (List.mem_of_getElem? (i := 715) (by decide +kernel)) (by decide +kernel)
theorem ml_X9_292 : Cond.methodLink RX9 292 yX9_asClerk ∈ zT := zT_in (List.mem_of_getElem? (i := 720) (by decide +kernel)) (by decide +kernel)
theorem ml_X9_295 : Cond.methodLink RX9 295 yX5_take ∈ zT := zT_in (List.mem_of_getElem? (i := 729) (by decide +kernel)) (by decide +kernel)
theorem ml_X9_299 : Cond.methodLink RX9 299 yX5_give ∈ zT := zT_in (List.mem_of_getElem? (i := 742) (by decide +kernel)) (by decide +kernel)
theorem ml_X0_3 : Cond.methodLink RX0 3 objectInit ∈ zT := zT_in (List.mem_of_getElem? (i := 283) (by decide +kernel)) (by decide +kernel)
theorem ml_X0_18 : Cond.methodLink RX0 18 yX4_allDirectors ∈ zT := zT_in (List.mem_of_getElem? (i := 637) (by decide +kernel)) (by decide +kernel)
theorem ml_X0_24 : Cond.methodLink RX0 24 yX0_mostOf ∈ zT := zT_in (List.mem_of_getElem? (i := 638) (by decide +kernel)) (by decide +kernel)
theorem ml_X0_35 : (RX0, 35, yX9_has, RX9) ∈ zNest := by decide +kernel
theorem ml_X0_39 : Cond.methodLink RX0 39 yX0_settle ∈ zT := zT_in (List.mem_of_getElem? (i := 650) (by decide +kernel)) (by decide +kernel)
theorem ml_X0_43 : Cond.methodLink RX0 43 yX0_lowestOf ∈ zT := zT_in (List.mem_of_getElem? (i := 642) (by decide +kernel)) (by decide +kernel)
theorem ml_X0_47 : Cond.methodLink RX0 47 yX0_canPair ∈ zT := zT_in (List.mem_of_getElem? (i := 646) (by decide +kernel)) (by decide +kernel)
theorem ml_X0_51 : Cond.methodLink RX0 51 Lib.Math.max.name ∈ zT := zT_in (List.mem_of_getElem? (i := 649) (by decide +kernel)) (by decide +kernel)
theorem ml_X1_9 : Cond.methodLink RX1 9 yX1_power ∈ zT := zT_in (List.mem_of_getElem? (i := 661) (by decide +kernel)) (by decide +kernel)
theorem ml_X2_3 : Cond.methodLink RX2 3 objectInit ∈ zT := zT_in (List.mem_of_getElem? (i := 243) (by decide +kernel)) (by decide +kernel)
theorem ml_X3_3 : Cond.methodLink RX3 3 objectInit ∈ zT := zT_in (List.mem_of_getElem? (i := 224) (by decide +kernel)) (by decide +kernel)
theorem ml_X3_17 : (RX3, 17, yX6_init, RX9) ∈ zNest := by decide +kernel
theorem ml_X3_22 : Cond.methodLink RX3 22 yX3_loseOldest ∈ zT := zT_in (List.mem_of_getElem? (i := 508) (by decide +kernel)) (by decide +kernel)
theorem ml_X3_25 : Cond.methodLink RX3 25 yX6_copyFrom ∈ zT := zT_in (List.mem_of_getElem? (i := 512) (by decide +kernel)) (by decide +kernel)
theorem ml_X4_3 : Cond.methodLink RX4 3 objectInit ∈ zT := zT_in (List.mem_of_getElem? (i := 118) (by decide +kernel)) (by decide +kernel)
theorem ml_X4_52 : Cond.methodLink RX4 52 yX4_hasDirector ∈ zT := zT_in (List.mem_of_getElem? (i := 440) (by decide +kernel)) (by decide +kernel)
theorem ml_X4_56 : Cond.methodLink RX4 56 yJ6_bitCount_0f7a4 ∈ zT := zT_in (List.mem_of_getElem? (i := 550) (by decide +kernel)) (by decide +kernel)
theorem ml_X4_62 : Cond.methodLink RX4 62 Lib.Math.max.name ∈ zT := zT_in (List.mem_of_getElem? (i := 556) (by decide +kernel)) (by decide +kernel)
theorem ml_X4_68 : Cond.methodLink RX4 68 yX4_allDirectors ∈ zT := zT_in (List.mem_of_getElem? (i := 600) (by decide +kernel)) (by decide +kernel)
theorem ml_X4_72 : Cond.methodLink RX4 72 yX4_laughFrom ∈ zT := zT_in (List.mem_of_getElem? (i := 604) (by decide +kernel)) (by decide +kernel)
theorem ml_X5_1 : Cond.methodLink RX5 1 objectInit ∈ zT := zT_in (List.mem_of_getElem? (i := 300) (by decide +kernel)) (by decide +kernel)
theorem ml_X5_9 : (RX5, 9, yX6_init, RX9) ∈ zNest := by decide +kernel
theorem ml_X5_18 : Cond.methodLink RX5 18 yX3_init ∈ zT := zT_in (List.mem_of_getElem? (i := 304) (by decide +kernel)) (by decide +kernel)
theorem ml_X5_23 : Cond.methodLink RX5 23 yX6_copyFrom ∈ zT := zT_in (List.mem_of_getElem? (i := 733) (by decide +kernel)) (by decide +kernel)
theorem ml_X5_27 : Cond.methodLink RX5 27 yX3_copyFrom ∈ zT := zT_in (List.mem_of_getElem? (i := 734) (by decide +kernel)) (by decide +kernel)
theorem ml_X6_3 : Cond.methodLink RX6 3 objectInit ∈ zT := zT_in (List.mem_of_getElem? (i := 190) (by decide +kernel)) (by decide +kernel)
theorem ml_X6_30 : (RX6, 30, yX9_copyRow, RX9) ∈ zNest := by decide +kernel
theorem ml_X6_39 : Cond.methodLink RX6 39 Lib.Math.min.name ∈ zT := zT_in (List.mem_of_getElem? (i := 529) (by decide +kernel)) (by decide +kernel)
theorem ml_X7_3 : Cond.methodLink RX7 3 objectInit ∈ zT := zT_in (List.mem_of_getElem? (i := 88) (by decide +kernel)) (by decide +kernel)
theorem ml_X7_19 : Cond.methodLink RX7 19 yX4_tellNothing ∈ zT := zT_in (List.mem_of_getElem? (i := 371) (by decide +kernel)) (by decide +kernel)
theorem ml_X7_31 : Cond.methodLink RX7 31 yX7_nextToken ∈ zT := zT_in (List.mem_of_getElem? (i := 375) (by decide +kernel)) (by decide +kernel)
theorem ml_X7_37 : Cond.methodLink RX7 37 yX7_readItem ∈ zT := zT_in (List.mem_of_getElem? (i := 396) (by decide +kernel)) (by decide +kernel)
theorem ml_X7_47 : Cond.methodLink RX7 47 yX7_readRooms ∈ zT := zT_in (List.mem_of_getElem? (i := 400) (by decide +kernel)) (by decide +kernel)
theorem ml_X7_50 : Cond.methodLink RX7 50 yX7_readPath ∈ zT := zT_in (List.mem_of_getElem? (i := 412) (by decide +kernel)) (by decide +kernel)
theorem ml_X7_54 : Cond.methodLink RX7 54 yX7_readDirector ∈ zT := zT_in (List.mem_of_getElem? (i := 424) (by decide +kernel)) (by decide +kernel)
theorem ml_X7_57 : Cond.methodLink RX7 57 yX7_readFriends ∈ zT := zT_in (List.mem_of_getElem? (i := 432) (by decide +kernel)) (by decide +kernel)
theorem ml_X7_60 : Cond.methodLink RX7 60 yX7_readChild ∈ zT := zT_in (List.mem_of_getElem? (i := 444) (by decide +kernel)) (by decide +kernel)
theorem ml_X7_63 : Cond.methodLink RX7 63 yX7_readNumber ∈ zT := zT_in (List.mem_of_getElem? (i := 404) (by decide +kernel)) (by decide +kernel)
theorem ml_X7_67 : Cond.methodLink RX7 67 yX7_readStop ∈ zT := zT_in (List.mem_of_getElem? (i := 408) (by decide +kernel)) (by decide +kernel)
theorem ml_X7_76 : Cond.methodLink RX7 76 yX7_refuseAlike ∈ zT := zT_in (List.mem_of_getElem? (i := 416) (by decide +kernel)) (by decide +kernel)
theorem ml_X7_80 : Cond.methodLink RX7 80 yX4_addPath ∈ zT := zT_in (List.mem_of_getElem? (i := 420) (by decide +kernel)) (by decide +kernel)
theorem ml_X7_87 : Cond.methodLink RX7 87 yX4_addDirector ∈ zT := zT_in (List.mem_of_getElem? (i := 428) (by decide +kernel)) (by decide +kernel)
theorem ml_X7_91 : Cond.methodLink RX7 91 yX4_addFriends ∈ zT := zT_in (List.mem_of_getElem? (i := 436) (by decide +kernel)) (by decide +kernel)
theorem ml_X7_97 : Cond.methodLink RX7 97 yX4_addChild ∈ zT := zT_in (List.mem_of_getElem? (i := 448) (by decide +kernel)) (by decide +kernel)
theorem ml_X7_101 : Cond.methodLink RX7 101 yX7_isLetter ∈ zT := zT_in (List.mem_of_getElem? (i := 379) (by decide +kernel)) (by decide +kernel)
theorem ml_X7_105 : Cond.methodLink RX7 105 yX7_takeLetters ∈ zT := zT_in (List.mem_of_getElem? (i := 382) (by decide +kernel)) (by decide +kernel)
theorem ml_X7_108 : Cond.methodLink RX7 108 yX7_isDigit ∈ zT := zT_in (List.mem_of_getElem? (i := 386) (by decide +kernel)) (by decide +kernel)
theorem ml_X7_111 : Cond.methodLink RX7 111 yX7_takeNumber ∈ zT := zT_in (List.mem_of_getElem? (i := 389) (by decide +kernel)) (by decide +kernel)
theorem ml_X7_114 : Cond.methodLink RX7 114 Lib.Math.min.name ∈ zT := zT_in (List.mem_of_getElem? (i := 393) (by decide +kernel)) (by decide +kernel)
theorem ml_X8_3 : Cond.methodLink RX8 3 objectInit ∈ zT := zT_in (List.mem_of_getElem? (i := 262) (by decide +kernel)) (by decide +kernel)
theorem ml_X8_37 : Cond.methodLink RX8 37 yX8_lessen ∈ zT := zT_in (List.mem_of_getElem? (i := 583) (by decide +kernel)) (by decide +kernel)
theorem ml_X8_41 : Cond.methodLink RX8 41 Lib.Math.min.name ∈ zT := zT_in (List.mem_of_getElem? (i := 587) (by decide +kernel)) (by decide +kernel)
theorem ml_X8_61 : Cond.methodLink RX8 61 yX8_findFrom ∈ zT := zT_in (List.mem_of_getElem? (i := 578) (by decide +kernel)) (by decide +kernel)
theorem ml_X8_65 : Cond.methodLink RX8 65 yX8_leadTo ∈ zT := zT_in (List.mem_of_getElem? (i := 588) (by decide +kernel)) (by decide +kernel)
theorem ml_X8_69 : Cond.methodLink RX8 69 yX8_wearinessTo ∈ zT := zT_in (List.mem_of_getElem? (i := 592) (by decide +kernel)) (by decide +kernel)
theorem ml_L_9 : Cond.methodLink RL 9 yX9_init ∈ zT := zT_in (List.mem_of_getElem? (i := 77) (by decide +kernel)) (by decide +kernel)
theorem ml_L_12 : Cond.methodLink RL 12 yX10_init ∈ zT := zT_in (List.mem_of_getElem? (i := 756) (by decide +kernel)) (by decide +kernel)
theorem ml_L_13 : Cond.methodLink RL 13 yX9_type ∈ zT := zT_in (List.mem_of_getElem? (i := 347) (by decide +kernel)) (by decide +kernel)
theorem ml_L_17 : Cond.methodLink RL 17 yX10_type ∈ zT := zT_in (List.mem_of_getElem? (i := 864) (by decide +kernel)) (by decide +kernel)
theorem ml_L_18 : Cond.methodLink RL 18 yX9_clear ∈ zT := zT_in (List.mem_of_getElem? (i := 355) (by decide +kernel)) (by decide +kernel)
theorem ml_L_22 : Cond.methodLink RL 22 yX10_clear ∈ zT := zT_in (List.mem_of_getElem? (i := 872) (by decide +kernel)) (by decide +kernel)
theorem ml_L_23 : Cond.methodLink RL 23 yX9_house ∈ zT := zT_in (List.mem_of_getElem? (i := 363) (by decide +kernel)) (by decide +kernel)
theorem ml_L_26 : Cond.methodLink RL 26 yX10_house ∈ zT := zT_in (List.mem_of_getElem? (i := 876) (by decide +kernel)) (by decide +kernel)
theorem ml_L_27 : Cond.methodLink RL 27 yX9_path ∈ zT := zT_in (List.mem_of_getElem? (i := 459) (by decide +kernel)) (by decide +kernel)
theorem ml_L_31 : Cond.methodLink RL 31 yX10_path ∈ zT := zT_in (List.mem_of_getElem? (i := 934) (by decide +kernel)) (by decide +kernel)
theorem ml_L_32 : Cond.methodLink RL 32 yX9_director ∈ zT := zT_in (List.mem_of_getElem? (i := 479) (by decide +kernel)) (by decide +kernel)
theorem ml_L_35 : Cond.methodLink RL 35 yX10_director ∈ zT := zT_in (List.mem_of_getElem? (i := 955) (by decide +kernel)) (by decide +kernel)
theorem ml_L_36 : Cond.methodLink RL 36 yX9_child ∈ zT := zT_in (List.mem_of_getElem? (i := 488) (by decide +kernel)) (by decide +kernel)
theorem ml_L_39 : Cond.methodLink RL 39 yX10_child ∈ zT := zT_in (List.mem_of_getElem? (i := 979) (by decide +kernel)) (by decide +kernel)
theorem ml_L_40 : Cond.methodLink RL 40 yX9_goes ∈ zT := zT_in (List.mem_of_getElem? (i := 496) (by decide +kernel)) (by decide +kernel)
theorem ml_L_43 : Cond.methodLink RL 43 yX10_goes ∈ zT := zT_in (List.mem_of_getElem? (i := 983) (by decide +kernel)) (by decide +kernel)
theorem ml_L_44 : Cond.methodLink RL 44 yX9_rests ∈ zT := zT_in (List.mem_of_getElem? (i := 517) (by decide +kernel)) (by decide +kernel)
theorem ml_L_47 : Cond.methodLink RL 47 yX10_rests ∈ zT := zT_in (List.mem_of_getElem? (i := 995) (by decide +kernel)) (by decide +kernel)
theorem ml_L_48 : Cond.methodLink RL 48 yX9_offends ∈ zT := zT_in (List.mem_of_getElem? (i := 521) (by decide +kernel)) (by decide +kernel)
theorem ml_L_52 : Cond.methodLink RL 52 yX10_offends ∈ zT := zT_in (List.mem_of_getElem? (i := 999) (by decide +kernel)) (by decide +kernel)
theorem ml_L_53 : Cond.methodLink RL 53 yX9_shifts ∈ zT := zT_in (List.mem_of_getElem? (i := 530) (by decide +kernel)) (by decide +kernel)
theorem ml_L_56 : Cond.methodLink RL 56 yX10_shifts ∈ zT := zT_in (List.mem_of_getElem? (i := 1004) (by decide +kernel)) (by decide +kernel)
theorem ml_L_57 : Cond.methodLink RL 57 yX9_calls ∈ zT := zT_in (List.mem_of_getElem? (i := 534) (by decide +kernel)) (by decide +kernel)
theorem ml_L_60 : Cond.methodLink RL 60 yX10_calls ∈ zT := zT_in (List.mem_of_getElem? (i := 1008) (by decide +kernel)) (by decide +kernel)
theorem ml_L_61 : Cond.methodLink RL 61 yX9_undo ∈ zT := zT_in (List.mem_of_getElem? (i := 562) (by decide +kernel)) (by decide +kernel)
theorem ml_L_64 : Cond.methodLink RL 64 yX10_undo ∈ zT := zT_in (List.mem_of_getElem? (i := 1026) (by decide +kernel)) (by decide +kernel)
theorem ml_L_65 : Cond.methodLink RL 65 yX9_now ∈ zT := zT_in (List.mem_of_getElem? (i := 570) (by decide +kernel)) (by decide +kernel)
theorem ml_L_68 : Cond.methodLink RL 68 yX10_now ∈ zT := zT_in (List.mem_of_getElem? (i := 1030) (by decide +kernel)) (by decide +kernel)
theorem ml_L_69 : Cond.methodLink RL 69 yX9_way ∈ zT := zT_in (List.mem_of_getElem? (i := 609) (by decide +kernel)) (by decide +kernel)
theorem ml_L_72 : Cond.methodLink RL 72 yX10_way ∈ zT := zT_in (List.mem_of_getElem? (i := 1046) (by decide +kernel)) (by decide +kernel)
theorem ml_L_73 : Cond.methodLink RL 73 yX9_edge ∈ zT := zT_in (List.mem_of_getElem? (i := 620) (by decide +kernel)) (by decide +kernel)
theorem ml_L_76 : Cond.methodLink RL 76 yX10_edge ∈ zT := zT_in (List.mem_of_getElem? (i := 1050) (by decide +kernel)) (by decide +kernel)
theorem ml_L_77 : Cond.methodLink RL 77 yX9_spread ∈ zT := zT_in (List.mem_of_getElem? (i := 624) (by decide +kernel)) (by decide +kernel)
theorem ml_L_80 : Cond.methodLink RL 80 yX10_spread ∈ zT := zT_in (List.mem_of_getElem? (i := 1058) (by decide +kernel)) (by decide +kernel)
theorem ml_L_81 : Cond.methodLink RL 81 yX9_pair ∈ zT := zT_in (List.mem_of_getElem? (i := 629) (by decide +kernel)) (by decide +kernel)
theorem ml_L_84 : Cond.methodLink RL 84 yX10_pair ∈ zT := zT_in (List.mem_of_getElem? (i := 1062) (by decide +kernel)) (by decide +kernel)
theorem ml_L_85 : Cond.methodLink RL 85 yX9_odds ∈ zT := zT_in (List.mem_of_getElem? (i := 654) (by decide +kernel)) (by decide +kernel)
theorem ml_L_88 : Cond.methodLink RL 88 yX10_odds ∈ zT := zT_in (List.mem_of_getElem? (i := 1074) (by decide +kernel)) (by decide +kernel)
theorem ml_L_89 : Cond.methodLink RL 89 yX9_hears ∈ zT := zT_in (List.mem_of_getElem? (i := 669) (by decide +kernel)) (by decide +kernel)
theorem ml_L_92 : Cond.methodLink RL 92 yX10_hears ∈ zT := zT_in (List.mem_of_getElem? (i := 1080) (by decide +kernel)) (by decide +kernel)
theorem ml_L_93 : Cond.methodLink RL 93 yX9_forget ∈ zT := zT_in (List.mem_of_getElem? (i := 677) (by decide +kernel)) (by decide +kernel)
theorem ml_L_96 : Cond.methodLink RL 96 yX10_forget ∈ zT := zT_in (List.mem_of_getElem? (i := 1084) (by decide +kernel)) (by decide +kernel)
theorem ml_L_97 : Cond.methodLink RL 97 yX9_who ∈ zT := zT_in (List.mem_of_getElem? (i := 681) (by decide +kernel)) (by decide +kernel)
theorem ml_L_100 : Cond.methodLink RL 100 yX10_who ∈ zT := zT_in (List.mem_of_getElem? (i := 1088) (by decide +kernel)) (by decide +kernel)
theorem ml_L_101 : Cond.methodLink RL 101 yX9_ask ∈ zT := zT_in (List.mem_of_getElem? (i := 685) (by decide +kernel)) (by decide +kernel)
theorem ml_L_104 : Cond.methodLink RL 104 yX10_ask ∈ zT := zT_in (List.mem_of_getElem? (i := 1096) (by decide +kernel)) (by decide +kernel)
theorem ml_L_105 : Cond.methodLink RL 105 yX9_mark ∈ zT := zT_in (List.mem_of_getElem? (i := 691) (by decide +kernel)) (by decide +kernel)
theorem ml_L_108 : Cond.methodLink RL 108 yX10_mark ∈ zT := zT_in (List.mem_of_getElem? (i := 1100) (by decide +kernel)) (by decide +kernel)
theorem ml_L_109 : Cond.methodLink RL 109 yX9_keep ∈ zT := zT_in (List.mem_of_getElem? (i := 725) (by decide +kernel)) (by decide +kernel)
theorem ml_L_112 : Cond.methodLink RL 112 yX10_keep ∈ zT := zT_in (List.mem_of_getElem? (i := 1119) (by decide +kernel)) (by decide +kernel)
theorem ml_L_113 : Cond.methodLink RL 113 yX9_back ∈ zT := zT_in (List.mem_of_getElem? (i := 738) (by decide +kernel)) (by decide +kernel)
theorem ml_L_116 : Cond.methodLink RL 116 yX10_back ∈ zT := zT_in (List.mem_of_getElem? (i := 1123) (by decide +kernel)) (by decide +kernel)
theorem ml_L_117 : Cond.methodLink RL 117 yX9_count ∈ zT := zT_in (List.mem_of_getElem? (i := 746) (by decide +kernel)) (by decide +kernel)
theorem ml_L_120 : Cond.methodLink RL 120 yX10_count ∈ zT := zT_in (List.mem_of_getElem? (i := 1127) (by decide +kernel)) (by decide +kernel)
theorem ml_L_121 : Cond.methodLink RL 121 yX9_trace ∈ zT := zT_in (List.mem_of_getElem? (i := 750) (by decide +kernel)) (by decide +kernel)
theorem ml_L_125 : Cond.methodLink RL 125 yX10_trace ∈ zT := zT_in (List.mem_of_getElem? (i := 1131) (by decide +kernel)) (by decide +kernel)
theorem ml_X10_1 : Cond.methodLink RX10 1 objectInit ∈ zT := zT_in (List.mem_of_getElem? (i := 759) (by decide +kernel)) (by decide +kernel)
theorem ml_X10_69 : Cond.methodLink RX10 69 yX10_in ∈ zT := zT_in (List.mem_of_getElem? (i := 869) (by decide +kernel)) (by decide +kernel)
theorem ml_X10_76 : Cond.methodLink RX10 76 yX10_of ∈ zT := zT_in (List.mem_of_getElem? (i := 947) (by decide +kernel)) (by decide +kernel)
theorem ml_X10_94 : Cond.methodLink RX10 94 yX10_isFigure ∈ zT := zT_in (List.mem_of_getElem? (i := 884) (by decide +kernel)) (by decide +kernel)
theorem ml_X10_98 : Cond.methodLink RX10 98 yX10_isLetter ∈ zT := zT_in (List.mem_of_getElem? (i := 887) (by decide +kernel)) (by decide +kernel)
theorem ml_X10_101 : Cond.methodLink RX10 101 yX10_next ∈ zT := zT_in (List.mem_of_getElem? (i := 880) (by decide +kernel)) (by decide +kernel)
theorem ml_X10_104 : Cond.methodLink RX10 104 yX10_must ∈ zT := zT_in (List.mem_of_getElem? (i := 894) (by decide +kernel)) (by decide +kernel)
theorem ml_X10_108 : Cond.methodLink RX10 108 yX10_goOn ∈ zT := zT_in (List.mem_of_getElem? (i := 898) (by decide +kernel)) (by decide +kernel)
theorem ml_X10_117 : Cond.methodLink RX10 117 yX10_number ∈ zT := zT_in (List.mem_of_getElem? (i := 902) (by decide +kernel)) (by decide +kernel)
theorem ml_X10_120 : Cond.methodLink RX10 120 yX10_unlike ∈ zT := zT_in (List.mem_of_getElem? (i := 914) (by decide +kernel)) (by decide +kernel)
theorem ml_X10_123 : Cond.methodLink RX10 123 yX10_end ∈ zT := zT_in (List.mem_of_getElem? (i := 906) (by decide +kernel)) (by decide +kernel)
theorem ml_X10_141 : Cond.methodLink RX10 141 yX10_readRooms ∈ zT := zT_in (List.mem_of_getElem? (i := 890) (by decide +kernel)) (by decide +kernel)
theorem ml_X10_145 : Cond.methodLink RX10 145 yX10_readPath ∈ zT := zT_in (List.mem_of_getElem? (i := 910) (by decide +kernel)) (by decide +kernel)
theorem ml_X10_148 : Cond.methodLink RX10 148 yX10_readDirector ∈ zT := zT_in (List.mem_of_getElem? (i := 918) (by decide +kernel)) (by decide +kernel)
theorem ml_X10_151 : Cond.methodLink RX10 151 yX10_readFriends ∈ zT := zT_in (List.mem_of_getElem? (i := 922) (by decide +kernel)) (by decide +kernel)
theorem ml_X10_154 : Cond.methodLink RX10 154 yX10_readChild ∈ zT := zT_in (List.mem_of_getElem? (i := 926) (by decide +kernel)) (by decide +kernel)
theorem ml_X10_157 : Cond.methodLink RX10 157 yX10_take ∈ zT := zT_in (List.mem_of_getElem? (i := 930) (by decide +kernel)) (by decide +kernel)
theorem ml_X10_160 : Cond.methodLink RX10 160 yX10_strength ∈ zT := zT_in (List.mem_of_getElem? (i := 951) (by decide +kernel)) (by decide +kernel)
theorem ml_X10_164 : Cond.methodLink RX10 164 yX10_may ∈ zT := zT_in (List.mem_of_getElem? (i := 943) (by decide +kernel)) (by decide +kernel)
theorem ml_X10_168 : Cond.methodLink RX10 168 yX10_lay ∈ zT := zT_in (List.mem_of_getElem? (i := 975) (by decide +kernel)) (by decide +kernel)
theorem ml_X10_171 : Cond.methodLink RX10 171 yX10_has ∈ zT := zT_in (List.mem_of_getElem? (i := 1023) (by decide +kernel)) (by decide +kernel)
theorem ml_X10_174 : Cond.methodLink RX10 174 yX10_isPath ∈ zT := zT_in (List.mem_of_getElem? (i := 938) (by decide +kernel)) (by decide +kernel)
theorem ml_X10_179 : Cond.methodLink RX10 179 yX10_isDirector ∈ zT := zT_in (List.mem_of_getElem? (i := 959) (by decide +kernel)) (by decide +kernel)
theorem ml_X10_182 : Cond.methodLink RX10 182 yX10_gravity ∈ zT := zT_in (List.mem_of_getElem? (i := 963) (by decide +kernel)) (by decide +kernel)
theorem ml_X10_185 : Cond.methodLink RX10 185 yX10_friends ∈ zT := zT_in (List.mem_of_getElem? (i := 967) (by decide +kernel)) (by decide +kernel)
theorem ml_X10_188 : Cond.methodLink RX10 188 yX10_reach ∈ zT := zT_in (List.mem_of_getElem? (i := 971) (by decide +kernel)) (by decide +kernel)
theorem ml_X10_191 : Cond.methodLink RX10 191 yX10_other ∈ zT := zT_in (List.mem_of_getElem? (i := 987) (by decide +kernel)) (by decide +kernel)
theorem ml_X10_194 : Cond.methodLink RX10 194 yX10_keepPast ∈ zT := zT_in (List.mem_of_getElem? (i := 991) (by decide +kernel)) (by decide +kernel)
theorem ml_X10_199 : Cond.methodLink RX10 199 yX10_bits ∈ zT := zT_in (List.mem_of_getElem? (i := 1020) (by decide +kernel)) (by decide +kernel)
theorem ml_X10_202 : Cond.methodLink RX10 202 yX10_isRoom ∈ zT := zT_in (List.mem_of_getElem? (i := 1012) (by decide +kernel)) (by decide +kernel)
theorem ml_X10_205 : Cond.methodLink RX10 205 yX10_spreadOf ∈ zT := zT_in (List.mem_of_getElem? (i := 1016) (by decide +kernel)) (by decide +kernel)
theorem ml_X10_214 : Cond.methodLink RX10 214 yX10_meet ∈ zT := zT_in (List.mem_of_getElem? (i := 1034) (by decide +kernel)) (by decide +kernel)
theorem ml_X10_217 : Cond.methodLink RX10 217 yX10_fewestToAll ∈ zT := zT_in (List.mem_of_getElem? (i := 1038) (by decide +kernel)) (by decide +kernel)
theorem ml_X10_221 : Cond.methodLink RX10 221 yX10_stones ∈ zT := zT_in (List.mem_of_getElem? (i := 1042) (by decide +kernel)) (by decide +kernel)
theorem ml_X10_224 : Cond.methodLink RX10 224 yX10_widest ∈ zT := zT_in (List.mem_of_getElem? (i := 1054) (by decide +kernel)) (by decide +kernel)
theorem ml_X10_227 : Cond.methodLink RX10 227 yX10_fit ∈ zT := zT_in (List.mem_of_getElem? (i := 1070) (by decide +kernel)) (by decide +kernel)
theorem ml_X10_230 : Cond.methodLink RX10 230 yX10_layPairs ∈ zT := zT_in (List.mem_of_getElem? (i := 1066) (by decide +kernel)) (by decide +kernel)
theorem ml_X10_237 : Cond.methodLink RX10 237 yX10_whoBits ∈ zT := zT_in (List.mem_of_getElem? (i := 1092) (by decide +kernel)) (by decide +kernel)
theorem ml_X10_251 : Cond.methodLink RX10 251 yX10_founder ∈ zT := zT_in (List.mem_of_getElem? (i := 1106) (by decide +kernel)) (by decide +kernel)
theorem ml_X10_254 : Cond.methodLink RX10 254 yX10_chair ∈ zT := zT_in (List.mem_of_getElem? (i := 1111) (by decide +kernel)) (by decide +kernel)
theorem kc_X9_276 : Cond.constant RX9 276 (Int32.ofInt (-1000000)) ∈ zT := zT_in (List.mem_of_getElem? (i := 695) (by decide +kernel)) (by decide +kernel)
theorem kc_X9_309 : Cond.constantLong RX9 309 (Int64.ofInt (10)) ∈ zT := zT_in (List.mem_of_getElem? (i := 704) (by decide +kernel)) (by decide +kernel)
theorem kc_X9_311 : Cond.constantLong RX9 311 (Int64.ofInt (100)) ∈ zT := zT_in (List.mem_of_getElem? (i := 709) (by decide +kernel)) (by decide +kernel)
theorem kc_X9_313 : Cond.constantLong RX9 313 (Int64.ofInt (1000)) ∈ zT := zT_in (List.mem_of_getElem? (i := 714) (by decide +kernel)) (by decide +kernel)
theorem kc_X9_315 : Cond.constantLong RX9 315 (Int64.ofInt (10000)) ∈ zT := zT_in (List.mem_of_getElem? (i := 719) (by decide +kernel)) (by decide +kernel)
theorem kc_X9_317 : Cond.constantLong RX9 317 (Int64.ofInt (100000)) ∈ zT := zT_in (List.mem_of_getElem? (i := 724) (by decide +kernel)) (by decide +kernel)
theorem kc_X8_18 : Cond.constant RX8 18 (Int32.ofInt (268435456)) ∈ zT := zT_in (List.mem_of_getElem? (i := 582) (by decide +kernel)) (by decide +kernel)
theorem kc_X10_80 : Cond.constantLong RX10 80 (Int64.ofInt (255)) ∈ zT := zT_in (List.mem_of_getElem? (i := 868) (by decide +kernel)) (by decide +kernel)
theorem kc_X10_177 : Cond.constantLong RX10 177 (Int64.ofInt (3)) ∈ zT := zT_in (List.mem_of_getElem? (i := 942) (by decide +kernel)) (by decide +kernel)
theorem kc_X10_197 : Cond.constantLong RX10 197 (Int64.ofInt (9)) ∈ zT := zT_in (List.mem_of_getElem? (i := 1003) (by decide +kernel)) (by decide +kernel)
theorem kc_X10_233 : Cond.constantLong RX10 233 (Int64.ofInt (10)) ∈ zT := zT_in (List.mem_of_getElem? (i := 1078) (by decide +kernel)) (by decide +kernel)
theorem kc_X10_235 : Cond.constantLong RX10 235 (Int64.ofInt (4)) ∈ zT := zT_in (List.mem_of_getElem? (i := 1079) (by decide +kernel)) (by decide +kernel)
theorem kc_X10_244 : Cond.constantLong RX10 244 (Int64.ofInt (11)) ∈ zT := zT_in (List.mem_of_getElem? (i := 1110) (by decide +kernel)) (by decide +kernel)
theorem kc_X10_246 : Cond.constantLong RX10 246 (Int64.ofInt (101)) ∈ zT := zT_in (List.mem_of_getElem? (i := 1115) (by decide +kernel)) (by decide +kernel)
theorem kc_X10_248 : Cond.constantLong RX10 248 (Int64.ofInt (5)) ∈ zT := zT_in (List.mem_of_getElem? (i := 1104) (by decide +kernel)) (by decide +kernel)
theorem kc_X10_250 : Cond.constant RX10 250 (Int32.ofInt (-1000000)) ∈ zT := zT_in (List.mem_of_getElem? (i := 1105) (by decide +kernel)) (by decide +kernel)
theorem kc_X10_257 : Cond.constantLong RX10 257 (Int64.ofInt (1000)) ∈ zT := zT_in (List.mem_of_getElem? (i := 1116) (by decide +kernel)) (by decide +kernel)
theorem kc_X10_259 : Cond.constantLong RX10 259 (Int64.ofInt (10000)) ∈ zT := zT_in (List.mem_of_getElem? (i := 1117) (by decide +kernel)) (by decide +kernel)
theorem kc_X10_261 : Cond.constantLong RX10 261 (Int64.ofInt (100001)) ∈ zT := zT_in (List.mem_of_getElem? (i := 1118) (by decide +kernel)) (by decide +kernel)
theorem kc_J6_265 : Cond.constant RJ6 265 (Int32.ofInt (1431655765)) ∈ zT := zT_in (List.mem_of_getElem? (i := 553) (by decide +kernel)) (by decide +kernel)
theorem kc_J6_266 : Cond.constant RJ6 266 (Int32.ofInt (858993459)) ∈ zT := zT_in (List.mem_of_getElem? (i := 554) (by decide +kernel)) (by decide +kernel)
theorem kc_J6_267 : Cond.constant RJ6 267 (Int32.ofInt (252645135)) ∈ zT := zT_in (List.mem_of_getElem? (i := 555) (by decide +kernel)) (by decide +kernel)
theorem lc_X9_7 : Cond.classLink RX9 7 RX7 ∈ zT := zT_in (List.mem_of_getElem? (i := 83) (by decide +kernel)) (by decide +kernel)
theorem lc_X9_16 : Cond.classLink RX9 16 RX4 ∈ zT := zT_in (List.mem_of_getElem? (i := 113) (by decide +kernel)) (by decide +kernel)
theorem lc_X9_26 : Cond.classLink RX9 26 RX6 ∈ zT := zT_in (List.mem_of_getElem? (i := 185) (by decide +kernel)) (by decide +kernel)
theorem lc_X9_33 : Cond.classLink RX9 33 RX3 ∈ zT := zT_in (List.mem_of_getElem? (i := 219) (by decide +kernel)) (by decide +kernel)
theorem lc_X9_40 : Cond.classLink RX9 40 RX5 ∈ zT := zT_in (List.mem_of_getElem? (i := 236) (by decide +kernel)) (by decide +kernel)
theorem lc_X9_46 : Cond.classLink RX9 46 RX2 ∈ zT := zT_in (List.mem_of_getElem? (i := 238) (by decide +kernel)) (by decide +kernel)
theorem lc_X9_53 : Cond.classLink RX9 53 RX8 ∈ zT := zT_in (List.mem_of_getElem? (i := 257) (by decide +kernel)) (by decide +kernel)
theorem lc_X9_60 : Cond.classLink RX9 60 RX0 ∈ zT := zT_in (List.mem_of_getElem? (i := 278) (by decide +kernel)) (by decide +kernel)
theorem lc_X3_9 : Cond.classLink RX3 9 RX6 ∈ zT := zT_in (List.mem_of_getElem? (i := 225) (by decide +kernel)) (by decide +kernel)
theorem lc_X5_7 : Cond.classLink RX5 7 RX6 ∈ zT := zT_in (List.mem_of_getElem? (i := 301) (by decide +kernel)) (by decide +kernel)
theorem lc_X5_16 : Cond.classLink RX5 16 RX3 ∈ zT := zT_in (List.mem_of_getElem? (i := 303) (by decide +kernel)) (by decide +kernel)
theorem lc_L_7 : Cond.classLink RL 7 RX9 ∈ zT := zT_in (List.mem_of_getElem? (i := 75) (by decide +kernel)) (by decide +kernel)
theorem lc_L_10 : Cond.classLink RL 10 RX10 ∈ zT := zT_in (List.mem_of_getElem? (i := 754) (by decide +kernel)) (by decide +kernel)
theorem kobj : Cond.instanceMethod objectInit ∈ zT ∧ Cond.code objectInit ⟨#[0xb1]⟩ 1 none ∈ zT := ⟨zT_in (List.mem_of_getElem? (i := 81) (by decide +kernel)) (by decide +kernel), zT_in (List.mem_of_getElem? (i := 82) (by decide +kernel)) (by decide +kernel)⟩
theorem kmax : Cond.static Lib.Math.max.name ∈ zT ∧ Cond.initialized "java/lang/Math" ∈ zT ∧ Cond.code Lib.Math.max.name Lib.Math.max.code 2 (some .int) ∈ zT := ⟨zT_in (List.mem_of_getElem? (i := 557) (by decide +kernel)) (by decide +kernel), zT_in (List.mem_of_getElem? (i := 72) (by decide +kernel)) (by decide +kernel), zT_in (List.mem_of_getElem? (i := 558) (by decide +kernel)) (by decide +kernel)⟩
theorem kmin : Cond.static Lib.Math.min.name ∈ zT ∧ Cond.initialized "java/lang/Math" ∈ zT ∧ Cond.code Lib.Math.min.name Lib.Math.min.code 2 (some .int) ∈ zT := ⟨zT_in (List.mem_of_getElem? (i := 394) (by decide +kernel)) (by decide +kernel), zT_in (List.mem_of_getElem? (i := 72) (by decide +kernel)) (by decide +kernel), zT_in (List.mem_of_getElem? (i := 395) (by decide +kernel)) (by decide +kernel)⟩
theorem karrI : Cond.arrayClass .int ∈ zT := zT_in (List.mem_of_getElem? (i := 112) (by decide +kernel)) (by decide +kernel)
theorem karrZ : Cond.arrayClass .boolean ∈ zT := zT_in (List.mem_of_getElem? (i := 863) (by decide +kernel)) (by decide +kernel)
