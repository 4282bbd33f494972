theorem k_m1 : Int32.ofInt (-1) = (-1) := by decide +kernel
theorem k_0 : Int32.ofInt (0) = 0 := by decide +kernel
theorem k_1 : Int32.ofInt (1) = 1 := by decide +kernel
theorem k_2 : Int32.ofInt (2) = 2 := by decide +kernel
theorem k_3 : Int32.ofInt (3) = 3 := by decide +kernel
theorem k_4 : Int32.ofInt (4) = 4 := by decide +kernel
theorem k_5 : Int32.ofInt (5) = 5 := by decide +kernel
theorem kb_m124 : (Int8.ofInt (-124)).toInt32 = (-124) := by decide +kernel
theorem kb_m38 : (Int8.ofInt (-38)).toInt32 = (-38) := by decide +kernel
theorem kb_m33 : (Int8.ofInt (-33)).toInt32 = (-33) := by decide +kernel
theorem kb_m10 : (Int8.ofInt (-10)).toInt32 = (-10) := by decide +kernel
theorem kb_m3 : (Int8.ofInt (-3)).toInt32 = (-3) := by decide +kernel
theorem kb_6 : (Int8.ofInt (6)).toInt32 = 6 := by decide +kernel
theorem kb_7 : (Int8.ofInt (7)).toInt32 = 7 := by decide +kernel
theorem kb_8 : (Int8.ofInt (8)).toInt32 = 8 := by decide +kernel
theorem kb_9 : (Int8.ofInt (9)).toInt32 = 9 := by decide +kernel
theorem kb_10 : (Int8.ofInt (10)).toInt32 = 10 := by decide +kernel
theorem kb_11 : (Int8.ofInt (11)).toInt32 = 11 := by decide +kernel
theorem kb_12 : (Int8.ofInt (12)).toInt32 = 12 := by decide +kernel
theorem kb_13 : (Int8.ofInt (13)).toInt32 = 13 := by decide +kernel
theorem kb_15 : (Int8.ofInt (15)).toInt32 = 15 := by decide +kernel
theorem kb_16 : (Int8.ofInt (16)).toInt32 = 16 := by decide +kernel
theorem kb_19 : (Int8.ofInt (19)).toInt32 = 19 := by decide +kernel
theorem kb_20 : (Int8.ofInt (20)).toInt32 = 20 := by decide +kernel
theorem kb_21 : (Int8.ofInt (21)).toInt32 = 21 := by decide +kernel
theorem kb_24 : (Int8.ofInt (24)).toInt32 = 24 := by decide +kernel
theorem kb_27 : (Int8.ofInt (27)).toInt32 = 27 := by decide +kernel
theorem kb_30 : (Int8.ofInt (30)).toInt32 = 30 := by decide +kernel
theorem kb_32 : (Int8.ofInt (32)).toInt32 = 32 := by decide +kernel
theorem kb_33 : (Int8.ofInt (33)).toInt32 = 33 := by decide +kernel
theorem kb_37 : (Int8.ofInt (37)).toInt32 = 37 := by decide +kernel
theorem kb_38 : (Int8.ofInt (38)).toInt32 = 38 := by decide +kernel
theorem kb_40 : (Int8.ofInt (40)).toInt32 = 40 := by decide +kernel
theorem kb_41 : (Int8.ofInt (41)).toInt32 = 41 := by decide +kernel
theorem kb_42 : (Int8.ofInt (42)).toInt32 = 42 := by decide +kernel
theorem kb_43 : (Int8.ofInt (43)).toInt32 = 43 := by decide +kernel
theorem kb_45 : (Int8.ofInt (45)).toInt32 = 45 := by decide +kernel
theorem kb_47 : (Int8.ofInt (47)).toInt32 = 47 := by decide +kernel
theorem kb_48 : (Int8.ofInt (48)).toInt32 = 48 := by decide +kernel
theorem kb_50 : (Int8.ofInt (50)).toInt32 = 50 := by decide +kernel
theorem kb_51 : (Int8.ofInt (51)).toInt32 = 51 := by decide +kernel
theorem kb_57 : (Int8.ofInt (57)).toInt32 = 57 := by decide +kernel
theorem kb_60 : (Int8.ofInt (60)).toInt32 = 60 := by decide +kernel
theorem kb_61 : (Int8.ofInt (61)).toInt32 = 61 := by decide +kernel
theorem kb_62 : (Int8.ofInt (62)).toInt32 = 62 := by decide +kernel
theorem kb_63 : (Int8.ofInt (63)).toInt32 = 63 := by decide +kernel
theorem kb_69 : (Int8.ofInt (69)).toInt32 = 69 := by decide +kernel
theorem kb_70 : (Int8.ofInt (70)).toInt32 = 70 := by decide +kernel
theorem kb_71 : (Int8.ofInt (71)).toInt32 = 71 := by decide +kernel
theorem kb_99 : (Int8.ofInt (99)).toInt32 = 99 := by decide +kernel
theorem kb_102 : (Int8.ofInt (102)).toInt32 = 102 := by decide +kernel
theorem kb_119 : (Int8.ofInt (119)).toInt32 = 119 := by decide +kernel
theorem kb_121 : (Int8.ofInt (121)).toInt32 = 121 := by decide +kernel
theorem kb_124 : (Int8.ofInt (124)).toInt32 = 124 := by decide +kernel
theorem ks_129 : (Int16.ofInt (129)).toInt32 = 129 := by decide +kernel
theorem ks_153 : (Int16.ofInt (153)).toInt32 = 153 := by decide +kernel
theorem ks_255 : (Int16.ofInt (255)).toInt32 = 255 := by decide +kernel
theorem ks_395 : (Int16.ofInt (395)).toInt32 = 395 := by decide +kernel
theorem ks_512 : (Int16.ofInt (512)).toInt32 = 512 := by decide +kernel
theorem ks_9999 : (Int16.ofInt (9999)).toInt32 = 9999 := by decide +kernel
theorem ks_12345 : (Int16.ofInt (12345)).toInt32 = 12345 := by decide +kernel
theorem len_7 : Int32.ofNat 7 = 7 := by decide +kernel
theorem len_24 : Int32.ofNat 24 = 24 := by decide +kernel
theorem len_30 : Int32.ofNat 30 = 30 := by decide +kernel
theorem len_60 : Int32.ofNat 60 = 60 := by decide +kernel
theorem pn_J0 : plainName RJ0 = true := by decide +kernel
theorem pn_J1 : plainName RJ1 = true := by decide +kernel
theorem pn_J6 : plainName RJ6 = true := by decide +kernel
theorem pn_X0 : plainName RX0 = true := by decide +kernel
theorem pn_X1 : plainName RX1 = true := by decide +kernel
theorem pn_X2 : plainName RX2 = true := by decide +kernel
theorem pn_X3 : plainName RX3 = true := by decide +kernel
theorem pn_X4 : plainName RX4 = true := by decide +kernel
theorem pn_X5 : plainName RX5 = true := by decide +kernel
theorem pn_X6 : plainName RX6 = true := by decide +kernel
theorem pn_X7 : plainName RX7 = true := by decide +kernel
theorem pn_X8 : plainName RX8 = true := by decide +kernel
theorem pn_X9 : plainName RX9 = true := by decide +kernel
theorem big_all {ws : List Cond} (ps : List Nat) (hp : ws = ps.filterMap (fun i => lw_tbl[i]?)) (h : ws.all goodWord = true) : ∀ w ∈ ws, w ∈ BIG := by
  intro w hw
  have h1 := List.all_eq_true.mp h w hw
  rw [hp] at hw
  obtain ⟨i, -, hi⟩ := List.mem_filterMap.mp hw
  exact bigAt i hi h1
theorem ws_X0 : ∀ w ∈ u_ws RX0 TX0 (nf 0), w ∈ BIG := big_all [245, 247, 249, 251, 253, 255, 257] (by decide +kernel) (by decide +kernel)
theorem ws_X1 : ∀ w ∈ u_ws RX1 TX1 (nf 1), w ∈ BIG := big_all [129, 131, 133, 135, 137] (by decide +kernel) (by decide +kernel)
theorem ws_X2 : ∀ w ∈ u_ws RX2 TX2 (nf 2), w ∈ BIG := big_all [184, 186, 188, 190, 192, 194, 196, 198, 200, 202, 204, 206, 208, 210, 212] (by decide +kernel) (by decide +kernel)
theorem ws_X3 : ∀ w ∈ u_ws RX3 TX3 (nf 3), w ∈ BIG := big_all [298, 300] (by decide +kernel) (by decide +kernel)
theorem ws_X4 : ∀ w ∈ u_ws RX4 TX4 (nf 4), w ∈ BIG := big_all [277, 279, 281, 283, 285, 287] (by decide +kernel) (by decide +kernel)
theorem ws_X5 : ∀ w ∈ u_ws RX5 TX5 (nf 5), w ∈ BIG := big_all [344, 346, 348] (by decide +kernel) (by decide +kernel)
theorem ws_X6 : ∀ w ∈ u_ws RX6 TX6 (nf 6), w ∈ BIG := big_all [318, 320, 322, 324, 326, 328] (by decide +kernel) (by decide +kernel)
theorem ws_X7 : ∀ w ∈ u_ws RX7 TX7 (nf 7), w ∈ BIG := big_all [226, 228] (by decide +kernel) (by decide +kernel)
theorem ws_X8 : ∀ w ∈ u_ws RX8 TX8 (nf 8), w ∈ BIG := big_all [360, 362, 364, 366, 368, 370, 372, 374, 376] (by decide +kernel) (by decide +kernel)
theorem ws_X9 : ∀ w ∈ u_ws RX9 TX9 (nf 9), w ∈ BIG := big_all [993, 995, 997, 999, 1001, 1003, 1005, 1007, 1009, 1011, 1013, 1015, 1017, 1019, 1021, 1023, 1025, 1027, 1029, 1031, 1033, 1035, 1037] (by decide +kernel) (by decide +kernel)
theorem fg_0_0 : FG 0 0 RX0 TX0 (tyX0 0) := ⟨rfl, by decide +kernel, by decide, ws_X0, tyX0_ok 0 (by decide)⟩
theorem tf_0_0 : tf 0 0 = 1 := by decide +kernel
theorem fg_0_1 : FG 0 1 RX0 TX0 (tyX0 1) := ⟨rfl, by decide +kernel, by decide, ws_X0, tyX0_ok 1 (by decide)⟩
theorem tf_0_1 : tf 0 1 = 1 := by decide +kernel
theorem fg_0_2 : FG 0 2 RX0 TX0 (tyX0 2) := ⟨rfl, by decide +kernel, by decide, ws_X0, tyX0_ok 2 (by decide)⟩
theorem tf_0_2 : tf 0 2 = 1 := by decide +kernel
theorem fg_0_3 : FG 0 3 RX0 TX0 (tyX0 3) := ⟨rfl, by decide +kernel, by decide, ws_X0, tyX0_ok 3 (by decide)⟩
theorem tf_0_3 : tf 0 3 = 1 := by decide +kernel
theorem fg_0_4 : FG 0 4 RX0 TX0 (tyX0 4) := ⟨rfl, by decide +kernel, by decide, ws_X0, tyX0_ok 4 (by decide)⟩
theorem tf_0_4 : tf 0 4 = 1 := by decide +kernel
theorem fg_0_5 : FG 0 5 RX0 TX0 (tyX0 5) := ⟨rfl, by decide +kernel, by decide, ws_X0, tyX0_ok 5 (by decide)⟩
theorem tf_0_5 : tf 0 5 = 0 := by decide +kernel
theorem fg_0_6 : FG 0 6 RX0 TX0 (tyX0 6) := ⟨rfl, by decide +kernel, by decide, ws_X0, tyX0_ok 6 (by decide)⟩
theorem tf_0_6 : tf 0 6 = 0 := by decide +kernel
theorem fg_1_0 : FG 1 0 RX1 TX1 (tyX1 0) := ⟨rfl, by decide +kernel, by decide, ws_X1, tyX1_ok 0 (by decide)⟩
theorem tf_1_0 : tf 1 0 = 1 := by decide +kernel
theorem fg_1_1 : FG 1 1 RX1 TX1 (tyX1 1) := ⟨rfl, by decide +kernel, by decide, ws_X1, tyX1_ok 1 (by decide)⟩
theorem tf_1_1 : tf 1 1 = 0 := by decide +kernel
theorem fg_1_2 : FG 1 2 RX1 TX1 (tyX1 2) := ⟨rfl, by decide +kernel, by decide, ws_X1, tyX1_ok 2 (by decide)⟩
theorem tf_1_2 : tf 1 2 = 1 := by decide +kernel
theorem fg_1_3 : FG 1 3 RX1 TX1 (tyX1 3) := ⟨rfl, by decide +kernel, by decide, ws_X1, tyX1_ok 3 (by decide)⟩
theorem tf_1_3 : tf 1 3 = 1 := by decide +kernel
theorem fg_1_4 : FG 1 4 RX1 TX1 (tyX1 4) := ⟨rfl, by decide +kernel, by decide, ws_X1, tyX1_ok 4 (by decide)⟩
theorem tf_1_4 : tf 1 4 = 0 := by decide +kernel
theorem fg_2_0 : FG 2 0 RX2 TX2 (tyX2 0) := ⟨rfl, by decide +kernel, by decide, ws_X2, tyX2_ok 0 (by decide)⟩
theorem tf_2_0 : tf 2 0 = 1 := by decide +kernel
theorem fg_2_1 : FG 2 1 RX2 TX2 (tyX2 1) := ⟨rfl, by decide +kernel, by decide, ws_X2, tyX2_ok 1 (by decide)⟩
theorem tf_2_1 : tf 2 1 = 1 := by decide +kernel
theorem fg_2_2 : FG 2 2 RX2 TX2 (tyX2 2) := ⟨rfl, by decide +kernel, by decide, ws_X2, tyX2_ok 2 (by decide)⟩
theorem tf_2_2 : tf 2 2 = 1 := by decide +kernel
theorem fg_2_3 : FG 2 3 RX2 TX2 (tyX2 3) := ⟨rfl, by decide +kernel, by decide, ws_X2, tyX2_ok 3 (by decide)⟩
theorem tf_2_3 : tf 2 3 = 1 := by decide +kernel
theorem fg_2_4 : FG 2 4 RX2 TX2 (tyX2 4) := ⟨rfl, by decide +kernel, by decide, ws_X2, tyX2_ok 4 (by decide)⟩
theorem tf_2_4 : tf 2 4 = 1 := by decide +kernel
theorem fg_2_5 : FG 2 5 RX2 TX2 (tyX2 5) := ⟨rfl, by decide +kernel, by decide, ws_X2, tyX2_ok 5 (by decide)⟩
theorem tf_2_5 : tf 2 5 = 1 := by decide +kernel
theorem fg_2_6 : FG 2 6 RX2 TX2 (tyX2 6) := ⟨rfl, by decide +kernel, by decide, ws_X2, tyX2_ok 6 (by decide)⟩
theorem tf_2_6 : tf 2 6 = 1 := by decide +kernel
theorem fg_2_7 : FG 2 7 RX2 TX2 (tyX2 7) := ⟨rfl, by decide +kernel, by decide, ws_X2, tyX2_ok 7 (by decide)⟩
theorem tf_2_7 : tf 2 7 = 1 := by decide +kernel
theorem fg_2_8 : FG 2 8 RX2 TX2 (tyX2 8) := ⟨rfl, by decide +kernel, by decide, ws_X2, tyX2_ok 8 (by decide)⟩
theorem tf_2_8 : tf 2 8 = 1 := by decide +kernel
theorem fg_2_9 : FG 2 9 RX2 TX2 (tyX2 9) := ⟨rfl, by decide +kernel, by decide, ws_X2, tyX2_ok 9 (by decide)⟩
theorem tf_2_9 : tf 2 9 = 1 := by decide +kernel
theorem fg_2_10 : FG 2 10 RX2 TX2 (tyX2 10) := ⟨rfl, by decide +kernel, by decide, ws_X2, tyX2_ok 10 (by decide)⟩
theorem tf_2_10 : tf 2 10 = 0 := by decide +kernel
theorem fg_2_11 : FG 2 11 RX2 TX2 (tyX2 11) := ⟨rfl, by decide +kernel, by decide, ws_X2, tyX2_ok 11 (by decide)⟩
theorem tf_2_11 : tf 2 11 = 0 := by decide +kernel
theorem fg_2_12 : FG 2 12 RX2 TX2 (tyX2 12) := ⟨rfl, by decide +kernel, by decide, ws_X2, tyX2_ok 12 (by decide)⟩
theorem tf_2_12 : tf 2 12 = 0 := by decide +kernel
theorem fg_2_13 : FG 2 13 RX2 TX2 (tyX2 13) := ⟨rfl, by decide +kernel, by decide, ws_X2, tyX2_ok 13 (by decide)⟩
theorem tf_2_13 : tf 2 13 = 0 := by decide +kernel
theorem fg_2_14 : FG 2 14 RX2 TX2 (tyX2 14) := ⟨rfl, by decide +kernel, by decide, ws_X2, tyX2_ok 14 (by decide)⟩
theorem tf_2_14 : tf 2 14 = 0 := by decide +kernel
theorem fg_3_0 : FG 3 0 RX3 TX3 (tyX3 0) := ⟨rfl, by decide +kernel, by decide, ws_X3, tyX3_ok 0 (by decide)⟩
theorem tf_3_0 : tf 3 0 = 1 := by decide +kernel
theorem fg_3_1 : FG 3 1 RX3 TX3 (tyX3 1) := ⟨rfl, by decide +kernel, by decide, ws_X3, tyX3_ok 1 (by decide)⟩
theorem tf_3_1 : tf 3 1 = 1 := by decide +kernel
theorem fg_4_0 : FG 4 0 RX4 TX4 (tyX4 0) := ⟨rfl, by decide +kernel, by decide, ws_X4, tyX4_ok 0 (by decide)⟩
theorem tf_4_0 : tf 4 0 = 1 := by decide +kernel
theorem fg_4_1 : FG 4 1 RX4 TX4 (tyX4 1) := ⟨rfl, by decide +kernel, by decide, ws_X4, tyX4_ok 1 (by decide)⟩
theorem tf_4_1 : tf 4 1 = 2 := by decide +kernel
theorem fg_4_2 : FG 4 2 RX4 TX4 (tyX4 2) := ⟨rfl, by decide +kernel, by decide, ws_X4, tyX4_ok 2 (by decide)⟩
theorem tf_4_2 : tf 4 2 = 2 := by decide +kernel
theorem fg_4_3 : FG 4 3 RX4 TX4 (tyX4 3) := ⟨rfl, by decide +kernel, by decide, ws_X4, tyX4_ok 3 (by decide)⟩
theorem tf_4_3 : tf 4 3 = 0 := by decide +kernel
theorem fg_4_4 : FG 4 4 RX4 TX4 (tyX4 4) := ⟨rfl, by decide +kernel, by decide, ws_X4, tyX4_ok 4 (by decide)⟩
theorem tf_4_4 : tf 4 4 = 0 := by decide +kernel
theorem fg_4_5 : FG 4 5 RX4 TX4 (tyX4 5) := ⟨rfl, by decide +kernel, by decide, ws_X4, tyX4_ok 5 (by decide)⟩
theorem tf_4_5 : tf 4 5 = 0 := by decide +kernel
theorem fg_5_0 : FG 5 0 RX5 TX5 (tyX5 0) := ⟨rfl, by decide +kernel, by decide, ws_X5, tyX5_ok 0 (by decide)⟩
theorem tf_5_0 : tf 5 0 = 1 := by decide +kernel
theorem fg_5_1 : FG 5 1 RX5 TX5 (tyX5 1) := ⟨rfl, by decide +kernel, by decide, ws_X5, tyX5_ok 1 (by decide)⟩
theorem tf_5_1 : tf 5 1 = 0 := by decide +kernel
theorem fg_5_2 : FG 5 2 RX5 TX5 (tyX5 2) := ⟨rfl, by decide +kernel, by decide, ws_X5, tyX5_ok 2 (by decide)⟩
theorem tf_5_2 : tf 5 2 = 0 := by decide +kernel
theorem fg_6_0 : FG 6 0 RX6 TX6 (tyX6 0) := ⟨rfl, by decide +kernel, by decide, ws_X6, tyX6_ok 0 (by decide)⟩
theorem tf_6_0 : tf 6 0 = 1 := by decide +kernel
theorem fg_6_1 : FG 6 1 RX6 TX6 (tyX6 1) := ⟨rfl, by decide +kernel, by decide, ws_X6, tyX6_ok 1 (by decide)⟩
theorem tf_6_1 : tf 6 1 = 0 := by decide +kernel
theorem fg_6_2 : FG 6 2 RX6 TX6 (tyX6 2) := ⟨rfl, by decide +kernel, by decide, ws_X6, tyX6_ok 2 (by decide)⟩
theorem tf_6_2 : tf 6 2 = 0 := by decide +kernel
theorem fg_6_3 : FG 6 3 RX6 TX6 (tyX6 3) := ⟨rfl, by decide +kernel, by decide, ws_X6, tyX6_ok 3 (by decide)⟩
theorem tf_6_3 : tf 6 3 = 0 := by decide +kernel
theorem fg_6_4 : FG 6 4 RX6 TX6 (tyX6 4) := ⟨rfl, by decide +kernel, by decide, ws_X6, tyX6_ok 4 (by decide)⟩
theorem tf_6_4 : tf 6 4 = 0 := by decide +kernel
theorem fg_6_5 : FG 6 5 RX6 TX6 (tyX6 5) := ⟨rfl, by decide +kernel, by decide, ws_X6, tyX6_ok 5 (by decide)⟩
theorem tf_6_5 : tf 6 5 = 0 := by decide +kernel
theorem fg_7_0 : FG 7 0 RX7 TX7 (tyX7 0) := ⟨rfl, by decide +kernel, by decide, ws_X7, tyX7_ok 0 (by decide)⟩
theorem tf_7_0 : tf 7 0 = 1 := by decide +kernel
theorem fg_7_1 : FG 7 1 RX7 TX7 (tyX7 1) := ⟨rfl, by decide +kernel, by decide, ws_X7, tyX7_ok 1 (by decide)⟩
theorem tf_7_1 : tf 7 1 = 0 := by decide +kernel
theorem fg_8_0 : FG 8 0 RX8 TX8 (tyX8 0) := ⟨rfl, by decide +kernel, by decide, ws_X8, tyX8_ok 0 (by decide)⟩
theorem tf_8_0 : tf 8 0 = 1 := by decide +kernel
theorem fg_8_1 : FG 8 1 RX8 TX8 (tyX8 1) := ⟨rfl, by decide +kernel, by decide, ws_X8, tyX8_ok 1 (by decide)⟩
theorem tf_8_1 : tf 8 1 = 1 := by decide +kernel
theorem fg_8_2 : FG 8 2 RX8 TX8 (tyX8 2) := ⟨rfl, by decide +kernel, by decide, ws_X8, tyX8_ok 2 (by decide)⟩
theorem tf_8_2 : tf 8 2 = 1 := by decide +kernel
theorem fg_8_3 : FG 8 3 RX8 TX8 (tyX8 3) := ⟨rfl, by decide +kernel, by decide, ws_X8, tyX8_ok 3 (by decide)⟩
theorem tf_8_3 : tf 8 3 = 1 := by decide +kernel
theorem fg_8_4 : FG 8 4 RX8 TX8 (tyX8 4) := ⟨rfl, by decide +kernel, by decide, ws_X8, tyX8_ok 4 (by decide)⟩
theorem tf_8_4 : tf 8 4 = 1 := by decide +kernel
theorem fg_8_5 : FG 8 5 RX8 TX8 (tyX8 5) := ⟨rfl, by decide +kernel, by decide, ws_X8, tyX8_ok 5 (by decide)⟩
theorem tf_8_5 : tf 8 5 = 1 := by decide +kernel
theorem fg_8_6 : FG 8 6 RX8 TX8 (tyX8 6) := ⟨rfl, by decide +kernel, by decide, ws_X8, tyX8_ok 6 (by decide)⟩
theorem tf_8_6 : tf 8 6 = 1 := by decide +kernel
theorem fg_8_7 : FG 8 7 RX8 TX8 (tyX8 7) := ⟨rfl, by decide +kernel, by decide, ws_X8, tyX8_ok 7 (by decide)⟩
theorem tf_8_7 : tf 8 7 = 1 := by decide +kernel
theorem fg_8_8 : FG 8 8 RX8 TX8 (tyX8 8) := ⟨rfl, by decide +kernel, by decide, ws_X8, tyX8_ok 8 (by decide)⟩
theorem tf_8_8 : tf 8 8 = 0 := by decide +kernel
theorem fg_9_0 : FG 9 0 RX9 TX9 (tyX9 0) := ⟨rfl, by decide +kernel, by decide, ws_X9, tyX9_ok 0 (by decide)⟩
theorem tf_9_0 : tf 9 0 = 1 := by decide +kernel
theorem fg_9_1 : FG 9 1 RX9 TX9 (tyX9 1) := ⟨rfl, by decide +kernel, by decide, ws_X9, tyX9_ok 1 (by decide)⟩
theorem tf_9_1 : tf 9 1 = 1 := by decide +kernel
theorem fg_9_2 : FG 9 2 RX9 TX9 (tyX9 2) := ⟨rfl, by decide +kernel, by decide, ws_X9, tyX9_ok 2 (by decide)⟩
theorem tf_9_2 : tf 9 2 = 1 := by decide +kernel
theorem fg_9_3 : FG 9 3 RX9 TX9 (tyX9 3) := ⟨rfl, by decide +kernel, by decide, ws_X9, tyX9_ok 3 (by decide)⟩
theorem tf_9_3 : tf 9 3 = 0 := by decide +kernel
theorem fg_9_4 : FG 9 4 RX9 TX9 (tyX9 4) := ⟨rfl, by decide +kernel, by decide, ws_X9, tyX9_ok 4 (by decide)⟩
theorem tf_9_4 : tf 9 4 = 1 := by decide +kernel
theorem fg_9_5 : FG 9 5 RX9 TX9 (tyX9 5) := ⟨rfl, by decide +kernel, by decide, ws_X9, tyX9_ok 5 (by decide)⟩
theorem tf_9_5 : tf 9 5 = 1 := by decide +kernel
theorem fg_9_6 : FG 9 6 RX9 TX9 (tyX9 6) := ⟨rfl, by decide +kernel, by decide, ws_X9, tyX9_ok 6 (by decide)⟩
theorem tf_9_6 : tf 9 6 = 1 := by decide +kernel
theorem fg_9_7 : FG 9 7 RX9 TX9 (tyX9 7) := ⟨rfl, by decide +kernel, by decide, ws_X9, tyX9_ok 7 (by decide)⟩
theorem tf_9_7 : tf 9 7 = 1 := by decide +kernel
theorem fg_9_8 : FG 9 8 RX9 TX9 (tyX9 8) := ⟨rfl, by decide +kernel, by decide, ws_X9, tyX9_ok 8 (by decide)⟩
theorem tf_9_8 : tf 9 8 = 1 := by decide +kernel
theorem fg_9_9 : FG 9 9 RX9 TX9 (tyX9 9) := ⟨rfl, by decide +kernel, by decide, ws_X9, tyX9_ok 9 (by decide)⟩
theorem tf_9_9 : tf 9 9 = 1 := by decide +kernel
theorem fg_9_10 : FG 9 10 RX9 TX9 (tyX9 10) := ⟨rfl, by decide +kernel, by decide, ws_X9, tyX9_ok 10 (by decide)⟩
theorem tf_9_10 : tf 9 10 = 1 := by decide +kernel
theorem fg_9_11 : FG 9 11 RX9 TX9 (tyX9 11) := ⟨rfl, by decide +kernel, by decide, ws_X9, tyX9_ok 11 (by decide)⟩
theorem tf_9_11 : tf 9 11 = 1 := by decide +kernel
theorem fg_9_12 : FG 9 12 RX9 TX9 (tyX9 12) := ⟨rfl, by decide +kernel, by decide, ws_X9, tyX9_ok 12 (by decide)⟩
theorem tf_9_12 : tf 9 12 = 0 := by decide +kernel
theorem fg_9_13 : FG 9 13 RX9 TX9 (tyX9 13) := ⟨rfl, by decide +kernel, by decide, ws_X9, tyX9_ok 13 (by decide)⟩
theorem tf_9_13 : tf 9 13 = 0 := by decide +kernel
theorem fg_9_14 : FG 9 14 RX9 TX9 (tyX9 14) := ⟨rfl, by decide +kernel, by decide, ws_X9, tyX9_ok 14 (by decide)⟩
theorem tf_9_14 : tf 9 14 = 0 := by decide +kernel
theorem fg_9_15 : FG 9 15 RX9 TX9 (tyX9 15) := ⟨rfl, by decide +kernel, by decide, ws_X9, tyX9_ok 15 (by decide)⟩
theorem tf_9_15 : tf 9 15 = 0 := by decide +kernel
theorem fg_9_16 : FG 9 16 RX9 TX9 (tyX9 16) := ⟨rfl, by decide +kernel, by decide, ws_X9, tyX9_ok 16 (by decide)⟩
theorem tf_9_16 : tf 9 16 = 0 := by decide +kernel
theorem fg_9_17 : FG 9 17 RX9 TX9 (tyX9 17) := ⟨rfl, by decide +kernel, by decide, ws_X9, tyX9_ok 17 (by decide)⟩
theorem tf_9_17 : tf 9 17 = 1 := by decide +kernel
theorem fg_9_18 : FG 9 18 RX9 TX9 (tyX9 18) := ⟨rfl, by decide +kernel, by decide, ws_X9, tyX9_ok 18 (by decide)⟩
theorem tf_9_18 : tf 9 18 = 1 := by decide +kernel
theorem fg_9_19 : FG 9 19 RX9 TX9 (tyX9 19) := ⟨rfl, by decide +kernel, by decide, ws_X9, tyX9_ok 19 (by decide)⟩
theorem tf_9_19 : tf 9 19 = 1 := by decide +kernel
theorem fg_9_20 : FG 9 20 RX9 TX9 (tyX9 20) := ⟨rfl, by decide +kernel, by decide, ws_X9, tyX9_ok 20 (by decide)⟩
theorem tf_9_20 : tf 9 20 = 1 := by decide +kernel
theorem fg_9_21 : FG 9 21 RX9 TX9 (tyX9 21) := ⟨rfl, by decide +kernel, by decide, ws_X9, tyX9_ok 21 (by decide)⟩
theorem tf_9_21 : tf 9 21 = 0 := by decide +kernel
theorem fg_9_22 : FG 9 22 RX9 TX9 (tyX9 22) := ⟨rfl, by decide +kernel, by decide, ws_X9, tyX9_ok 22 (by decide)⟩
theorem tf_9_22 : tf 9 22 = 0 := by decide +kernel
theorem kd_all {b : Bool} {c : Nat} {p : Nat → Bool} (h : (List.range (cnt b)).all (fun i => !(kd b i == c) || p i) = true) {i : Nat} (hi : kd b i = c) (hc : c < 20) : p i = true := by
  have h1 := List.all_eq_true.mp h i (List.mem_range.mpr (kd_lt hi hc))
  simpa [hi] using h1
theorem kd_true_0 : kd true 0 = 8 := by decide +kernel
theorem kd_true_48 : kd true 48 = 4 := by decide +kernel
theorem kd_true_52 : kd true 52 = 3 := by decide +kernel
theorem kd_true_55 : kd true 55 = 6 := by decide +kernel
theorem kd_false_0 : kd false 0 = 9 := by decide +kernel
theorem wo_0_0 {o : Nat} (h : kd true o = 0) : sr true o 0 = (o + 1) := by
  have := kd_all (p := fun o => sr true o 0 == (o + 1)) (by decide +kernel) h (by decide)
  simpa using this
theorem wk_0_0 {o : Nat} (h : kd true o = 0) : kd true (o + 1) = 1 := by
  have := kd_all (p := fun o => (kd true (o + 1) == 1)) (by decide +kernel) h (by decide)
  simpa using this
theorem wo_0_1 {o : Nat} (h : kd true o = 0) : sr true o 1 = (o + 4) := by
  have := kd_all (p := fun o => sr true o 1 == (o + 4)) (by decide +kernel) h (by decide)
  simpa using this
theorem wk_0_1 {o : Nat} (h : kd true o = 0) : kd true (o + 4) = 1 := by
  have := kd_all (p := fun o => (kd true (o + 4) == 1)) (by decide +kernel) h (by decide)
  simpa using this
theorem wo_0_2 {o : Nat} (h : kd true o = 0) : sr true o 2 = (o + 7) := by
  have := kd_all (p := fun o => sr true o 2 == (o + 7)) (by decide +kernel) h (by decide)
  simpa using this
theorem wk_0_2 {o : Nat} (h : kd true o = 0) : kd true (o + 7) = 2 := by
  have := kd_all (p := fun o => (kd true (o + 7) == 2)) (by decide +kernel) h (by decide)
  simpa using this
theorem wo_0_3 {o : Nat} (h : kd true o = 0) : sr true o 3 = (o + 16) := by
  have := kd_all (p := fun o => sr true o 3 == (o + 16)) (by decide +kernel) h (by decide)
  simpa using this
theorem wk_0_3 {o : Nat} (h : kd true o = 0) : kd true (o + 16) = 7 := by
  have := kd_all (p := fun o => (kd true (o + 16) == 7)) (by decide +kernel) h (by decide)
  simpa using this
theorem wo_0_4 {o : Nat} (h : kd true o = 0) : sr true o 4 = (o + 18) := by
  have := kd_all (p := fun o => sr true o 4 == (o + 18)) (by decide +kernel) h (by decide)
  simpa using this
theorem wk_0_4 {o : Nat} (h : kd true o = 0) : kd true (o + 18) = 10 ∧ ln true (o + 18) = 24 := by
  have := kd_all (p := fun o => (kd true (o + 18) == 10 && ln true (o + 18) == 24)) (by decide +kernel) h (by decide)
  simpa using this
theorem wk_1_0 {o : Nat} (h : kd true o = 1) : (sr true o 0) < 200 := by
  have := kd_all (p := fun o => decide ((sr true o 0) < 200)) (by decide +kernel) h (by decide)
  simpa using this
theorem wo_1_2 {o : Nat} (h : kd true o = 1) : sr true o 2 = (o + 1) := by
  have := kd_all (p := fun o => sr true o 2 == (o + 1)) (by decide +kernel) h (by decide)
  simpa using this
theorem wk_1_2 {o : Nat} (h : kd true o = 1) : kd true (o + 1) = 10 ∧ ln true (o + 1) = 60 := by
  have := kd_all (p := fun o => (kd true (o + 1) == 10 && ln true (o + 1) == 60)) (by decide +kernel) h (by decide)
  simpa using this
theorem wo_1_3 {o : Nat} (h : kd true o = 1) : sr true o 3 = (o + 2) := by
  have := kd_all (p := fun o => sr true o 3 == (o + 2)) (by decide +kernel) h (by decide)
  simpa using this
theorem wk_1_3 {o : Nat} (h : kd true o = 1) : kd true (o + 2) = 10 ∧ ln true (o + 2) = 60 := by
  have := kd_all (p := fun o => (kd true (o + 2) == 10 && ln true (o + 2) == 60)) (by decide +kernel) h (by decide)
  simpa using this
theorem wk_2_0 {o : Nat} (h : kd true o = 2) : kd true (sr true o 0) = 1 := by
  have := kd_all (p := fun o => (kd true (sr true o 0) == 1)) (by decide +kernel) h (by decide)
  simpa using this
theorem wk_2_1 {o : Nat} (h : kd true o = 2) : kd true (sr true o 1) = 1 := by
  have := kd_all (p := fun o => (kd true (sr true o 1) == 1)) (by decide +kernel) h (by decide)
  simpa using this
theorem wo_2_2 {o : Nat} (h : kd true o = 2) : sr true o 2 = (o + 1) := by
  have := kd_all (p := fun o => sr true o 2 == (o + 1)) (by decide +kernel) h (by decide)
  simpa using this
theorem wk_2_2 {o : Nat} (h : kd true o = 2) : kd true (o + 1) = 10 ∧ ln true (o + 1) = 6 := by
  have := kd_all (p := fun o => (kd true (o + 1) == 10 && ln true (o + 1) == 6)) (by decide +kernel) h (by decide)
  simpa using this
theorem wo_2_3 {o : Nat} (h : kd true o = 2) : sr true o 3 = (o + 2) := by
  have := kd_all (p := fun o => sr true o 3 == (o + 2)) (by decide +kernel) h (by decide)
  simpa using this
theorem wk_2_3 {o : Nat} (h : kd true o = 2) : kd true (o + 2) = 10 ∧ ln true (o + 2) = 6 := by
  have := kd_all (p := fun o => (kd true (o + 2) == 10 && ln true (o + 2) == 6)) (by decide +kernel) h (by decide)
  simpa using this
theorem wo_2_4 {o : Nat} (h : kd true o = 2) : sr true o 4 = (o + 3) := by
  have := kd_all (p := fun o => sr true o 4 == (o + 3)) (by decide +kernel) h (by decide)
  simpa using this
theorem wk_2_4 {o : Nat} (h : kd true o = 2) : kd true (o + 3) = 10 ∧ ln true (o + 3) = 9 := by
  have := kd_all (p := fun o => (kd true (o + 3) == 10 && ln true (o + 3) == 9)) (by decide +kernel) h (by decide)
  simpa using this
theorem wo_2_5 {o : Nat} (h : kd true o = 2) : sr true o 5 = (o + 4) := by
  have := kd_all (p := fun o => sr true o 5 == (o + 4)) (by decide +kernel) h (by decide)
  simpa using this
theorem wk_2_5 {o : Nat} (h : kd true o = 2) : kd true (o + 4) = 10 ∧ ln true (o + 4) = 9 := by
  have := kd_all (p := fun o => (kd true (o + 4) == 10 && ln true (o + 4) == 9)) (by decide +kernel) h (by decide)
  simpa using this
theorem wo_2_6 {o : Nat} (h : kd true o = 2) : sr true o 6 = (o + 5) := by
  have := kd_all (p := fun o => sr true o 6 == (o + 5)) (by decide +kernel) h (by decide)
  simpa using this
theorem wk_2_6 {o : Nat} (h : kd true o = 2) : kd true (o + 5) = 10 ∧ ln true (o + 5) = 9 := by
  have := kd_all (p := fun o => (kd true (o + 5) == 10 && ln true (o + 5) == 9)) (by decide +kernel) h (by decide)
  simpa using this
theorem wo_2_7 {o : Nat} (h : kd true o = 2) : sr true o 7 = (o + 6) := by
  have := kd_all (p := fun o => sr true o 7 == (o + 6)) (by decide +kernel) h (by decide)
  simpa using this
theorem wk_2_7 {o : Nat} (h : kd true o = 2) : kd true (o + 6) = 10 ∧ ln true (o + 6) = 9 := by
  have := kd_all (p := fun o => (kd true (o + 6) == 10 && ln true (o + 6) == 9)) (by decide +kernel) h (by decide)
  simpa using this
theorem wo_2_8 {o : Nat} (h : kd true o = 2) : sr true o 8 = (o + 7) := by
  have := kd_all (p := fun o => sr true o 8 == (o + 7)) (by decide +kernel) h (by decide)
  simpa using this
theorem wk_2_8 {o : Nat} (h : kd true o = 2) : kd true (o + 7) = 10 ∧ ln true (o + 7) = 6 := by
  have := kd_all (p := fun o => (kd true (o + 7) == 10 && ln true (o + 7) == 6)) (by decide +kernel) h (by decide)
  simpa using this
theorem wo_2_9 {o : Nat} (h : kd true o = 2) : sr true o 9 = (o + 8) := by
  have := kd_all (p := fun o => sr true o 9 == (o + 8)) (by decide +kernel) h (by decide)
  simpa using this
theorem wk_2_9 {o : Nat} (h : kd true o = 2) : kd true (o + 8) = 10 ∧ ln true (o + 8) = 7 := by
  have := kd_all (p := fun o => (kd true (o + 8) == 10 && ln true (o + 8) == 7)) (by decide +kernel) h (by decide)
  simpa using this
theorem wk_3_0 : kd true 53 = 10 ∧ ln true 53 = 512 := by decide +kernel
theorem sr_true_52_0 : sr true 52 0 = 53 := by decide +kernel
theorem wk_3_1 : kd true 54 = 10 ∧ ln true 54 = 512 := by decide +kernel
theorem sr_true_52_1 : sr true 52 1 = 54 := by decide +kernel
theorem wk_4_0 : kd true 49 = 10 ∧ ln true 49 = 60 := by decide +kernel
theorem sr_true_48_0 : sr true 48 0 = 49 := by decide +kernel
theorem wo_5_0 {o : Nat} (h : kd true o = 5) : sr true o 0 = (o + 1) := by
  have := kd_all (p := fun o => sr true o 0 == (o + 1)) (by decide +kernel) h (by decide)
  simpa using this
theorem wk_5_0 {o : Nat} (h : kd true o = 5) : kd true (o + 1) = 10 ∧ ln true (o + 1) = 24 := by
  have := kd_all (p := fun o => (kd true (o + 1) == 10 && ln true (o + 1) == 24)) (by decide +kernel) h (by decide)
  simpa using this
theorem wk_6_0 : kd true 56 = 10 ∧ ln true 56 = 30 := by decide +kernel
theorem sr_true_55_0 : sr true 55 0 = 56 := by decide +kernel
theorem wo_7_0 {o : Nat} (h : kd true o = 7) : sr true o 0 = (o + 1) := by
  have := kd_all (p := fun o => sr true o 0 == (o + 1)) (by decide +kernel) h (by decide)
  simpa using this
theorem wk_7_0 {o : Nat} (h : kd true o = 7) : kd true (o + 1) = 11 ∧ ln true (o + 1) = 60 := by
  have := kd_all (p := fun o => (kd true (o + 1) == 11 && ln true (o + 1) == 60)) (by decide +kernel) h (by decide)
  simpa using this
theorem wk_8_0 : kd true 1 = 0 := by decide +kernel
theorem sr_true_0_0 : sr true 0 0 = 1 := by decide +kernel
theorem wk_8_1 : kd true 20 = 0 := by decide +kernel
theorem sr_true_0_1 : sr true 0 1 = 20 := by decide +kernel
theorem wk_8_2 : kd true 39 = 2 := by decide +kernel
theorem sr_true_0_2 : sr true 0 2 = 39 := by decide +kernel
theorem wk_8_3 : kd true 48 = 4 := by decide +kernel
theorem sr_true_0_3 : sr true 0 3 = 48 := by decide +kernel
theorem wk_8_4 : kd true 52 = 3 := by decide +kernel
theorem sr_true_0_4 : sr true 0 4 = 52 := by decide +kernel
theorem wk_8_5 : kd true 55 = 6 := by decide +kernel
theorem sr_true_0_5 : sr true 0 5 = 55 := by decide +kernel
theorem wk_8_6 : kd true 57 = 12 ∧ ln true 57 = 4 := by decide +kernel
theorem sr_true_0_6 : sr true 0 6 = 57 := by decide +kernel
theorem wk_8_7 : kd true 66 = 10 ∧ ln true 66 = 7 := by decide +kernel
theorem sr_true_0_7 : sr true 0 7 = 66 := by decide +kernel
theorem wk_9_0 : kd false 1 = 10 ∧ ln false 1 = 395 := by decide +kernel
theorem sr_false_0_0 : sr false 0 0 = 1 := by decide +kernel
theorem wk_9_1 : kd false 2 = 10 ∧ ln false 2 = 395 := by decide +kernel
theorem sr_false_0_1 : sr false 0 1 = 2 := by decide +kernel
theorem wk_9_2 : kd false 3 = 10 ∧ ln false 3 = 395 := by decide +kernel
theorem sr_false_0_2 : sr false 0 2 = 3 := by decide +kernel
theorem wk_9_4 : kd false 4 = 10 ∧ ln false 4 = 7 := by decide +kernel
theorem sr_false_0_4 : sr false 0 4 = 4 := by decide +kernel
theorem wk_9_5 : kd false 5 = 10 ∧ ln false 5 = 4 := by decide +kernel
theorem sr_false_0_5 : sr false 0 5 = 5 := by decide +kernel
theorem wk_9_6 : kd false 6 = 10 ∧ ln false 6 = 4 := by decide +kernel
theorem sr_false_0_6 : sr false 0 6 = 6 := by decide +kernel
theorem wk_9_7 : kd false 7 = 10 ∧ ln false 7 = 96 := by decide +kernel
theorem sr_false_0_7 : sr false 0 7 = 7 := by decide +kernel
theorem wk_9_8 : kd false 8 = 10 ∧ ln false 8 = 60 := by decide +kernel
theorem sr_false_0_8 : sr false 0 8 = 8 := by decide +kernel
theorem wk_9_9 : kd false 9 = 10 ∧ ln false 9 = 60 := by decide +kernel
theorem sr_false_0_9 : sr false 0 9 = 9 := by decide +kernel
theorem wk_9_10 : kd false 10 = 10 ∧ ln false 10 = 3 := by decide +kernel
theorem sr_false_0_10 : sr false 0 10 = 10 := by decide +kernel
theorem wk_9_11 : kd false 11 = 10 ∧ ln false 11 = 60 := by decide +kernel
theorem sr_false_0_11 : sr false 0 11 = 11 := by decide +kernel
theorem wk_9_17 : kd false 12 = 10 ∧ ln false 12 = 512 := by decide +kernel
theorem sr_false_0_17 : sr false 0 17 = 12 := by decide +kernel
theorem wk_9_18 : kd false 13 = 10 ∧ ln false 13 = 512 := by decide +kernel
theorem sr_false_0_18 : sr false 0 18 = 13 := by decide +kernel
theorem wk_9_19 : kd false 14 = 10 ∧ ln false 14 = 512 := by decide +kernel
theorem sr_false_0_19 : sr false 0 19 = 14 := by decide +kernel
theorem wk_9_20 : kd false 15 = 10 ∧ ln false 15 = 30 := by decide +kernel
theorem sr_false_0_20 : sr false 0 20 = 15 := by decide +kernel
theorem str_31 {a : Nat} (h : a < 200) : a < 2 ^ 31 := by omega
theorem w_351 : Cond.fieldLink RX8 10 (TX8 0).1 (TX8 0).2.1 (TX8 0).2.2.1 ∈ BIG := bigAt 351 (by decide +kernel) (by decide +kernel)
theorem w_352 : Cond.fieldLink RX8 16 (TX8 1).1 (TX8 1).2.1 (TX8 1).2.2.1 ∈ BIG := bigAt 352 (by decide +kernel) (by decide +kernel)
theorem w_353 : Cond.fieldLink RX8 31 (TX8 2).1 (TX8 2).2.1 (TX8 2).2.2.1 ∈ BIG := bigAt 353 (by decide +kernel) (by decide +kernel)
theorem w_354 : Cond.fieldLink RX8 38 (TX8 3).1 (TX8 3).2.1 (TX8 3).2.2.1 ∈ BIG := bigAt 354 (by decide +kernel) (by decide +kernel)
theorem w_355 : Cond.fieldLink RX8 45 (TX8 4).1 (TX8 4).2.1 (TX8 4).2.2.1 ∈ BIG := bigAt 355 (by decide +kernel) (by decide +kernel)
theorem w_356 : Cond.fieldLink RX8 52 (TX8 5).1 (TX8 5).2.1 (TX8 5).2.2.1 ∈ BIG := bigAt 356 (by decide +kernel) (by decide +kernel)
theorem w_357 : Cond.fieldLink RX8 58 (TX8 6).1 (TX8 6).2.1 (TX8 6).2.2.1 ∈ BIG := bigAt 357 (by decide +kernel) (by decide +kernel)
theorem w_358 : Cond.fieldLink RX8 63 (TX8 7).1 (TX8 7).2.1 (TX8 7).2.2.1 ∈ BIG := bigAt 358 (by decide +kernel) (by decide +kernel)
theorem w_359 : Cond.fieldLink RX8 67 (TX8 8).1 (TX8 8).2.1 (TX8 8).2.2.1 ∈ BIG := bigAt 359 (by decide +kernel) (by decide +kernel)
theorem w_236 : Cond.fieldLink RX8 79 (TX0 2).1 (TX0 2).2.1 (TX0 2).2.2.1 ∈ BIG := bigAt 236 (by decide +kernel) (by decide +kernel)
theorem w_170 : Cond.fieldLink RX8 82 (TX2 10).1 (TX2 10).2.1 (TX2 10).2.2.1 ∈ BIG := bigAt 170 (by decide +kernel) (by decide +kernel)
theorem w_152 : Cond.fieldLink RX8 92 (TX2 2).1 (TX2 2).2.1 (TX2 2).2.2.1 ∈ BIG := bigAt 152 (by decide +kernel) (by decide +kernel)
theorem w_154 : Cond.fieldLink RX8 95 (TX2 3).1 (TX2 3).2.1 (TX2 3).2.2.1 ∈ BIG := bigAt 154 (by decide +kernel) (by decide +kernel)
theorem w_177 : Cond.fieldLink RX8 114 (TX2 11).1 (TX2 11).2.1 (TX2 11).2.2.1 ∈ BIG := bigAt 177 (by decide +kernel) (by decide +kernel)
theorem w_156 : Cond.fieldLink RX8 124 (TX2 4).1 (TX2 4).2.1 (TX2 4).2.2.1 ∈ BIG := bigAt 156 (by decide +kernel) (by decide +kernel)
theorem w_158 : Cond.fieldLink RX8 127 (TX2 5).1 (TX2 5).2.1 (TX2 5).2.2.1 ∈ BIG := bigAt 158 (by decide +kernel) (by decide +kernel)
theorem w_160 : Cond.fieldLink RX8 130 (TX2 6).1 (TX2 6).2.1 (TX2 6).2.2.1 ∈ BIG := bigAt 160 (by decide +kernel) (by decide +kernel)
theorem w_164 : Cond.fieldLink RX8 133 (TX2 7).1 (TX2 7).2.1 (TX2 7).2.2.1 ∈ BIG := bigAt 164 (by decide +kernel) (by decide +kernel)
theorem w_179 : Cond.fieldLink RX8 145 (TX2 12).1 (TX2 12).2.1 (TX2 12).2.2.1 ∈ BIG := bigAt 179 (by decide +kernel) (by decide +kernel)
theorem w_166 : Cond.fieldLink RX8 151 (TX2 8).1 (TX2 8).2.1 (TX2 8).2.2.1 ∈ BIG := bigAt 166 (by decide +kernel) (by decide +kernel)
theorem w_169 : Cond.fieldLink RX8 154 (TX2 9).1 (TX2 9).2.1 (TX2 9).2.2.1 ∈ BIG := bigAt 169 (by decide +kernel) (by decide +kernel)
theorem w_238 : Cond.fieldLink RX8 157 (TX0 3).1 (TX0 3).2.1 (TX0 3).2.2.1 ∈ BIG := bigAt 238 (by decide +kernel) (by decide +kernel)
theorem w_225 : Cond.fieldLink RX8 161 (TX7 1).1 (TX7 1).2.1 (TX7 1).2.2.1 ∈ BIG := bigAt 225 (by decide +kernel) (by decide +kernel)
theorem w_128 : Cond.fieldLink RX8 187 (TX1 4).1 (TX1 4).2.1 (TX1 4).2.2.1 ∈ BIG := bigAt 128 (by decide +kernel) (by decide +kernel)
theorem w_181 : Cond.fieldLink RX8 191 (TX2 13).1 (TX2 13).2.1 (TX2 13).2.2.1 ∈ BIG := bigAt 181 (by decide +kernel) (by decide +kernel)
theorem w_244 : Cond.fieldLink RX8 204 (TX0 6).1 (TX0 6).2.1 (TX0 6).2.2.1 ∈ BIG := bigAt 244 (by decide +kernel) (by decide +kernel)
theorem w_183 : Cond.fieldLink RX8 211 (TX2 14).1 (TX2 14).2.1 (TX2 14).2.2.1 ∈ BIG := bigAt 183 (by decide +kernel) (by decide +kernel)
theorem w_314 : Cond.fieldLink RX8 252 (TX6 2).1 (TX6 2).2.1 (TX6 2).2.2.1 ∈ BIG := bigAt 314 (by decide +kernel) (by decide +kernel)
theorem w_312 : Cond.fieldLink RX8 256 (TX6 1).1 (TX6 1).2.1 (TX6 1).2.2.1 ∈ BIG := bigAt 312 (by decide +kernel) (by decide +kernel)
theorem w_310 : Cond.fieldLink RX8 259 (TX6 0).1 (TX6 0).2.1 (TX6 0).2.2.1 ∈ BIG := bigAt 310 (by decide +kernel) (by decide +kernel)
theorem w_343 : Cond.fieldLink RX8 269 (TX5 2).1 (TX5 2).2.1 (TX5 2).2.2.1 ∈ BIG := bigAt 343 (by decide +kernel) (by decide +kernel)
theorem w_339 : Cond.fieldLink RX8 270 (TX5 0).1 (TX5 0).2.1 (TX5 0).2.2.1 ∈ BIG := bigAt 339 (by decide +kernel) (by decide +kernel)
theorem w_341 : Cond.fieldLink RX8 276 (TX5 1).1 (TX5 1).2.1 (TX5 1).2.2.1 ∈ BIG := bigAt 341 (by decide +kernel) (by decide +kernel)
theorem w_242 : Cond.fieldLink RX8 297 (TX0 5).1 (TX0 5).2.1 (TX0 5).2.2.1 ∈ BIG := bigAt 242 (by decide +kernel) (by decide +kernel)
theorem w_240 : Cond.fieldLink RX8 300 (TX0 4).1 (TX0 4).2.1 (TX0 4).2.2.1 ∈ BIG := bigAt 240 (by decide +kernel) (by decide +kernel)
theorem w_464 : Cond.fieldLink RX8 307 "GateMinds" "KIND_ABOVE" "[I" ∈ BIG := bigAt 464 (by decide +kernel) (by decide +kernel)
theorem w_231 : Cond.fieldLink RX0 16 (TX0 0).1 (TX0 0).2.1 (TX0 0).2.2.1 ∈ BIG := bigAt 231 (by decide +kernel) (by decide +kernel)
theorem w_233 : Cond.fieldLink RX0 24 (TX0 1).1 (TX0 1).2.1 (TX0 1).2.2.1 ∈ BIG := bigAt 233 (by decide +kernel) (by decide +kernel)
theorem w_235 : Cond.fieldLink RX0 32 (TX0 2).1 (TX0 2).2.1 (TX0 2).2.2.1 ∈ BIG := bigAt 235 (by decide +kernel) (by decide +kernel)
theorem w_237 : Cond.fieldLink RX0 39 (TX0 3).1 (TX0 3).2.1 (TX0 3).2.2.1 ∈ BIG := bigAt 237 (by decide +kernel) (by decide +kernel)
theorem w_239 : Cond.fieldLink RX0 43 (TX0 4).1 (TX0 4).2.1 (TX0 4).2.2.1 ∈ BIG := bigAt 239 (by decide +kernel) (by decide +kernel)
theorem w_241 : Cond.fieldLink RX0 47 (TX0 5).1 (TX0 5).2.1 (TX0 5).2.2.1 ∈ BIG := bigAt 241 (by decide +kernel) (by decide +kernel)
theorem w_243 : Cond.fieldLink RX0 51 (TX0 6).1 (TX0 6).2.1 (TX0 6).2.2.1 ∈ BIG := bigAt 243 (by decide +kernel) (by decide +kernel)
theorem w_173 : Cond.fieldLink RX0 70 (TX2 10).1 (TX2 10).2.1 (TX2 10).2.2.1 ∈ BIG := bigAt 173 (by decide +kernel) (by decide +kernel)
theorem w_176 : Cond.fieldLink RX0 73 (TX2 11).1 (TX2 11).2.1 (TX2 11).2.2.1 ∈ BIG := bigAt 176 (by decide +kernel) (by decide +kernel)
theorem w_162 : Cond.fieldLink RX0 84 (TX2 7).1 (TX2 7).2.1 (TX2 7).2.2.1 ∈ BIG := bigAt 162 (by decide +kernel) (by decide +kernel)
theorem w_124 : Cond.fieldLink RX1 15 (TX1 1).1 (TX1 1).2.1 (TX1 1).2.2.1 ∈ BIG := bigAt 124 (by decide +kernel) (by decide +kernel)
theorem w_125 : Cond.fieldLink RX1 19 (TX1 2).1 (TX1 2).2.1 (TX1 2).2.2.1 ∈ BIG := bigAt 125 (by decide +kernel) (by decide +kernel)
theorem w_126 : Cond.fieldLink RX1 23 (TX1 3).1 (TX1 3).2.1 (TX1 3).2.2.1 ∈ BIG := bigAt 126 (by decide +kernel) (by decide +kernel)
theorem w_127 : Cond.fieldLink RX1 26 (TX1 4).1 (TX1 4).2.1 (TX1 4).2.2.1 ∈ BIG := bigAt 127 (by decide +kernel) (by decide +kernel)
theorem w_149 : Cond.fieldLink RX2 9 (TX2 0).1 (TX2 0).2.1 (TX2 0).2.2.1 ∈ BIG := bigAt 149 (by decide +kernel) (by decide +kernel)
theorem w_150 : Cond.fieldLink RX2 15 (TX2 1).1 (TX2 1).2.1 (TX2 1).2.2.1 ∈ BIG := bigAt 150 (by decide +kernel) (by decide +kernel)
theorem w_151 : Cond.fieldLink RX2 18 (TX2 2).1 (TX2 2).2.1 (TX2 2).2.2.1 ∈ BIG := bigAt 151 (by decide +kernel) (by decide +kernel)
theorem w_153 : Cond.fieldLink RX2 22 (TX2 3).1 (TX2 3).2.1 (TX2 3).2.2.1 ∈ BIG := bigAt 153 (by decide +kernel) (by decide +kernel)
theorem w_155 : Cond.fieldLink RX2 25 (TX2 4).1 (TX2 4).2.1 (TX2 4).2.2.1 ∈ BIG := bigAt 155 (by decide +kernel) (by decide +kernel)
theorem w_157 : Cond.fieldLink RX2 28 (TX2 5).1 (TX2 5).2.1 (TX2 5).2.2.1 ∈ BIG := bigAt 157 (by decide +kernel) (by decide +kernel)
theorem w_159 : Cond.fieldLink RX2 31 (TX2 6).1 (TX2 6).2.1 (TX2 6).2.2.1 ∈ BIG := bigAt 159 (by decide +kernel) (by decide +kernel)
theorem w_161 : Cond.fieldLink RX2 34 (TX2 7).1 (TX2 7).2.1 (TX2 7).2.2.1 ∈ BIG := bigAt 161 (by decide +kernel) (by decide +kernel)
theorem w_165 : Cond.fieldLink RX2 37 (TX2 8).1 (TX2 8).2.1 (TX2 8).2.2.1 ∈ BIG := bigAt 165 (by decide +kernel) (by decide +kernel)
theorem w_167 : Cond.fieldLink RX2 40 (TX2 9).1 (TX2 9).2.1 (TX2 9).2.2.1 ∈ BIG := bigAt 167 (by decide +kernel) (by decide +kernel)
theorem w_172 : Cond.fieldLink RX2 49 (TX2 10).1 (TX2 10).2.1 (TX2 10).2.2.1 ∈ BIG := bigAt 172 (by decide +kernel) (by decide +kernel)
theorem w_175 : Cond.fieldLink RX2 53 (TX2 11).1 (TX2 11).2.1 (TX2 11).2.2.1 ∈ BIG := bigAt 175 (by decide +kernel) (by decide +kernel)
theorem w_178 : Cond.fieldLink RX2 56 (TX2 12).1 (TX2 12).2.1 (TX2 12).2.2.1 ∈ BIG := bigAt 178 (by decide +kernel) (by decide +kernel)
theorem w_180 : Cond.fieldLink RX2 59 (TX2 13).1 (TX2 13).2.1 (TX2 13).2.2.1 ∈ BIG := bigAt 180 (by decide +kernel) (by decide +kernel)
theorem w_182 : Cond.fieldLink RX2 62 (TX2 14).1 (TX2 14).2.1 (TX2 14).2.2.1 ∈ BIG := bigAt 182 (by decide +kernel) (by decide +kernel)
theorem w_296 : Cond.fieldLink RX3 9 (TX3 0).1 (TX3 0).2.1 (TX3 0).2.2.1 ∈ BIG := bigAt 296 (by decide +kernel) (by decide +kernel)
theorem w_297 : Cond.fieldLink RX3 15 (TX3 1).1 (TX3 1).2.1 (TX3 1).2.2.1 ∈ BIG := bigAt 297 (by decide +kernel) (by decide +kernel)
theorem w_174 : Cond.fieldLink RX3 18 (TX2 11).1 (TX2 11).2.1 (TX2 11).2.2.1 ∈ BIG := bigAt 174 (by decide +kernel) (by decide +kernel)
theorem w_171 : Cond.fieldLink RX3 24 (TX2 10).1 (TX2 10).2.1 (TX2 10).2.2.1 ∈ BIG := bigAt 171 (by decide +kernel) (by decide +kernel)
theorem w_271 : Cond.fieldLink RX4 9 (TX4 0).1 (TX4 0).2.1 (TX4 0).2.2.1 ∈ BIG := bigAt 271 (by decide +kernel) (by decide +kernel)
theorem w_272 : Cond.fieldLink RX4 18 (TX4 1).1 (TX4 1).2.1 (TX4 1).2.2.1 ∈ BIG := bigAt 272 (by decide +kernel) (by decide +kernel)
theorem w_273 : Cond.fieldLink RX4 24 (TX4 2).1 (TX4 2).2.1 (TX4 2).2.2.1 ∈ BIG := bigAt 273 (by decide +kernel) (by decide +kernel)
theorem w_123 : Cond.fieldLink RX4 28 (TX1 0).1 (TX1 0).2.1 (TX1 0).2.2.1 ∈ BIG := bigAt 123 (by decide +kernel) (by decide +kernel)
theorem w_274 : Cond.fieldLink RX4 31 (TX4 3).1 (TX4 3).2.1 (TX4 3).2.2.1 ∈ BIG := bigAt 274 (by decide +kernel) (by decide +kernel)
theorem w_275 : Cond.fieldLink RX4 35 (TX4 4).1 (TX4 4).2.1 (TX4 4).2.2.1 ∈ BIG := bigAt 275 (by decide +kernel) (by decide +kernel)
theorem w_276 : Cond.fieldLink RX4 38 (TX4 5).1 (TX4 5).2.1 (TX4 5).2.2.1 ∈ BIG := bigAt 276 (by decide +kernel) (by decide +kernel)
theorem w_224 : Cond.fieldLink RX4 45 (TX7 1).1 (TX7 1).2.1 (TX7 1).2.2.1 ∈ BIG := bigAt 224 (by decide +kernel) (by decide +kernel)
theorem w_222 : Cond.fieldLink RX4 53 (TX7 0).1 (TX7 0).2.1 (TX7 0).2.2.1 ∈ BIG := bigAt 222 (by decide +kernel) (by decide +kernel)
theorem w_338 : Cond.fieldLink RX5 9 (TX5 0).1 (TX5 0).2.1 (TX5 0).2.2.1 ∈ BIG := bigAt 338 (by decide +kernel) (by decide +kernel)
theorem w_340 : Cond.fieldLink RX5 15 (TX5 1).1 (TX5 1).2.1 (TX5 1).2.2.1 ∈ BIG := bigAt 340 (by decide +kernel) (by decide +kernel)
theorem w_342 : Cond.fieldLink RX5 19 (TX5 2).1 (TX5 2).2.1 (TX5 2).2.2.1 ∈ BIG := bigAt 342 (by decide +kernel) (by decide +kernel)
theorem w_163 : Cond.fieldLink RX5 28 (TX2 7).1 (TX2 7).2.1 (TX2 7).2.2.1 ∈ BIG := bigAt 163 (by decide +kernel) (by decide +kernel)
theorem w_168 : Cond.fieldLink RX5 37 (TX2 9).1 (TX2 9).2.1 (TX2 9).2.2.1 ∈ BIG := bigAt 168 (by decide +kernel) (by decide +kernel)
theorem w_309 : Cond.fieldLink RX6 9 (TX6 0).1 (TX6 0).2.1 (TX6 0).2.2.1 ∈ BIG := bigAt 309 (by decide +kernel) (by decide +kernel)
theorem w_315 : Cond.fieldLink RX6 15 (TX6 3).1 (TX6 3).2.1 (TX6 3).2.2.1 ∈ BIG := bigAt 315 (by decide +kernel) (by decide +kernel)
theorem w_316 : Cond.fieldLink RX6 19 (TX6 4).1 (TX6 4).2.1 (TX6 4).2.2.1 ∈ BIG := bigAt 316 (by decide +kernel) (by decide +kernel)
theorem w_317 : Cond.fieldLink RX6 22 (TX6 5).1 (TX6 5).2.1 (TX6 5).2.2.1 ∈ BIG := bigAt 317 (by decide +kernel) (by decide +kernel)
theorem w_311 : Cond.fieldLink RX6 25 (TX6 1).1 (TX6 1).2.1 (TX6 1).2.2.1 ∈ BIG := bigAt 311 (by decide +kernel) (by decide +kernel)
theorem w_313 : Cond.fieldLink RX6 28 (TX6 2).1 (TX6 2).2.1 (TX6 2).2.2.1 ∈ BIG := bigAt 313 (by decide +kernel) (by decide +kernel)
theorem w_857 : Cond.fieldLink RX6 40 "GateMinds$Speech" "BODIES" "[I" ∈ BIG := bigAt 857 (by decide +kernel) (by decide +kernel)
theorem w_221 : Cond.fieldLink RX7 9 (TX7 0).1 (TX7 0).2.1 (TX7 0).2.2.1 ∈ BIG := bigAt 221 (by decide +kernel) (by decide +kernel)
theorem w_223 : Cond.fieldLink RX7 15 (TX7 1).1 (TX7 1).2.1 (TX7 1).2.2.1 ∈ BIG := bigAt 223 (by decide +kernel) (by decide +kernel)
theorem w_970 : Cond.fieldLink RX9 9 (TX9 0).1 (TX9 0).2.1 (TX9 0).2.2.1 ∈ BIG := bigAt 970 (by decide +kernel) (by decide +kernel)
theorem w_971 : Cond.fieldLink RX9 13 (TX9 1).1 (TX9 1).2.1 (TX9 1).2.2.1 ∈ BIG := bigAt 971 (by decide +kernel) (by decide +kernel)
theorem w_972 : Cond.fieldLink RX9 16 (TX9 2).1 (TX9 2).2.1 (TX9 2).2.2.1 ∈ BIG := bigAt 972 (by decide +kernel) (by decide +kernel)
theorem w_974 : Cond.fieldLink RX9 19 (TX9 4).1 (TX9 4).2.1 (TX9 4).2.2.1 ∈ BIG := bigAt 974 (by decide +kernel) (by decide +kernel)
theorem w_975 : Cond.fieldLink RX9 22 (TX9 5).1 (TX9 5).2.1 (TX9 5).2.2.1 ∈ BIG := bigAt 975 (by decide +kernel) (by decide +kernel)
theorem w_976 : Cond.fieldLink RX9 25 (TX9 6).1 (TX9 6).2.1 (TX9 6).2.2.1 ∈ BIG := bigAt 976 (by decide +kernel) (by decide +kernel)
theorem w_977 : Cond.fieldLink RX9 28 (TX9 7).1 (TX9 7).2.1 (TX9 7).2.2.1 ∈ BIG := bigAt 977 (by decide +kernel) (by decide +kernel)
theorem w_978 : Cond.fieldLink RX9 31 (TX9 8).1 (TX9 8).2.1 (TX9 8).2.2.1 ∈ BIG := bigAt 978 (by decide +kernel) (by decide +kernel)
theorem w_979 : Cond.fieldLink RX9 34 (TX9 9).1 (TX9 9).2.1 (TX9 9).2.2.1 ∈ BIG := bigAt 979 (by decide +kernel) (by decide +kernel)
theorem w_980 : Cond.fieldLink RX9 37 (TX9 10).1 (TX9 10).2.1 (TX9 10).2.2.1 ∈ BIG := bigAt 980 (by decide +kernel) (by decide +kernel)
