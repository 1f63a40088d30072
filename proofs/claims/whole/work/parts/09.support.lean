set_option maxRecDepth 100000 in
theorem ki_m8 : Int32.ofInt (-8) = (-8) := by decide +kernel
set_option maxRecDepth 100000 in
theorem ki_m1 : Int32.ofInt (-1) = (-1) := by decide +kernel
set_option maxRecDepth 100000 in
theorem ki_0 : Int32.ofInt 0 = 0 := by decide +kernel
set_option maxRecDepth 100000 in
theorem ki_1 : Int32.ofInt 1 = 1 := by decide +kernel
set_option maxRecDepth 100000 in
theorem ki_2 : Int32.ofInt 2 = 2 := by decide +kernel
set_option maxRecDepth 100000 in
theorem ki_3 : Int32.ofInt 3 = 3 := by decide +kernel
set_option maxRecDepth 100000 in
theorem ki_4 : Int32.ofInt 4 = 4 := by decide +kernel
set_option maxRecDepth 100000 in
theorem ki_5 : Int32.ofInt 5 = 5 := by decide +kernel
set_option maxRecDepth 100000 in
theorem ki_8 : Int32.ofInt 8 = 8 := by decide +kernel
set_option maxRecDepth 100000 in
theorem ki_16 : Int32.ofInt 16 = 16 := by decide +kernel
set_option maxRecDepth 100000 in
theorem kb_m2 : (Int8.ofInt (-2)).toInt32 = (-2) := by decide +kernel
set_option maxRecDepth 100000 in
theorem kb_6 : (Int8.ofInt 6).toInt32 = 6 := by decide +kernel
set_option maxRecDepth 100000 in
theorem kb_7 : (Int8.ofInt 7).toInt32 = 7 := by decide +kernel
set_option maxRecDepth 100000 in
theorem kb_8 : (Int8.ofInt 8).toInt32 = 8 := by decide +kernel
set_option maxRecDepth 100000 in
theorem kb_9 : (Int8.ofInt 9).toInt32 = 9 := by decide +kernel
set_option maxRecDepth 100000 in
theorem kb_12 : (Int8.ofInt 12).toInt32 = 12 := by decide +kernel
set_option maxRecDepth 100000 in
theorem kb_15 : (Int8.ofInt 15).toInt32 = 15 := by decide +kernel
set_option maxRecDepth 100000 in
theorem kb_16 : (Int8.ofInt 16).toInt32 = 16 := by decide +kernel
set_option maxRecDepth 100000 in
theorem kb_18 : (Int8.ofInt 18).toInt32 = 18 := by decide +kernel
set_option maxRecDepth 100000 in
theorem kb_20 : (Int8.ofInt 20).toInt32 = 20 := by decide +kernel
set_option maxRecDepth 100000 in
theorem kb_23 : (Int8.ofInt 23).toInt32 = 23 := by decide +kernel
set_option maxRecDepth 100000 in
theorem kb_24 : (Int8.ofInt 24).toInt32 = 24 := by decide +kernel
set_option maxRecDepth 100000 in
theorem kb_30 : (Int8.ofInt 30).toInt32 = 30 := by decide +kernel
set_option maxRecDepth 100000 in
theorem kb_31 : (Int8.ofInt 31).toInt32 = 31 := by decide +kernel
set_option maxRecDepth 100000 in
theorem kb_32 : (Int8.ofInt 32).toInt32 = 32 := by decide +kernel
set_option maxRecDepth 100000 in
theorem kb_33 : (Int8.ofInt 33).toInt32 = 33 := by decide +kernel
set_option maxRecDepth 100000 in
theorem kb_39 : (Int8.ofInt 39).toInt32 = 39 := by decide +kernel
set_option maxRecDepth 100000 in
theorem kb_40 : (Int8.ofInt 40).toInt32 = 40 := by decide +kernel
set_option maxRecDepth 100000 in
theorem kb_41 : (Int8.ofInt 41).toInt32 = 41 := by decide +kernel
set_option maxRecDepth 100000 in
theorem kb_44 : (Int8.ofInt 44).toInt32 = 44 := by decide +kernel
set_option maxRecDepth 100000 in
theorem kb_45 : (Int8.ofInt 45).toInt32 = 45 := by decide +kernel
set_option maxRecDepth 100000 in
theorem kb_46 : (Int8.ofInt 46).toInt32 = 46 := by decide +kernel
set_option maxRecDepth 100000 in
theorem kb_48 : (Int8.ofInt 48).toInt32 = 48 := by decide +kernel
set_option maxRecDepth 100000 in
theorem kb_50 : (Int8.ofInt 50).toInt32 = 50 := by decide +kernel
set_option maxRecDepth 100000 in
theorem kb_52 : (Int8.ofInt 52).toInt32 = 52 := by decide +kernel
set_option maxRecDepth 100000 in
theorem kb_54 : (Int8.ofInt 54).toInt32 = 54 := by decide +kernel
set_option maxRecDepth 100000 in
theorem kb_56 : (Int8.ofInt 56).toInt32 = 56 := by decide +kernel
set_option maxRecDepth 100000 in
theorem kb_64 : (Int8.ofInt 64).toInt32 = 64 := by decide +kernel
set_option maxRecDepth 100000 in
theorem kb_65 : (Int8.ofInt 65).toInt32 = 65 := by decide +kernel
set_option maxRecDepth 100000 in
theorem kb_74 : (Int8.ofInt 74).toInt32 = 74 := by decide +kernel
set_option maxRecDepth 100000 in
theorem kb_80 : (Int8.ofInt 80).toInt32 = 80 := by decide +kernel
set_option maxRecDepth 100000 in
theorem kb_85 : (Int8.ofInt 85).toInt32 = 85 := by decide +kernel
set_option maxRecDepth 100000 in
theorem kb_87 : (Int8.ofInt 87).toInt32 = 87 := by decide +kernel
set_option maxRecDepth 100000 in
theorem kb_99 : (Int8.ofInt 99).toInt32 = 99 := by decide +kernel
set_option maxRecDepth 100000 in
theorem kb_100 : (Int8.ofInt 100).toInt32 = 100 := by decide +kernel
set_option maxRecDepth 100000 in
theorem kb_103 : (Int8.ofInt 103).toInt32 = 103 := by decide +kernel
set_option maxRecDepth 100000 in
theorem kb_107 : (Int8.ofInt 107).toInt32 = 107 := by decide +kernel
set_option maxRecDepth 100000 in
theorem kb_112 : (Int8.ofInt 112).toInt32 = 112 := by decide +kernel
set_option maxRecDepth 100000 in
theorem kb_115 : (Int8.ofInt 115).toInt32 = 115 := by decide +kernel
set_option maxRecDepth 100000 in
theorem ks_238 : (Int16.ofInt 238).toInt32 = 238 := by decide +kernel
set_option maxRecDepth 100000 in
theorem ks_255 : (Int16.ofInt 255).toInt32 = 255 := by decide +kernel
set_option maxRecDepth 100000 in
theorem ks_256 : (Int16.ofInt 256).toInt32 = 256 := by decide +kernel
set_option maxRecDepth 100000 in
theorem ks_400 : (Int16.ofInt 400).toInt32 = 400 := by decide +kernel
set_option maxRecDepth 100000 in
theorem ks_999 : (Int16.ofInt 999).toInt32 = 999 := by decide +kernel
set_option maxRecDepth 100000 in
theorem ks_1000 : (Int16.ofInt 1000).toInt32 = 1000 := by decide +kernel
set_option maxRecDepth 100000 in
theorem ks_1024 : (Int16.ofInt 1024).toInt32 = 1024 := by decide +kernel
set_option maxRecDepth 100000 in
theorem ks_7200 : (Int16.ofInt 7200).toInt32 = 7200 := by decide +kernel
set_option maxRecDepth 100000 in
theorem ks_9999 : (Int16.ofInt 9999).toInt32 = 9999 := by decide +kernel
set_option maxRecDepth 100000 in
theorem ks_18414 : (Int16.ofInt 18414).toInt32 = 18414 := by decide +kernel
set_option maxRecDepth 100000 in
theorem gnX0 : ∀ w ∈ u_ws RX0 TX0 13, w ∈ gtb := gin [301, 303, 305, 307, 309, 311, 313, 315, 317, 319, 321, 323, 325] rfl (by decide +kernel)
set_option maxRecDepth 100000 in
theorem gnX1 : ∀ w ∈ u_ws RX1 TX1 13, w ∈ gtb := gin [199, 201, 203, 205, 207, 209, 211, 213, 215, 217, 219, 221, 223] rfl (by decide +kernel)
set_option maxRecDepth 100000 in
theorem gnX2 : ∀ w ∈ u_ws RX2 TX2 13, w ∈ gtb := gin [152, 154, 156, 158, 160, 162, 164, 166, 168, 170, 172, 174, 176] rfl (by decide +kernel)
set_option maxRecDepth 100000 in
theorem gnX3 : ∀ w ∈ u_ws RX3 TX3 13, w ∈ gtb := gin [368, 370, 372, 374, 376, 378, 380, 382, 384, 386, 388, 390, 392] rfl (by decide +kernel)
set_option maxRecDepth 100000 in
theorem gnX4 : ∀ w ∈ u_ws RX4 TX4 12, w ∈ gtb := gin [241, 243, 245, 247, 249, 251, 253, 255, 257, 259, 261, 263] rfl (by decide +kernel)
set_option maxRecDepth 100000 in
theorem gnX5 : ∀ w ∈ u_ws RX5 TX5 6, w ∈ gtb := gin [414, 416, 418, 420, 422, 424] rfl (by decide +kernel)
set_option maxRecDepth 100000 in
theorem gnX6 : ∀ w ∈ u_ws RX6 TX6 3, w ∈ gtb := gin [340, 342, 344] rfl (by decide +kernel)
set_option maxRecDepth 100000 in
theorem gnX8 : ∀ w ∈ u_ws RX8 TX8 49, w ∈ gtb := gin [1089, 1091, 1093, 1095, 1097, 1099, 1101, 1103, 1105, 1107, 1109, 1111, 1113, 1115, 1117, 1119, 1121, 1123, 1125, 1127, 1129, 1131, 1133, 1135, 1137, 1139, 1141, 1143, 1145, 1147, 1149, 1151, 1153, 1155, 1157, 1159, 1161, 1163, 1165, 1167, 1169, 1171, 1173, 1175, 1177, 1179, 1181, 1183, 1185] rfl (by decide +kernel)
set_option maxRecDepth 100000 in
theorem fl_X0_9 : qfl RX0 9 0 0 := ⟨RX0, TX0, 13, tyX0, rfl, by decide, gin (ws := [Cond.fieldLink RX0 9 (TX0 0).1 (TX0 0).2.1 (TX0 0).2.2.1]) [273] rfl (by decide +kernel) _ List.mem_cons_self, gnX0, tyX0_ok, nmX0⟩
set_option maxRecDepth 100000 in
theorem fl_X0_15 : qfl RX0 15 0 1 := ⟨RX0, TX0, 13, tyX0, rfl, by decide, gin (ws := [Cond.fieldLink RX0 15 (TX0 1).1 (TX0 1).2.1 (TX0 1).2.2.1]) [275] rfl (by decide +kernel) _ List.mem_cons_self, gnX0, tyX0_ok, nmX0⟩
set_option maxRecDepth 100000 in
theorem fl_X0_19 : qfl RX0 19 0 2 := ⟨RX0, TX0, 13, tyX0, rfl, by decide, gin (ws := [Cond.fieldLink RX0 19 (TX0 2).1 (TX0 2).2.1 (TX0 2).2.2.1]) [279] rfl (by decide +kernel) _ List.mem_cons_self, gnX0, tyX0_ok, nmX0⟩
set_option maxRecDepth 100000 in
theorem fl_X0_22 : qfl RX0 22 0 3 := ⟨RX0, TX0, 13, tyX0, rfl, by decide, gin (ws := [Cond.fieldLink RX0 22 (TX0 3).1 (TX0 3).2.1 (TX0 3).2.2.1]) [282] rfl (by decide +kernel) _ List.mem_cons_self, gnX0, tyX0_ok, nmX0⟩
set_option maxRecDepth 100000 in
theorem fl_X0_25 : qfl RX0 25 0 4 := ⟨RX0, TX0, 13, tyX0, rfl, by decide, gin (ws := [Cond.fieldLink RX0 25 (TX0 4).1 (TX0 4).2.1 (TX0 4).2.2.1]) [284] rfl (by decide +kernel) _ List.mem_cons_self, gnX0, tyX0_ok, nmX0⟩
set_option maxRecDepth 100000 in
theorem fl_X0_28 : qfl RX0 28 0 5 := ⟨RX0, TX0, 13, tyX0, rfl, by decide, gin (ws := [Cond.fieldLink RX0 28 (TX0 5).1 (TX0 5).2.1 (TX0 5).2.2.1]) [288] rfl (by decide +kernel) _ List.mem_cons_self, gnX0, tyX0_ok, nmX0⟩
set_option maxRecDepth 100000 in
theorem fl_X0_31 : qfl RX0 31 0 6 := ⟨RX0, TX0, 13, tyX0, rfl, by decide, gin (ws := [Cond.fieldLink RX0 31 (TX0 6).1 (TX0 6).2.1 (TX0 6).2.2.1]) [289] rfl (by decide +kernel) _ List.mem_cons_self, gnX0, tyX0_ok, nmX0⟩
set_option maxRecDepth 100000 in
theorem fl_X0_35 : qfl RX0 35 0 7 := ⟨RX0, TX0, 13, tyX0, rfl, by decide, gin (ws := [Cond.fieldLink RX0 35 (TX0 7).1 (TX0 7).2.1 (TX0 7).2.2.1]) [292] rfl (by decide +kernel) _ List.mem_cons_self, gnX0, tyX0_ok, nmX0⟩
set_option maxRecDepth 100000 in
theorem fl_X0_38 : qfl RX0 38 0 8 := ⟨RX0, TX0, 13, tyX0, rfl, by decide, gin (ws := [Cond.fieldLink RX0 38 (TX0 8).1 (TX0 8).2.1 (TX0 8).2.2.1]) [293] rfl (by decide +kernel) _ List.mem_cons_self, gnX0, tyX0_ok, nmX0⟩
set_option maxRecDepth 100000 in
theorem fl_X0_41 : qfl RX0 41 0 9 := ⟨RX0, TX0, 13, tyX0, rfl, by decide, gin (ws := [Cond.fieldLink RX0 41 (TX0 9).1 (TX0 9).2.1 (TX0 9).2.2.1]) [295] rfl (by decide +kernel) _ List.mem_cons_self, gnX0, tyX0_ok, nmX0⟩
set_option maxRecDepth 100000 in
theorem fl_X0_44 : qfl RX0 44 0 10 := ⟨RX0, TX0, 13, tyX0, rfl, by decide, gin (ws := [Cond.fieldLink RX0 44 (TX0 10).1 (TX0 10).2.1 (TX0 10).2.2.1]) [296] rfl (by decide +kernel) _ List.mem_cons_self, gnX0, tyX0_ok, nmX0⟩
set_option maxRecDepth 100000 in
theorem fl_X0_47 : qfl RX0 47 0 11 := ⟨RX0, TX0, 13, tyX0, rfl, by decide, gin (ws := [Cond.fieldLink RX0 47 (TX0 11).1 (TX0 11).2.1 (TX0 11).2.2.1]) [298] rfl (by decide +kernel) _ List.mem_cons_self, gnX0, tyX0_ok, nmX0⟩
set_option maxRecDepth 100000 in
theorem fl_X0_50 : qfl RX0 50 0 12 := ⟨RX0, TX0, 13, tyX0, rfl, by decide, gin (ws := [Cond.fieldLink RX0 50 (TX0 12).1 (TX0 12).2.1 (TX0 12).2.2.1]) [300] rfl (by decide +kernel) _ List.mem_cons_self, gnX0, tyX0_ok, nmX0⟩
set_option maxRecDepth 100000 in
theorem fl_X0_70 : qfl RX0 70 5 3 := ⟨RX5, TX5, 6, tyX5, rfl, by decide, gin (ws := [Cond.fieldLink RX0 70 (TX5 3).1 (TX5 3).2.1 (TX5 3).2.2.1]) [406] rfl (by decide +kernel) _ List.mem_cons_self, gnX5, tyX5_ok, nmX5⟩
set_option maxRecDepth 100000 in
theorem fl_X0_79 : qfl RX0 79 5 0 := ⟨RX5, TX5, 6, tyX5, rfl, by decide, gin (ws := [Cond.fieldLink RX0 79 (TX5 0).1 (TX5 0).2.1 (TX5 0).2.2.1]) [401] rfl (by decide +kernel) _ List.mem_cons_self, gnX5, tyX5_ok, nmX5⟩
set_option maxRecDepth 100000 in
theorem fl_X0_80 : qfl RX0 80 5 4 := ⟨RX5, TX5, 6, tyX5, rfl, by decide, gin (ws := [Cond.fieldLink RX0 80 (TX5 4).1 (TX5 4).2.1 (TX5 4).2.2.1]) [410] rfl (by decide +kernel) _ List.mem_cons_self, gnX5, tyX5_ok, nmX5⟩
set_option maxRecDepth 100000 in
theorem fl_X0_87 : qfl RX0 87 4 11 := ⟨RX4, TX4, 12, tyX4, rfl, by decide, gin (ws := [Cond.fieldLink RX0 87 (TX4 11).1 (TX4 11).2.1 (TX4 11).2.2.1]) [240] rfl (by decide +kernel) _ List.mem_cons_self, gnX4, tyX4_ok, nmX4⟩
set_option maxRecDepth 100000 in
theorem fl_X0_92 : qfl RX0 92 4 9 := ⟨RX4, TX4, 12, tyX4, rfl, by decide, gin (ws := [Cond.fieldLink RX0 92 (TX4 9).1 (TX4 9).2.1 (TX4 9).2.2.1]) [236] rfl (by decide +kernel) _ List.mem_cons_self, gnX4, tyX4_ok, nmX4⟩
set_option maxRecDepth 100000 in
theorem fl_X0_95 : qfl RX0 95 4 10 := ⟨RX4, TX4, 12, tyX4, rfl, by decide, gin (ws := [Cond.fieldLink RX0 95 (TX4 10).1 (TX4 10).2.1 (TX4 10).2.2.1]) [238] rfl (by decide +kernel) _ List.mem_cons_self, gnX4, tyX4_ok, nmX4⟩
set_option maxRecDepth 100000 in
theorem fl_X1_12 : qfl RX1 12 1 0 := ⟨RX1, TX1, 13, tyX1, rfl, by decide, gin (ws := [Cond.fieldLink RX1 12 (TX1 0).1 (TX1 0).2.1 (TX1 0).2.2.1]) [180] rfl (by decide +kernel) _ List.mem_cons_self, gnX1, tyX1_ok, nmX1⟩
set_option maxRecDepth 100000 in
theorem fl_X1_18 : qfl RX1 18 1 1 := ⟨RX1, TX1, 13, tyX1, rfl, by decide, gin (ws := [Cond.fieldLink RX1 18 (TX1 1).1 (TX1 1).2.1 (TX1 1).2.2.1]) [182] rfl (by decide +kernel) _ List.mem_cons_self, gnX1, tyX1_ok, nmX1⟩
set_option maxRecDepth 100000 in
theorem fl_X1_22 : qfl RX1 22 1 2 := ⟨RX1, TX1, 13, tyX1, rfl, by decide, gin (ws := [Cond.fieldLink RX1 22 (TX1 2).1 (TX1 2).2.1 (TX1 2).2.2.1]) [183] rfl (by decide +kernel) _ List.mem_cons_self, gnX1, tyX1_ok, nmX1⟩
set_option maxRecDepth 100000 in
theorem fl_X1_25 : qfl RX1 25 1 3 := ⟨RX1, TX1, 13, tyX1, rfl, by decide, gin (ws := [Cond.fieldLink RX1 25 (TX1 3).1 (TX1 3).2.1 (TX1 3).2.2.1]) [184] rfl (by decide +kernel) _ List.mem_cons_self, gnX1, tyX1_ok, nmX1⟩
set_option maxRecDepth 100000 in
theorem fl_X1_28 : qfl RX1 28 1 4 := ⟨RX1, TX1, 13, tyX1, rfl, by decide, gin (ws := [Cond.fieldLink RX1 28 (TX1 4).1 (TX1 4).2.1 (TX1 4).2.2.1]) [185] rfl (by decide +kernel) _ List.mem_cons_self, gnX1, tyX1_ok, nmX1⟩
set_option maxRecDepth 100000 in
theorem fl_X1_31 : qfl RX1 31 1 5 := ⟨RX1, TX1, 13, tyX1, rfl, by decide, gin (ws := [Cond.fieldLink RX1 31 (TX1 5).1 (TX1 5).2.1 (TX1 5).2.2.1]) [186] rfl (by decide +kernel) _ List.mem_cons_self, gnX1, tyX1_ok, nmX1⟩
set_option maxRecDepth 100000 in
theorem fl_X1_35 : qfl RX1 35 1 6 := ⟨RX1, TX1, 13, tyX1, rfl, by decide, gin (ws := [Cond.fieldLink RX1 35 (TX1 6).1 (TX1 6).2.1 (TX1 6).2.2.1]) [187] rfl (by decide +kernel) _ List.mem_cons_self, gnX1, tyX1_ok, nmX1⟩
set_option maxRecDepth 100000 in
theorem fl_X1_38 : qfl RX1 38 1 7 := ⟨RX1, TX1, 13, tyX1, rfl, by decide, gin (ws := [Cond.fieldLink RX1 38 (TX1 7).1 (TX1 7).2.1 (TX1 7).2.2.1]) [188] rfl (by decide +kernel) _ List.mem_cons_self, gnX1, tyX1_ok, nmX1⟩
set_option maxRecDepth 100000 in
theorem fl_X1_41 : qfl RX1 41 1 8 := ⟨RX1, TX1, 13, tyX1, rfl, by decide, gin (ws := [Cond.fieldLink RX1 41 (TX1 8).1 (TX1 8).2.1 (TX1 8).2.2.1]) [189] rfl (by decide +kernel) _ List.mem_cons_self, gnX1, tyX1_ok, nmX1⟩
set_option maxRecDepth 100000 in
theorem fl_X1_44 : qfl RX1 44 1 9 := ⟨RX1, TX1, 13, tyX1, rfl, by decide, gin (ws := [Cond.fieldLink RX1 44 (TX1 9).1 (TX1 9).2.1 (TX1 9).2.2.1]) [191] rfl (by decide +kernel) _ List.mem_cons_self, gnX1, tyX1_ok, nmX1⟩
set_option maxRecDepth 100000 in
theorem fl_X1_47 : qfl RX1 47 1 10 := ⟨RX1, TX1, 13, tyX1, rfl, by decide, gin (ws := [Cond.fieldLink RX1 47 (TX1 10).1 (TX1 10).2.1 (TX1 10).2.2.1]) [193] rfl (by decide +kernel) _ List.mem_cons_self, gnX1, tyX1_ok, nmX1⟩
set_option maxRecDepth 100000 in
theorem fl_X1_50 : qfl RX1 50 1 11 := ⟨RX1, TX1, 13, tyX1, rfl, by decide, gin (ws := [Cond.fieldLink RX1 50 (TX1 11).1 (TX1 11).2.1 (TX1 11).2.2.1]) [195] rfl (by decide +kernel) _ List.mem_cons_self, gnX1, tyX1_ok, nmX1⟩
set_option maxRecDepth 100000 in
theorem fl_X1_53 : qfl RX1 53 1 12 := ⟨RX1, TX1, 13, tyX1, rfl, by decide, gin (ws := [Cond.fieldLink RX1 53 (TX1 12).1 (TX1 12).2.1 (TX1 12).2.2.1]) [197] rfl (by decide +kernel) _ List.mem_cons_self, gnX1, tyX1_ok, nmX1⟩
set_option maxRecDepth 100000 in
theorem fl_X2_9 : qfl RX2 9 2 0 := ⟨RX2, TX2, 13, tyX2, rfl, by decide, gin (ws := [Cond.fieldLink RX2 9 (TX2 0).1 (TX2 0).2.1 (TX2 0).2.2.1]) [137] rfl (by decide +kernel) _ List.mem_cons_self, gnX2, tyX2_ok, nmX2⟩
set_option maxRecDepth 100000 in
theorem fl_X2_15 : qfl RX2 15 2 1 := ⟨RX2, TX2, 13, tyX2, rfl, by decide, gin (ws := [Cond.fieldLink RX2 15 (TX2 1).1 (TX2 1).2.1 (TX2 1).2.2.1]) [139] rfl (by decide +kernel) _ List.mem_cons_self, gnX2, tyX2_ok, nmX2⟩
set_option maxRecDepth 100000 in
theorem fl_X2_19 : qfl RX2 19 2 2 := ⟨RX2, TX2, 13, tyX2, rfl, by decide, gin (ws := [Cond.fieldLink RX2 19 (TX2 2).1 (TX2 2).2.1 (TX2 2).2.2.1]) [140] rfl (by decide +kernel) _ List.mem_cons_self, gnX2, tyX2_ok, nmX2⟩
set_option maxRecDepth 100000 in
theorem fl_X2_22 : qfl RX2 22 2 3 := ⟨RX2, TX2, 13, tyX2, rfl, by decide, gin (ws := [Cond.fieldLink RX2 22 (TX2 3).1 (TX2 3).2.1 (TX2 3).2.2.1]) [141] rfl (by decide +kernel) _ List.mem_cons_self, gnX2, tyX2_ok, nmX2⟩
set_option maxRecDepth 100000 in
theorem fl_X2_25 : qfl RX2 25 2 4 := ⟨RX2, TX2, 13, tyX2, rfl, by decide, gin (ws := [Cond.fieldLink RX2 25 (TX2 4).1 (TX2 4).2.1 (TX2 4).2.2.1]) [142] rfl (by decide +kernel) _ List.mem_cons_self, gnX2, tyX2_ok, nmX2⟩
set_option maxRecDepth 100000 in
theorem fl_X2_28 : qfl RX2 28 2 5 := ⟨RX2, TX2, 13, tyX2, rfl, by decide, gin (ws := [Cond.fieldLink RX2 28 (TX2 5).1 (TX2 5).2.1 (TX2 5).2.2.1]) [143] rfl (by decide +kernel) _ List.mem_cons_self, gnX2, tyX2_ok, nmX2⟩
set_option maxRecDepth 100000 in
theorem fl_X2_31 : qfl RX2 31 2 6 := ⟨RX2, TX2, 13, tyX2, rfl, by decide, gin (ws := [Cond.fieldLink RX2 31 (TX2 6).1 (TX2 6).2.1 (TX2 6).2.2.1]) [144] rfl (by decide +kernel) _ List.mem_cons_self, gnX2, tyX2_ok, nmX2⟩
set_option maxRecDepth 100000 in
theorem fl_X2_34 : qfl RX2 34 2 7 := ⟨RX2, TX2, 13, tyX2, rfl, by decide, gin (ws := [Cond.fieldLink RX2 34 (TX2 7).1 (TX2 7).2.1 (TX2 7).2.2.1]) [145] rfl (by decide +kernel) _ List.mem_cons_self, gnX2, tyX2_ok, nmX2⟩
set_option maxRecDepth 100000 in
theorem fl_X2_37 : qfl RX2 37 2 8 := ⟨RX2, TX2, 13, tyX2, rfl, by decide, gin (ws := [Cond.fieldLink RX2 37 (TX2 8).1 (TX2 8).2.1 (TX2 8).2.2.1]) [146] rfl (by decide +kernel) _ List.mem_cons_self, gnX2, tyX2_ok, nmX2⟩
set_option maxRecDepth 100000 in
theorem fl_X2_40 : qfl RX2 40 2 9 := ⟨RX2, TX2, 13, tyX2, rfl, by decide, gin (ws := [Cond.fieldLink RX2 40 (TX2 9).1 (TX2 9).2.1 (TX2 9).2.2.1]) [147] rfl (by decide +kernel) _ List.mem_cons_self, gnX2, tyX2_ok, nmX2⟩
set_option maxRecDepth 100000 in
theorem fl_X2_43 : qfl RX2 43 2 10 := ⟨RX2, TX2, 13, tyX2, rfl, by decide, gin (ws := [Cond.fieldLink RX2 43 (TX2 10).1 (TX2 10).2.1 (TX2 10).2.2.1]) [149] rfl (by decide +kernel) _ List.mem_cons_self, gnX2, tyX2_ok, nmX2⟩
set_option maxRecDepth 100000 in
theorem fl_X2_46 : qfl RX2 46 2 11 := ⟨RX2, TX2, 13, tyX2, rfl, by decide, gin (ws := [Cond.fieldLink RX2 46 (TX2 11).1 (TX2 11).2.1 (TX2 11).2.2.1]) [150] rfl (by decide +kernel) _ List.mem_cons_self, gnX2, tyX2_ok, nmX2⟩
set_option maxRecDepth 100000 in
theorem fl_X2_49 : qfl RX2 49 2 12 := ⟨RX2, TX2, 13, tyX2, rfl, by decide, gin (ws := [Cond.fieldLink RX2 49 (TX2 12).1 (TX2 12).2.1 (TX2 12).2.2.1]) [151] rfl (by decide +kernel) _ List.mem_cons_self, gnX2, tyX2_ok, nmX2⟩
set_option maxRecDepth 100000 in
theorem fl_X2_52 : qfl RX2 52 5 3 := ⟨RX5, TX5, 6, tyX5, rfl, by decide, gin (ws := [Cond.fieldLink RX2 52 (TX5 3).1 (TX5 3).2.1 (TX5 3).2.2.1]) [405] rfl (by decide +kernel) _ List.mem_cons_self, gnX5, tyX5_ok, nmX5⟩
set_option maxRecDepth 100000 in
theorem fl_X2_57 : qfl RX2 57 5 4 := ⟨RX5, TX5, 6, tyX5, rfl, by decide, gin (ws := [Cond.fieldLink RX2 57 (TX5 4).1 (TX5 4).2.1 (TX5 4).2.2.1]) [408] rfl (by decide +kernel) _ List.mem_cons_self, gnX5, tyX5_ok, nmX5⟩
set_option maxRecDepth 100000 in
theorem fl_X3_9 : qfl RX3 9 3 0 := ⟨RX3, TX3, 13, tyX3, rfl, by decide, gin (ws := [Cond.fieldLink RX3 9 (TX3 0).1 (TX3 0).2.1 (TX3 0).2.2.1]) [353] rfl (by decide +kernel) _ List.mem_cons_self, gnX3, tyX3_ok, nmX3⟩
set_option maxRecDepth 100000 in
theorem fl_X3_15 : qfl RX3 15 3 1 := ⟨RX3, TX3, 13, tyX3, rfl, by decide, gin (ws := [Cond.fieldLink RX3 15 (TX3 1).1 (TX3 1).2.1 (TX3 1).2.2.1]) [355] rfl (by decide +kernel) _ List.mem_cons_self, gnX3, tyX3_ok, nmX3⟩
set_option maxRecDepth 100000 in
theorem fl_X3_18 : qfl RX3 18 3 2 := ⟨RX3, TX3, 13, tyX3, rfl, by decide, gin (ws := [Cond.fieldLink RX3 18 (TX3 2).1 (TX3 2).2.1 (TX3 2).2.2.1]) [357] rfl (by decide +kernel) _ List.mem_cons_self, gnX3, tyX3_ok, nmX3⟩
set_option maxRecDepth 100000 in
theorem fl_X3_22 : qfl RX3 22 3 3 := ⟨RX3, TX3, 13, tyX3, rfl, by decide, gin (ws := [Cond.fieldLink RX3 22 (TX3 3).1 (TX3 3).2.1 (TX3 3).2.2.1]) [358] rfl (by decide +kernel) _ List.mem_cons_self, gnX3, tyX3_ok, nmX3⟩
set_option maxRecDepth 100000 in
theorem fl_X3_25 : qfl RX3 25 3 4 := ⟨RX3, TX3, 13, tyX3, rfl, by decide, gin (ws := [Cond.fieldLink RX3 25 (TX3 4).1 (TX3 4).2.1 (TX3 4).2.2.1]) [359] rfl (by decide +kernel) _ List.mem_cons_self, gnX3, tyX3_ok, nmX3⟩
set_option maxRecDepth 100000 in
theorem fl_X3_28 : qfl RX3 28 3 5 := ⟨RX3, TX3, 13, tyX3, rfl, by decide, gin (ws := [Cond.fieldLink RX3 28 (TX3 5).1 (TX3 5).2.1 (TX3 5).2.2.1]) [360] rfl (by decide +kernel) _ List.mem_cons_self, gnX3, tyX3_ok, nmX3⟩
set_option maxRecDepth 100000 in
theorem fl_X3_32 : qfl RX3 32 3 6 := ⟨RX3, TX3, 13, tyX3, rfl, by decide, gin (ws := [Cond.fieldLink RX3 32 (TX3 6).1 (TX3 6).2.1 (TX3 6).2.2.1]) [361] rfl (by decide +kernel) _ List.mem_cons_self, gnX3, tyX3_ok, nmX3⟩
set_option maxRecDepth 100000 in
theorem fl_X3_35 : qfl RX3 35 3 7 := ⟨RX3, TX3, 13, tyX3, rfl, by decide, gin (ws := [Cond.fieldLink RX3 35 (TX3 7).1 (TX3 7).2.1 (TX3 7).2.2.1]) [362] rfl (by decide +kernel) _ List.mem_cons_self, gnX3, tyX3_ok, nmX3⟩
set_option maxRecDepth 100000 in
theorem fl_X3_38 : qfl RX3 38 3 8 := ⟨RX3, TX3, 13, tyX3, rfl, by decide, gin (ws := [Cond.fieldLink RX3 38 (TX3 8).1 (TX3 8).2.1 (TX3 8).2.2.1]) [363] rfl (by decide +kernel) _ List.mem_cons_self, gnX3, tyX3_ok, nmX3⟩
set_option maxRecDepth 100000 in
theorem fl_X3_41 : qfl RX3 41 3 9 := ⟨RX3, TX3, 13, tyX3, rfl, by decide, gin (ws := [Cond.fieldLink RX3 41 (TX3 9).1 (TX3 9).2.1 (TX3 9).2.2.1]) [364] rfl (by decide +kernel) _ List.mem_cons_self, gnX3, tyX3_ok, nmX3⟩
set_option maxRecDepth 100000 in
theorem fl_X3_44 : qfl RX3 44 3 10 := ⟨RX3, TX3, 13, tyX3, rfl, by decide, gin (ws := [Cond.fieldLink RX3 44 (TX3 10).1 (TX3 10).2.1 (TX3 10).2.2.1]) [365] rfl (by decide +kernel) _ List.mem_cons_self, gnX3, tyX3_ok, nmX3⟩
set_option maxRecDepth 100000 in
theorem fl_X3_47 : qfl RX3 47 3 11 := ⟨RX3, TX3, 13, tyX3, rfl, by decide, gin (ws := [Cond.fieldLink RX3 47 (TX3 11).1 (TX3 11).2.1 (TX3 11).2.2.1]) [366] rfl (by decide +kernel) _ List.mem_cons_self, gnX3, tyX3_ok, nmX3⟩
set_option maxRecDepth 100000 in
theorem fl_X3_50 : qfl RX3 50 3 12 := ⟨RX3, TX3, 13, tyX3, rfl, by decide, gin (ws := [Cond.fieldLink RX3 50 (TX3 12).1 (TX3 12).2.1 (TX3 12).2.2.1]) [367] rfl (by decide +kernel) _ List.mem_cons_self, gnX3, tyX3_ok, nmX3⟩
set_option maxRecDepth 100000 in
theorem fl_X3_63 : qfl RX3 63 6 1 := ⟨RX6, TX6, 3, tyX6, rfl, by decide, gin (ws := [Cond.fieldLink RX3 63 (TX6 1).1 (TX6 1).2.1 (TX6 1).2.2.1]) [337] rfl (by decide +kernel) _ List.mem_cons_self, gnX6, tyX6_ok, nmX6⟩
set_option maxRecDepth 100000 in
theorem fl_X3_83 : qfl RX3 83 0 1 := ⟨RX0, TX0, 13, tyX0, rfl, by decide, gin (ws := [Cond.fieldLink RX3 83 (TX0 1).1 (TX0 1).2.1 (TX0 1).2.2.1]) [276] rfl (by decide +kernel) _ List.mem_cons_self, gnX0, tyX0_ok, nmX0⟩
set_option maxRecDepth 100000 in
theorem fl_X3_98 : qfl RX3 98 0 4 := ⟨RX0, TX0, 13, tyX0, rfl, by decide, gin (ws := [Cond.fieldLink RX3 98 (TX0 4).1 (TX0 4).2.1 (TX0 4).2.2.1]) [285] rfl (by decide +kernel) _ List.mem_cons_self, gnX0, tyX0_ok, nmX0⟩
set_option maxRecDepth 100000 in
theorem fl_X3_105 : qfl RX3 105 0 2 := ⟨RX0, TX0, 13, tyX0, rfl, by decide, gin (ws := [Cond.fieldLink RX3 105 (TX0 2).1 (TX0 2).2.1 (TX0 2).2.2.1]) [280] rfl (by decide +kernel) _ List.mem_cons_self, gnX0, tyX0_ok, nmX0⟩
set_option maxRecDepth 100000 in
theorem fl_X4_14 : qfl RX4 14 4 0 := ⟨RX4, TX4, 12, tyX4, rfl, by decide, gin (ws := [Cond.fieldLink RX4 14 (TX4 0).1 (TX4 0).2.1 (TX4 0).2.2.1]) [226] rfl (by decide +kernel) _ List.mem_cons_self, gnX4, tyX4_ok, nmX4⟩
set_option maxRecDepth 100000 in
theorem fl_X4_22 : qfl RX4 22 4 1 := ⟨RX4, TX4, 12, tyX4, rfl, by decide, gin (ws := [Cond.fieldLink RX4 22 (TX4 1).1 (TX4 1).2.1 (TX4 1).2.2.1]) [227] rfl (by decide +kernel) _ List.mem_cons_self, gnX4, tyX4_ok, nmX4⟩
set_option maxRecDepth 100000 in
theorem fl_X4_23 : qfl RX4 23 4 2 := ⟨RX4, TX4, 12, tyX4, rfl, by decide, gin (ws := [Cond.fieldLink RX4 23 (TX4 2).1 (TX4 2).2.1 (TX4 2).2.2.1]) [228] rfl (by decide +kernel) _ List.mem_cons_self, gnX4, tyX4_ok, nmX4⟩
set_option maxRecDepth 100000 in
theorem fl_X4_27 : qfl RX4 27 4 3 := ⟨RX4, TX4, 12, tyX4, rfl, by decide, gin (ws := [Cond.fieldLink RX4 27 (TX4 3).1 (TX4 3).2.1 (TX4 3).2.2.1]) [229] rfl (by decide +kernel) _ List.mem_cons_self, gnX4, tyX4_ok, nmX4⟩
set_option maxRecDepth 100000 in
theorem fl_X4_31 : qfl RX4 31 4 4 := ⟨RX4, TX4, 12, tyX4, rfl, by decide, gin (ws := [Cond.fieldLink RX4 31 (TX4 4).1 (TX4 4).2.1 (TX4 4).2.2.1]) [230] rfl (by decide +kernel) _ List.mem_cons_self, gnX4, tyX4_ok, nmX4⟩
set_option maxRecDepth 100000 in
theorem fl_X4_35 : qfl RX4 35 4 5 := ⟨RX4, TX4, 12, tyX4, rfl, by decide, gin (ws := [Cond.fieldLink RX4 35 (TX4 5).1 (TX4 5).2.1 (TX4 5).2.2.1]) [231] rfl (by decide +kernel) _ List.mem_cons_self, gnX4, tyX4_ok, nmX4⟩
set_option maxRecDepth 100000 in
theorem fl_X4_38 : qfl RX4 38 4 6 := ⟨RX4, TX4, 12, tyX4, rfl, by decide, gin (ws := [Cond.fieldLink RX4 38 (TX4 6).1 (TX4 6).2.1 (TX4 6).2.2.1]) [232] rfl (by decide +kernel) _ List.mem_cons_self, gnX4, tyX4_ok, nmX4⟩
set_option maxRecDepth 100000 in
theorem fl_X4_41 : qfl RX4 41 4 7 := ⟨RX4, TX4, 12, tyX4, rfl, by decide, gin (ws := [Cond.fieldLink RX4 41 (TX4 7).1 (TX4 7).2.1 (TX4 7).2.2.1]) [233] rfl (by decide +kernel) _ List.mem_cons_self, gnX4, tyX4_ok, nmX4⟩
set_option maxRecDepth 100000 in
theorem fl_X4_45 : qfl RX4 45 4 8 := ⟨RX4, TX4, 12, tyX4, rfl, by decide, gin (ws := [Cond.fieldLink RX4 45 (TX4 8).1 (TX4 8).2.1 (TX4 8).2.2.1]) [234] rfl (by decide +kernel) _ List.mem_cons_self, gnX4, tyX4_ok, nmX4⟩
set_option maxRecDepth 100000 in
theorem fl_X4_48 : qfl RX4 48 4 9 := ⟨RX4, TX4, 12, tyX4, rfl, by decide, gin (ws := [Cond.fieldLink RX4 48 (TX4 9).1 (TX4 9).2.1 (TX4 9).2.2.1]) [235] rfl (by decide +kernel) _ List.mem_cons_self, gnX4, tyX4_ok, nmX4⟩
set_option maxRecDepth 100000 in
theorem fl_X4_51 : qfl RX4 51 4 10 := ⟨RX4, TX4, 12, tyX4, rfl, by decide, gin (ws := [Cond.fieldLink RX4 51 (TX4 10).1 (TX4 10).2.1 (TX4 10).2.2.1]) [237] rfl (by decide +kernel) _ List.mem_cons_self, gnX4, tyX4_ok, nmX4⟩
set_option maxRecDepth 100000 in
theorem fl_X4_54 : qfl RX4 54 4 11 := ⟨RX4, TX4, 12, tyX4, rfl, by decide, gin (ws := [Cond.fieldLink RX4 54 (TX4 11).1 (TX4 11).2.1 (TX4 11).2.2.1]) [239] rfl (by decide +kernel) _ List.mem_cons_self, gnX4, tyX4_ok, nmX4⟩
set_option maxRecDepth 100000 in
theorem fl_X4_57 : qfl RX4 57 5 5 := ⟨RX5, TX5, 6, tyX5, rfl, by decide, gin (ws := [Cond.fieldLink RX4 57 (TX5 5).1 (TX5 5).2.1 (TX5 5).2.2.1]) [413] rfl (by decide +kernel) _ List.mem_cons_self, gnX5, tyX5_ok, nmX5⟩
set_option maxRecDepth 100000 in
theorem fl_X4_72 : qfl RX4 72 2 0 := ⟨RX2, TX2, 13, tyX2, rfl, by decide, gin (ws := [Cond.fieldLink RX4 72 (TX2 0).1 (TX2 0).2.1 (TX2 0).2.2.1]) [138] rfl (by decide +kernel) _ List.mem_cons_self, gnX2, tyX2_ok, nmX2⟩
set_option maxRecDepth 100000 in
theorem fl_X4_95 : qfl RX4 95 2 9 := ⟨RX2, TX2, 13, tyX2, rfl, by decide, gin (ws := [Cond.fieldLink RX4 95 (TX2 9).1 (TX2 9).2.1 (TX2 9).2.2.1]) [148] rfl (by decide +kernel) _ List.mem_cons_self, gnX2, tyX2_ok, nmX2⟩
set_option maxRecDepth 100000 in
theorem fl_X4_135 : qfl RX4 135 1 8 := ⟨RX1, TX1, 13, tyX1, rfl, by decide, gin (ws := [Cond.fieldLink RX4 135 (TX1 8).1 (TX1 8).2.1 (TX1 8).2.2.1]) [190] rfl (by decide +kernel) _ List.mem_cons_self, gnX1, tyX1_ok, nmX1⟩
set_option maxRecDepth 100000 in
theorem fl_X4_138 : qfl RX4 138 1 11 := ⟨RX1, TX1, 13, tyX1, rfl, by decide, gin (ws := [Cond.fieldLink RX4 138 (TX1 11).1 (TX1 11).2.1 (TX1 11).2.2.1]) [196] rfl (by decide +kernel) _ List.mem_cons_self, gnX1, tyX1_ok, nmX1⟩
set_option maxRecDepth 100000 in
theorem fl_X4_147 : qfl RX4 147 1 10 := ⟨RX1, TX1, 13, tyX1, rfl, by decide, gin (ws := [Cond.fieldLink RX4 147 (TX1 10).1 (TX1 10).2.1 (TX1 10).2.2.1]) [194] rfl (by decide +kernel) _ List.mem_cons_self, gnX1, tyX1_ok, nmX1⟩
set_option maxRecDepth 100000 in
theorem fl_X4_150 : qfl RX4 150 1 12 := ⟨RX1, TX1, 13, tyX1, rfl, by decide, gin (ws := [Cond.fieldLink RX4 150 (TX1 12).1 (TX1 12).2.1 (TX1 12).2.2.1]) [198] rfl (by decide +kernel) _ List.mem_cons_self, gnX1, tyX1_ok, nmX1⟩
set_option maxRecDepth 100000 in
theorem fl_X4_163 : qfl RX4 163 1 9 := ⟨RX1, TX1, 13, tyX1, rfl, by decide, gin (ws := [Cond.fieldLink RX4 163 (TX1 9).1 (TX1 9).2.1 (TX1 9).2.2.1]) [192] rfl (by decide +kernel) _ List.mem_cons_self, gnX1, tyX1_ok, nmX1⟩
set_option maxRecDepth 100000 in
theorem fl_X4_166 : qfl RX4 166 5 4 := ⟨RX5, TX5, 6, tyX5, rfl, by decide, gin (ws := [Cond.fieldLink RX4 166 (TX5 4).1 (TX5 4).2.1 (TX5 4).2.2.1]) [411] rfl (by decide +kernel) _ List.mem_cons_self, gnX5, tyX5_ok, nmX5⟩
set_option maxRecDepth 100000 in
theorem fl_X5_9 : qfl RX5 9 5 0 := ⟨RX5, TX5, 6, tyX5, rfl, by decide, gin (ws := [Cond.fieldLink RX5 9 (TX5 0).1 (TX5 0).2.1 (TX5 0).2.2.1]) [400] rfl (by decide +kernel) _ List.mem_cons_self, gnX5, tyX5_ok, nmX5⟩
set_option maxRecDepth 100000 in
theorem fl_X5_15 : qfl RX5 15 5 1 := ⟨RX5, TX5, 6, tyX5, rfl, by decide, gin (ws := [Cond.fieldLink RX5 15 (TX5 1).1 (TX5 1).2.1 (TX5 1).2.2.1]) [402] rfl (by decide +kernel) _ List.mem_cons_self, gnX5, tyX5_ok, nmX5⟩
set_option maxRecDepth 100000 in
theorem fl_X5_18 : qfl RX5 18 5 2 := ⟨RX5, TX5, 6, tyX5, rfl, by decide, gin (ws := [Cond.fieldLink RX5 18 (TX5 2).1 (TX5 2).2.1 (TX5 2).2.2.1]) [403] rfl (by decide +kernel) _ List.mem_cons_self, gnX5, tyX5_ok, nmX5⟩
set_option maxRecDepth 100000 in
theorem fl_X5_21 : qfl RX5 21 5 3 := ⟨RX5, TX5, 6, tyX5, rfl, by decide, gin (ws := [Cond.fieldLink RX5 21 (TX5 3).1 (TX5 3).2.1 (TX5 3).2.2.1]) [404] rfl (by decide +kernel) _ List.mem_cons_self, gnX5, tyX5_ok, nmX5⟩
set_option maxRecDepth 100000 in
theorem fl_X5_24 : qfl RX5 24 5 4 := ⟨RX5, TX5, 6, tyX5, rfl, by decide, gin (ws := [Cond.fieldLink RX5 24 (TX5 4).1 (TX5 4).2.1 (TX5 4).2.2.1]) [407] rfl (by decide +kernel) _ List.mem_cons_self, gnX5, tyX5_ok, nmX5⟩
set_option maxRecDepth 100000 in
theorem fl_X5_28 : qfl RX5 28 5 5 := ⟨RX5, TX5, 6, tyX5, rfl, by decide, gin (ws := [Cond.fieldLink RX5 28 (TX5 5).1 (TX5 5).2.1 (TX5 5).2.2.1]) [412] rfl (by decide +kernel) _ List.mem_cons_self, gnX5, tyX5_ok, nmX5⟩
set_option maxRecDepth 100000 in
theorem fl_X6_9 : qfl RX6 9 6 0 := ⟨RX6, TX6, 3, tyX6, rfl, by decide, gin (ws := [Cond.fieldLink RX6 9 (TX6 0).1 (TX6 0).2.1 (TX6 0).2.2.1]) [335] rfl (by decide +kernel) _ List.mem_cons_self, gnX6, tyX6_ok, nmX6⟩
set_option maxRecDepth 100000 in
theorem fl_X6_15 : qfl RX6 15 6 1 := ⟨RX6, TX6, 3, tyX6, rfl, by decide, gin (ws := [Cond.fieldLink RX6 15 (TX6 1).1 (TX6 1).2.1 (TX6 1).2.2.1]) [336] rfl (by decide +kernel) _ List.mem_cons_self, gnX6, tyX6_ok, nmX6⟩
set_option maxRecDepth 100000 in
theorem fl_X6_19 : qfl RX6 19 6 2 := ⟨RX6, TX6, 3, tyX6, rfl, by decide, gin (ws := [Cond.fieldLink RX6 19 (TX6 2).1 (TX6 2).2.1 (TX6 2).2.2.1]) [339] rfl (by decide +kernel) _ List.mem_cons_self, gnX6, tyX6_ok, nmX6⟩
set_option maxRecDepth 100000 in
theorem fl_X6_32 : qfl RX6 32 0 1 := ⟨RX0, TX0, 13, tyX0, rfl, by decide, gin (ws := [Cond.fieldLink RX6 32 (TX0 1).1 (TX0 1).2.1 (TX0 1).2.2.1]) [277] rfl (by decide +kernel) _ List.mem_cons_self, gnX0, tyX0_ok, nmX0⟩
set_option maxRecDepth 100000 in
theorem fl_X6_41 : qfl RX6 41 0 4 := ⟨RX0, TX0, 13, tyX0, rfl, by decide, gin (ws := [Cond.fieldLink RX6 41 (TX0 4).1 (TX0 4).2.1 (TX0 4).2.2.1]) [286] rfl (by decide +kernel) _ List.mem_cons_self, gnX0, tyX0_ok, nmX0⟩
set_option maxRecDepth 100000 in
theorem fl_X6_47 : qfl RX6 47 0 6 := ⟨RX0, TX0, 13, tyX0, rfl, by decide, gin (ws := [Cond.fieldLink RX6 47 (TX0 6).1 (TX0 6).2.1 (TX0 6).2.2.1]) [290] rfl (by decide +kernel) _ List.mem_cons_self, gnX0, tyX0_ok, nmX0⟩
set_option maxRecDepth 100000 in
theorem fl_X6_72 : qfl RX6 72 0 8 := ⟨RX0, TX0, 13, tyX0, rfl, by decide, gin (ws := [Cond.fieldLink RX6 72 (TX0 8).1 (TX0 8).2.1 (TX0 8).2.2.1]) [294] rfl (by decide +kernel) _ List.mem_cons_self, gnX0, tyX0_ok, nmX0⟩
set_option maxRecDepth 100000 in
theorem fl_X8_7 : qfl RX8 7 8 1 := ⟨RX8, TX8, 49, tyX8, rfl, by decide, gin (ws := [Cond.fieldLink RX8 7 (TX8 1).1 (TX8 1).2.1 (TX8 1).2.2.1]) [1041] rfl (by decide +kernel) _ List.mem_cons_self, gnX8, tyX8_ok, nmX8⟩
set_option maxRecDepth 100000 in
theorem fl_X8_13 : qfl RX8 13 8 2 := ⟨RX8, TX8, 49, tyX8, rfl, by decide, gin (ws := [Cond.fieldLink RX8 13 (TX8 2).1 (TX8 2).2.1 (TX8 2).2.2.1]) [1042] rfl (by decide +kernel) _ List.mem_cons_self, gnX8, tyX8_ok, nmX8⟩
set_option maxRecDepth 100000 in
theorem fl_X8_16 : qfl RX8 16 8 3 := ⟨RX8, TX8, 49, tyX8, rfl, by decide, gin (ws := [Cond.fieldLink RX8 16 (TX8 3).1 (TX8 3).2.1 (TX8 3).2.2.1]) [1043] rfl (by decide +kernel) _ List.mem_cons_self, gnX8, tyX8_ok, nmX8⟩
set_option maxRecDepth 100000 in
theorem fl_X8_19 : qfl RX8 19 8 4 := ⟨RX8, TX8, 49, tyX8, rfl, by decide, gin (ws := [Cond.fieldLink RX8 19 (TX8 4).1 (TX8 4).2.1 (TX8 4).2.2.1]) [1044] rfl (by decide +kernel) _ List.mem_cons_self, gnX8, tyX8_ok, nmX8⟩
set_option maxRecDepth 100000 in
theorem fl_X8_22 : qfl RX8 22 8 5 := ⟨RX8, TX8, 49, tyX8, rfl, by decide, gin (ws := [Cond.fieldLink RX8 22 (TX8 5).1 (TX8 5).2.1 (TX8 5).2.2.1]) [1045] rfl (by decide +kernel) _ List.mem_cons_self, gnX8, tyX8_ok, nmX8⟩
set_option maxRecDepth 100000 in
theorem fl_X8_25 : qfl RX8 25 8 6 := ⟨RX8, TX8, 49, tyX8, rfl, by decide, gin (ws := [Cond.fieldLink RX8 25 (TX8 6).1 (TX8 6).2.1 (TX8 6).2.2.1]) [1046] rfl (by decide +kernel) _ List.mem_cons_self, gnX8, tyX8_ok, nmX8⟩
set_option maxRecDepth 100000 in
theorem fl_X8_28 : qfl RX8 28 8 7 := ⟨RX8, TX8, 49, tyX8, rfl, by decide, gin (ws := [Cond.fieldLink RX8 28 (TX8 7).1 (TX8 7).2.1 (TX8 7).2.2.1]) [1047] rfl (by decide +kernel) _ List.mem_cons_self, gnX8, tyX8_ok, nmX8⟩
set_option maxRecDepth 100000 in
theorem fl_X8_31 : qfl RX8 31 8 8 := ⟨RX8, TX8, 49, tyX8, rfl, by decide, gin (ws := [Cond.fieldLink RX8 31 (TX8 8).1 (TX8 8).2.1 (TX8 8).2.2.1]) [1048] rfl (by decide +kernel) _ List.mem_cons_self, gnX8, tyX8_ok, nmX8⟩
set_option maxRecDepth 100000 in
theorem fl_X8_34 : qfl RX8 34 8 11 := ⟨RX8, TX8, 49, tyX8, rfl, by decide, gin (ws := [Cond.fieldLink RX8 34 (TX8 11).1 (TX8 11).2.1 (TX8 11).2.2.1]) [1051] rfl (by decide +kernel) _ List.mem_cons_self, gnX8, tyX8_ok, nmX8⟩
set_option maxRecDepth 100000 in
theorem fl_X8_37 : qfl RX8 37 8 12 := ⟨RX8, TX8, 49, tyX8, rfl, by decide, gin (ws := [Cond.fieldLink RX8 37 (TX8 12).1 (TX8 12).2.1 (TX8 12).2.2.1]) [1052] rfl (by decide +kernel) _ List.mem_cons_self, gnX8, tyX8_ok, nmX8⟩
set_option maxRecDepth 100000 in
theorem fl_X8_40 : qfl RX8 40 8 13 := ⟨RX8, TX8, 49, tyX8, rfl, by decide, gin (ws := [Cond.fieldLink RX8 40 (TX8 13).1 (TX8 13).2.1 (TX8 13).2.2.1]) [1053] rfl (by decide +kernel) _ List.mem_cons_self, gnX8, tyX8_ok, nmX8⟩
set_option maxRecDepth 100000 in
theorem fl_X8_43 : qfl RX8 43 8 14 := ⟨RX8, TX8, 49, tyX8, rfl, by decide, gin (ws := [Cond.fieldLink RX8 43 (TX8 14).1 (TX8 14).2.1 (TX8 14).2.2.1]) [1054] rfl (by decide +kernel) _ List.mem_cons_self, gnX8, tyX8_ok, nmX8⟩
set_option maxRecDepth 100000 in
theorem fl_X8_47 : qfl RX8 47 8 15 := ⟨RX8, TX8, 49, tyX8, rfl, by decide, gin (ws := [Cond.fieldLink RX8 47 (TX8 15).1 (TX8 15).2.1 (TX8 15).2.2.1]) [1055] rfl (by decide +kernel) _ List.mem_cons_self, gnX8, tyX8_ok, nmX8⟩
set_option maxRecDepth 100000 in
theorem fl_X8_51 : qfl RX8 51 8 16 := ⟨RX8, TX8, 49, tyX8, rfl, by decide, gin (ws := [Cond.fieldLink RX8 51 (TX8 16).1 (TX8 16).2.1 (TX8 16).2.2.1]) [1056] rfl (by decide +kernel) _ List.mem_cons_self, gnX8, tyX8_ok, nmX8⟩
set_option maxRecDepth 100000 in
theorem fl_X8_54 : qfl RX8 54 8 17 := ⟨RX8, TX8, 49, tyX8, rfl, by decide, gin (ws := [Cond.fieldLink RX8 54 (TX8 17).1 (TX8 17).2.1 (TX8 17).2.2.1]) [1057] rfl (by decide +kernel) _ List.mem_cons_self, gnX8, tyX8_ok, nmX8⟩
set_option maxRecDepth 100000 in
theorem fl_X8_57 : qfl RX8 57 8 18 := ⟨RX8, TX8, 49, tyX8, rfl, by decide, gin (ws := [Cond.fieldLink RX8 57 (TX8 18).1 (TX8 18).2.1 (TX8 18).2.2.1]) [1058] rfl (by decide +kernel) _ List.mem_cons_self, gnX8, tyX8_ok, nmX8⟩
set_option maxRecDepth 100000 in
theorem fl_X8_60 : qfl RX8 60 8 19 := ⟨RX8, TX8, 49, tyX8, rfl, by decide, gin (ws := [Cond.fieldLink RX8 60 (TX8 19).1 (TX8 19).2.1 (TX8 19).2.2.1]) [1059] rfl (by decide +kernel) _ List.mem_cons_self, gnX8, tyX8_ok, nmX8⟩
set_option maxRecDepth 100000 in
theorem fl_X8_63 : qfl RX8 63 8 20 := ⟨RX8, TX8, 49, tyX8, rfl, by decide, gin (ws := [Cond.fieldLink RX8 63 (TX8 20).1 (TX8 20).2.1 (TX8 20).2.2.1]) [1060] rfl (by decide +kernel) _ List.mem_cons_self, gnX8, tyX8_ok, nmX8⟩
set_option maxRecDepth 100000 in
theorem fl_X8_66 : qfl RX8 66 8 21 := ⟨RX8, TX8, 49, tyX8, rfl, by decide, gin (ws := [Cond.fieldLink RX8 66 (TX8 21).1 (TX8 21).2.1 (TX8 21).2.2.1]) [1061] rfl (by decide +kernel) _ List.mem_cons_self, gnX8, tyX8_ok, nmX8⟩
set_option maxRecDepth 100000 in
theorem fl_X8_69 : qfl RX8 69 8 22 := ⟨RX8, TX8, 49, tyX8, rfl, by decide, gin (ws := [Cond.fieldLink RX8 69 (TX8 22).1 (TX8 22).2.1 (TX8 22).2.2.1]) [1062] rfl (by decide +kernel) _ List.mem_cons_self, gnX8, tyX8_ok, nmX8⟩
set_option maxRecDepth 100000 in
theorem fl_X8_72 : qfl RX8 72 8 23 := ⟨RX8, TX8, 49, tyX8, rfl, by decide, gin (ws := [Cond.fieldLink RX8 72 (TX8 23).1 (TX8 23).2.1 (TX8 23).2.2.1]) [1063] rfl (by decide +kernel) _ List.mem_cons_self, gnX8, tyX8_ok, nmX8⟩
set_option maxRecDepth 100000 in
theorem fl_X8_75 : qfl RX8 75 8 24 := ⟨RX8, TX8, 49, tyX8, rfl, by decide, gin (ws := [Cond.fieldLink RX8 75 (TX8 24).1 (TX8 24).2.1 (TX8 24).2.2.1]) [1064] rfl (by decide +kernel) _ List.mem_cons_self, gnX8, tyX8_ok, nmX8⟩
set_option maxRecDepth 100000 in
theorem fl_X8_78 : qfl RX8 78 8 25 := ⟨RX8, TX8, 49, tyX8, rfl, by decide, gin (ws := [Cond.fieldLink RX8 78 (TX8 25).1 (TX8 25).2.1 (TX8 25).2.2.1]) [1065] rfl (by decide +kernel) _ List.mem_cons_self, gnX8, tyX8_ok, nmX8⟩
set_option maxRecDepth 100000 in
theorem fl_X8_81 : qfl RX8 81 8 26 := ⟨RX8, TX8, 49, tyX8, rfl, by decide, gin (ws := [Cond.fieldLink RX8 81 (TX8 26).1 (TX8 26).2.1 (TX8 26).2.2.1]) [1066] rfl (by decide +kernel) _ List.mem_cons_self, gnX8, tyX8_ok, nmX8⟩
set_option maxRecDepth 100000 in
theorem fl_X8_84 : qfl RX8 84 8 29 := ⟨RX8, TX8, 49, tyX8, rfl, by decide, gin (ws := [Cond.fieldLink RX8 84 (TX8 29).1 (TX8 29).2.1 (TX8 29).2.2.1]) [1069] rfl (by decide +kernel) _ List.mem_cons_self, gnX8, tyX8_ok, nmX8⟩
set_option maxRecDepth 100000 in
theorem fl_X8_87 : qfl RX8 87 8 32 := ⟨RX8, TX8, 49, tyX8, rfl, by decide, gin (ws := [Cond.fieldLink RX8 87 (TX8 32).1 (TX8 32).2.1 (TX8 32).2.2.1]) [1072] rfl (by decide +kernel) _ List.mem_cons_self, gnX8, tyX8_ok, nmX8⟩
set_option maxRecDepth 100000 in
theorem fl_X8_91 : qfl RX8 91 8 37 := ⟨RX8, TX8, 49, tyX8, rfl, by decide, gin (ws := [Cond.fieldLink RX8 91 (TX8 37).1 (TX8 37).2.1 (TX8 37).2.2.1]) [1077] rfl (by decide +kernel) _ List.mem_cons_self, gnX8, tyX8_ok, nmX8⟩
set_option maxRecDepth 100000 in
theorem fl_X8_94 : qfl RX8 94 8 38 := ⟨RX8, TX8, 49, tyX8, rfl, by decide, gin (ws := [Cond.fieldLink RX8 94 (TX8 38).1 (TX8 38).2.1 (TX8 38).2.2.1]) [1078] rfl (by decide +kernel) _ List.mem_cons_self, gnX8, tyX8_ok, nmX8⟩
set_option maxRecDepth 100000 in
theorem fl_X8_97 : qfl RX8 97 8 39 := ⟨RX8, TX8, 49, tyX8, rfl, by decide, gin (ws := [Cond.fieldLink RX8 97 (TX8 39).1 (TX8 39).2.1 (TX8 39).2.2.1]) [1079] rfl (by decide +kernel) _ List.mem_cons_self, gnX8, tyX8_ok, nmX8⟩
set_option maxRecDepth 100000 in
theorem fl_X8_100 : qfl RX8 100 8 40 := ⟨RX8, TX8, 49, tyX8, rfl, by decide, gin (ws := [Cond.fieldLink RX8 100 (TX8 40).1 (TX8 40).2.1 (TX8 40).2.2.1]) [1080] rfl (by decide +kernel) _ List.mem_cons_self, gnX8, tyX8_ok, nmX8⟩
set_option maxRecDepth 100000 in
theorem fl_X8_103 : qfl RX8 103 8 41 := ⟨RX8, TX8, 49, tyX8, rfl, by decide, gin (ws := [Cond.fieldLink RX8 103 (TX8 41).1 (TX8 41).2.1 (TX8 41).2.2.1]) [1081] rfl (by decide +kernel) _ List.mem_cons_self, gnX8, tyX8_ok, nmX8⟩
set_option maxRecDepth 100000 in
theorem fl_X8_106 : qfl RX8 106 8 42 := ⟨RX8, TX8, 49, tyX8, rfl, by decide, gin (ws := [Cond.fieldLink RX8 106 (TX8 42).1 (TX8 42).2.1 (TX8 42).2.2.1]) [1082] rfl (by decide +kernel) _ List.mem_cons_self, gnX8, tyX8_ok, nmX8⟩
set_option maxRecDepth 100000 in
theorem fl_X8_109 : qfl RX8 109 8 47 := ⟨RX8, TX8, 49, tyX8, rfl, by decide, gin (ws := [Cond.fieldLink RX8 109 (TX8 47).1 (TX8 47).2.1 (TX8 47).2.2.1]) [1087] rfl (by decide +kernel) _ List.mem_cons_self, gnX8, tyX8_ok, nmX8⟩
set_option maxRecDepth 100000 in
theorem fl_X8_112 : qfl RX8 112 8 48 := ⟨RX8, TX8, 49, tyX8, rfl, by decide, gin (ws := [Cond.fieldLink RX8 112 (TX8 48).1 (TX8 48).2.1 (TX8 48).2.2.1]) [1088] rfl (by decide +kernel) _ List.mem_cons_self, gnX8, tyX8_ok, nmX8⟩
set_option maxRecDepth 100000 in
theorem fl_X8_115 : qfl RX8 115 8 0 := ⟨RX8, TX8, 49, tyX8, rfl, by decide, gin (ws := [Cond.fieldLink RX8 115 (TX8 0).1 (TX8 0).2.1 (TX8 0).2.2.1]) [1040] rfl (by decide +kernel) _ List.mem_cons_self, gnX8, tyX8_ok, nmX8⟩
set_option maxRecDepth 100000 in
theorem fl_X8_137 : qfl RX8 137 8 9 := ⟨RX8, TX8, 49, tyX8, rfl, by decide, gin (ws := [Cond.fieldLink RX8 137 (TX8 9).1 (TX8 9).2.1 (TX8 9).2.2.1]) [1049] rfl (by decide +kernel) _ List.mem_cons_self, gnX8, tyX8_ok, nmX8⟩
set_option maxRecDepth 100000 in
theorem fl_X8_140 : qfl RX8 140 8 10 := ⟨RX8, TX8, 49, tyX8, rfl, by decide, gin (ws := [Cond.fieldLink RX8 140 (TX8 10).1 (TX8 10).2.1 (TX8 10).2.2.1]) [1050] rfl (by decide +kernel) _ List.mem_cons_self, gnX8, tyX8_ok, nmX8⟩
set_option maxRecDepth 100000 in
theorem fl_X8_226 : qfl RX8 226 8 27 := ⟨RX8, TX8, 49, tyX8, rfl, by decide, gin (ws := [Cond.fieldLink RX8 226 (TX8 27).1 (TX8 27).2.1 (TX8 27).2.2.1]) [1067] rfl (by decide +kernel) _ List.mem_cons_self, gnX8, tyX8_ok, nmX8⟩
set_option maxRecDepth 100000 in
theorem fl_X8_235 : qfl RX8 235 8 28 := ⟨RX8, TX8, 49, tyX8, rfl, by decide, gin (ws := [Cond.fieldLink RX8 235 (TX8 28).1 (TX8 28).2.1 (TX8 28).2.2.1]) [1068] rfl (by decide +kernel) _ List.mem_cons_self, gnX8, tyX8_ok, nmX8⟩
set_option maxRecDepth 100000 in
theorem fl_X8_255 : qfl RX8 255 8 30 := ⟨RX8, TX8, 49, tyX8, rfl, by decide, gin (ws := [Cond.fieldLink RX8 255 (TX8 30).1 (TX8 30).2.1 (TX8 30).2.2.1]) [1070] rfl (by decide +kernel) _ List.mem_cons_self, gnX8, tyX8_ok, nmX8⟩
set_option maxRecDepth 100000 in
theorem fl_X8_261 : qfl RX8 261 8 33 := ⟨RX8, TX8, 49, tyX8, rfl, by decide, gin (ws := [Cond.fieldLink RX8 261 (TX8 33).1 (TX8 33).2.1 (TX8 33).2.2.1]) [1073] rfl (by decide +kernel) _ List.mem_cons_self, gnX8, tyX8_ok, nmX8⟩
set_option maxRecDepth 100000 in
theorem fl_X8_271 : qfl RX8 271 8 31 := ⟨RX8, TX8, 49, tyX8, rfl, by decide, gin (ws := [Cond.fieldLink RX8 271 (TX8 31).1 (TX8 31).2.1 (TX8 31).2.2.1]) [1071] rfl (by decide +kernel) _ List.mem_cons_self, gnX8, tyX8_ok, nmX8⟩
set_option maxRecDepth 100000 in
theorem fl_X8_274 : qfl RX8 274 8 34 := ⟨RX8, TX8, 49, tyX8, rfl, by decide, gin (ws := [Cond.fieldLink RX8 274 (TX8 34).1 (TX8 34).2.1 (TX8 34).2.2.1]) [1074] rfl (by decide +kernel) _ List.mem_cons_self, gnX8, tyX8_ok, nmX8⟩
set_option maxRecDepth 100000 in
theorem fl_X8_280 : qfl RX8 280 8 35 := ⟨RX8, TX8, 49, tyX8, rfl, by decide, gin (ws := [Cond.fieldLink RX8 280 (TX8 35).1 (TX8 35).2.1 (TX8 35).2.2.1]) [1075] rfl (by decide +kernel) _ List.mem_cons_self, gnX8, tyX8_ok, nmX8⟩
set_option maxRecDepth 100000 in
theorem fl_X8_283 : qfl RX8 283 8 36 := ⟨RX8, TX8, 49, tyX8, rfl, by decide, gin (ws := [Cond.fieldLink RX8 283 (TX8 36).1 (TX8 36).2.1 (TX8 36).2.2.1]) [1076] rfl (by decide +kernel) _ List.mem_cons_self, gnX8, tyX8_ok, nmX8⟩
set_option maxRecDepth 100000 in
theorem fl_X8_295 : qfl RX8 295 8 43 := ⟨RX8, TX8, 49, tyX8, rfl, by decide, gin (ws := [Cond.fieldLink RX8 295 (TX8 43).1 (TX8 43).2.1 (TX8 43).2.2.1]) [1083] rfl (by decide +kernel) _ List.mem_cons_self, gnX8, tyX8_ok, nmX8⟩
set_option maxRecDepth 100000 in
theorem fl_X8_318 : qfl RX8 318 8 44 := ⟨RX8, TX8, 49, tyX8, rfl, by decide, gin (ws := [Cond.fieldLink RX8 318 (TX8 44).1 (TX8 44).2.1 (TX8 44).2.2.1]) [1084] rfl (by decide +kernel) _ List.mem_cons_self, gnX8, tyX8_ok, nmX8⟩
set_option maxRecDepth 100000 in
theorem fl_X8_321 : qfl RX8 321 8 45 := ⟨RX8, TX8, 49, tyX8, rfl, by decide, gin (ws := [Cond.fieldLink RX8 321 (TX8 45).1 (TX8 45).2.1 (TX8 45).2.2.1]) [1085] rfl (by decide +kernel) _ List.mem_cons_self, gnX8, tyX8_ok, nmX8⟩
set_option maxRecDepth 100000 in
theorem fl_X8_330 : qfl RX8 330 8 46 := ⟨RX8, TX8, 49, tyX8, rfl, by decide, gin (ws := [Cond.fieldLink RX8 330 (TX8 46).1 (TX8 46).2.1 (TX8 46).2.2.1]) [1086] rfl (by decide +kernel) _ List.mem_cons_self, gnX8, tyX8_ok, nmX8⟩
set_option maxRecDepth 100000 in
theorem kc_J6_264 : Cond.constant RJ6 264 65536 ∈ gtb := gin (ws := [Cond.constant RJ6 264 65536]) [611] rfl (by decide +kernel) _ List.mem_cons_self
set_option maxRecDepth 100000 in
theorem kc_X4_111 : Cond.constant RX4 111 65536 ∈ gtb := gin (ws := [Cond.constant RX4 111 65536]) [660] rfl (by decide +kernel) _ List.mem_cons_self
set_option maxRecDepth 100000 in
theorem kc_X4_112 : Cond.constant RX4 112 131072 ∈ gtb := gin (ws := [Cond.constant RX4 112 131072]) [661] rfl (by decide +kernel) _ List.mem_cons_self
set_option maxRecDepth 100000 in
theorem kl_X8_191 : Cond.constantLong RX8 191 (-1) ∈ gtb := gin (ws := [Cond.constantLong RX8 191 (-1)]) [1241] rfl (by decide +kernel) _ List.mem_cons_self
set_option maxRecDepth 100000 in
theorem fp_0_0 : qfp 0 0 .boolean = true := by decide +kernel
set_option maxRecDepth 100000 in
theorem fp_0_1 : qfp 0 1 .int = true := by decide +kernel
set_option maxRecDepth 100000 in
theorem fp_0_12 : qfp 0 12 .int = true := by decide +kernel
set_option maxRecDepth 100000 in
theorem fp_0_2 : qfp 0 2 .int = true := by decide +kernel
set_option maxRecDepth 100000 in
theorem fp_0_3 : qfp 0 3 .int = true := by decide +kernel
set_option maxRecDepth 100000 in
theorem fp_0_4 : qfp 0 4 .int = true := by decide +kernel
set_option maxRecDepth 100000 in
theorem fp_0_5 : qfp 0 5 .int = true := by decide +kernel
set_option maxRecDepth 100000 in
theorem fp_1_1 : qfp 1 1 .int = true := by decide +kernel
set_option maxRecDepth 100000 in
theorem fp_1_10 : qfp 1 10 .int = true := by decide +kernel
set_option maxRecDepth 100000 in
theorem fp_1_11 : qfp 1 11 .int = true := by decide +kernel
set_option maxRecDepth 100000 in
theorem fp_1_12 : qfp 1 12 .int = true := by decide +kernel
set_option maxRecDepth 100000 in
theorem fp_1_2 : qfp 1 2 .int = true := by decide +kernel
set_option maxRecDepth 100000 in
theorem fp_1_3 : qfp 1 3 .int = true := by decide +kernel
set_option maxRecDepth 100000 in
theorem fp_1_4 : qfp 1 4 .int = true := by decide +kernel
set_option maxRecDepth 100000 in
theorem fp_1_8 : qfp 1 8 .int = true := by decide +kernel
set_option maxRecDepth 100000 in
theorem fp_1_9 : qfp 1 9 .int = true := by decide +kernel
set_option maxRecDepth 100000 in
theorem fp_2_0 : qfp 2 0 .int = true := by decide +kernel
set_option maxRecDepth 100000 in
theorem fp_2_10 : qfp 2 10 .int = true := by decide +kernel
set_option maxRecDepth 100000 in
theorem fp_2_11 : qfp 2 11 .int = true := by decide +kernel
set_option maxRecDepth 100000 in
theorem fp_2_12 : qfp 2 12 .int = true := by decide +kernel
set_option maxRecDepth 100000 in
theorem fp_2_9 : qfp 2 9 .int = true := by decide +kernel
set_option maxRecDepth 100000 in
theorem fp_3_0 : qfp 3 0 .int = true := by decide +kernel
set_option maxRecDepth 100000 in
theorem fp_3_1 : qfp 3 1 .int = true := by decide +kernel
set_option maxRecDepth 100000 in
theorem fp_3_10 : qfp 3 10 .int = true := by decide +kernel
set_option maxRecDepth 100000 in
theorem fp_3_11 : qfp 3 11 .int = true := by decide +kernel
set_option maxRecDepth 100000 in
theorem fp_3_12 : qfp 3 12 .int = true := by decide +kernel
set_option maxRecDepth 100000 in
theorem fp_3_2 : qfp 3 2 (.object "QuireDesk$Strip") = true := by decide +kernel
set_option maxRecDepth 100000 in
theorem fp_3_3 : qfp 3 3 .int = true := by decide +kernel
set_option maxRecDepth 100000 in
theorem fp_3_4 : qfp 3 4 .int = true := by decide +kernel
set_option maxRecDepth 100000 in
theorem fp_3_8 : qfp 3 8 .int = true := by decide +kernel
set_option maxRecDepth 100000 in
theorem fp_3_9 : qfp 3 9 .int = true := by decide +kernel
set_option maxRecDepth 100000 in
theorem fp_4_11 : qfp 4 11 .int = true := by decide +kernel
set_option maxRecDepth 100000 in
theorem fp_4_2 : qfp 4 2 (.object "QuireDesk$Row") = true := by decide +kernel
set_option maxRecDepth 100000 in
theorem fp_4_3 : qfp 4 3 .int = true := by decide +kernel
set_option maxRecDepth 100000 in
theorem fp_5_4 : qfp 5 4 .int = true := by decide +kernel
set_option maxRecDepth 100000 in
theorem fp_5_5 : qfp 5 5 .boolean = true := by decide +kernel
set_option maxRecDepth 100000 in
theorem fp_6_1 : qfp 6 1 .int = true := by decide +kernel
set_option maxRecDepth 100000 in
theorem fp_6_2 : qfp 6 2 .int = true := by decide +kernel
set_option maxRecDepth 100000 in
theorem fp_8_0 : qfp 8 0 .int = true := by decide +kernel
set_option maxRecDepth 100000 in
theorem fp_8_10 : qfp 8 10 .int = true := by decide +kernel
set_option maxRecDepth 100000 in
theorem fp_8_27 : qfp 8 27 .int = true := by decide +kernel
set_option maxRecDepth 100000 in
theorem fp_8_28 : qfp 8 28 .int = true := by decide +kernel
set_option maxRecDepth 100000 in
theorem fp_8_30 : qfp 8 30 .int = true := by decide +kernel
set_option maxRecDepth 100000 in
theorem fp_8_31 : qfp 8 31 .int = true := by decide +kernel
set_option maxRecDepth 100000 in
theorem fp_8_32 : qfp 8 32 .int = true := by decide +kernel
set_option maxRecDepth 100000 in
theorem fp_8_33 : qfp 8 33 .int = true := by decide +kernel
set_option maxRecDepth 100000 in
theorem fp_8_34 : qfp 8 34 .int = true := by decide +kernel
set_option maxRecDepth 100000 in
theorem fp_8_35 : qfp 8 35 .int = true := by decide +kernel
set_option maxRecDepth 100000 in
theorem fp_8_36 : qfp 8 36 .int = true := by decide +kernel
set_option maxRecDepth 100000 in
theorem fp_8_43 : qfp 8 43 .int = true := by decide +kernel
set_option maxRecDepth 100000 in
theorem fp_8_44 : qfp 8 44 .int = true := by decide +kernel
set_option maxRecDepth 100000 in
theorem fp_8_45 : qfp 8 45 .int = true := by decide +kernel
set_option maxRecDepth 100000 in
theorem fp_8_46 : qfp 8 46 .int = true := by decide +kernel
set_option maxRecDepth 100000 in
theorem fp_8_9 : qfp 8 9 .int = true := by decide +kernel
set_option maxRecDepth 100000 in
theorem kn_X3_108 : Cond.fieldLinkNest RX3 108 "QuireDesk" "ALPHABET" "[C" "QuireDesk" ∈ ntb := nin 939 rfl rfl
set_option maxRecDepth 100000 in
theorem kn_X5_46 : Cond.fieldLinkNest RX5 46 "QuireDesk" "MARK_TOP" "[I" "QuireDesk" ∈ ntb := nin 491 rfl rfl
set_option maxRecDepth 100000 in
theorem kn_X5_58 : Cond.fieldLinkNest RX5 58 "QuireDesk" "RULE_LOW" "[I" "QuireDesk" ∈ ntb := nin 540 rfl rfl
set_option maxRecDepth 100000 in
theorem kn_X5_61 : Cond.fieldLinkNest RX5 61 "QuireDesk" "RULE_TOP" "[I" "QuireDesk" ∈ ntb := nin 542 rfl rfl
set_option maxRecDepth 100000 in
theorem kn_X6_75 : Cond.fieldLinkNest RX6 75 "QuireDesk" "ALPHABET" "[C" "QuireDesk" ∈ ntb := nin 863 rfl rfl
set_option maxRecDepth 100000 in
theorem cw_X0_53 : qcV RX0 53 yX0_addCell cX0_addCell 2 none 1 := ⟨gin [743, 745, 18, 101, 746] rfl (by decide +kernel), by decide +kernel, by decide +kernel, by decide +kernel⟩
set_option maxRecDepth 100000 in
theorem cw_X0_57 : qcV RX0 57 yX0_addThing cX0_addThing 2 none 1 := ⟨gin [730, 731, 732, 101, 733] rfl (by decide +kernel), by decide +kernel, by decide +kernel, by decide +kernel⟩
set_option maxRecDepth 100000 in
theorem cw_X0_60 : qcM RX0 60 Lib.Math.max.name Lib.Math.max.code 2 := gin [726, 727, 107, 728] rfl (by decide +kernel)
set_option maxRecDepth 100000 in
theorem cw_X0_66 : qcN RX0 66 yX7_isHanging cX7_isHanging 1 (some .boolean) 1 := ⟨gin [526, 97, 527] rfl (by decide +kernel), nin 729 rfl rfl, by decide +kernel, by decide +kernel, by decide +kernel⟩
set_option maxRecDepth 100000 in
theorem cw_X0_75 : qcV RX0 75 yX0_start cX0_start 3 none 2 := ⟨gin [718, 719, 720, 101, 721] rfl (by decide +kernel), by decide +kernel, by decide +kernel, by decide +kernel⟩
set_option maxRecDepth 100000 in
theorem cw_X0_83 : qcV RX0 83 yX0_addLoose cX0_addLoose 5 (some .int) 3 := ⟨gin [722, 724, 17, 101, 725] rfl (by decide +kernel), by decide +kernel, by decide +kernel, by decide +kernel⟩
set_option maxRecDepth 100000 in
theorem cw_X0_98 : qcV RX0 98 yX0_addQuire cX0_addQuire 2 none 1 := ⟨gin [734, 735, 736, 101, 737] rfl (by decide +kernel), by decide +kernel, by decide +kernel, by decide +kernel⟩
set_option maxRecDepth 100000 in
theorem cw_X0_101 : qcN RX0 101 yX7_isGhost cX7_isGhost 3 (some .boolean) 3 := ⟨gin [617, 97, 618] rfl (by decide +kernel), nin 738 rfl rfl, by decide +kernel, by decide +kernel, by decide +kernel⟩
set_option maxRecDepth 100000 in
theorem cw_X0_105 : qcV RX0 105 yX0_addGhost cX0_addGhost 1 none 0 := ⟨gin [739, 740, 741, 101, 742] rfl (by decide +kernel), by decide +kernel, by decide +kernel, by decide +kernel⟩
set_option maxRecDepth 100000 in
theorem cw_X0_108 : qcV RX0 108 yX5_kindOf cX5_kindOf 2 (some .int) 1 := ⟨gin [747, 510, 511, 104, 512] rfl (by decide +kernel), by decide +kernel, by decide +kernel, by decide +kernel⟩
set_option maxRecDepth 100000 in
theorem cw_X0_112 : qcV RX0 112 yX5_markOf cX5_markOf 3 (some .int) 2 := ⟨gin [748, 514, 515, 104, 516] rfl (by decide +kernel), by decide +kernel, by decide +kernel, by decide +kernel⟩
set_option maxRecDepth 100000 in
theorem cw_X0_115 : qcV RX0 115 yX0_addLeaf cX0_addLeaf 3 none 2 := ⟨gin [749, 750, 751, 101, 752] rfl (by decide +kernel), by decide +kernel, by decide +kernel, by decide +kernel⟩
set_option maxRecDepth 100000 in
theorem cw_X0_118 : qcA RX0 118 := gin [988, 470, 469, 106] rfl (by decide +kernel)
set_option maxRecDepth 100000 in
theorem cw_X0_124 : qcV RX0 124 yX0_hasQuire cX0_hasQuire 2 (some .boolean) 1 := ⟨gin [809, 794, 795, 101, 796] rfl (by decide +kernel), by decide +kernel, by decide +kernel, by decide +kernel⟩
set_option maxRecDepth 100000 in
theorem cw_X0_127 : qcV RX0 127 yX0_hasPlace cX0_hasPlace 3 (some .boolean) 2 := ⟨gin [805, 806, 807, 101, 808] rfl (by decide +kernel), by decide +kernel, by decide +kernel, by decide +kernel⟩
set_option maxRecDepth 100000 in
theorem cw_X0_131 : qcV RX0 131 yX0_hangs cX0_hangs 2 (some .boolean) 1 := ⟨gin [833, 815, 816, 101, 817] rfl (by decide +kernel), by decide +kernel, by decide +kernel, by decide +kernel⟩
set_option maxRecDepth 100000 in
theorem cw_X0_134 : qcV RX0 134 yX0_isLoose cX0_isLoose 2 (some .boolean) 1 := ⟨gin [882, 854, 855, 101, 856] rfl (by decide +kernel), by decide +kernel, by decide +kernel, by decide +kernel⟩
set_option maxRecDepth 100000 in
theorem cw_X0_137 : qcV RX0 137 yX0_isCancelled cX0_isCancelled 2 (some .boolean) 1 := ⟨gin [887, 879, 880, 101, 881] rfl (by decide +kernel), by decide +kernel, by decide +kernel, by decide +kernel⟩
set_option maxRecDepth 100000 in
theorem cw_X0_140 : qcV RX0 140 yX0_placesAhead cX0_placesAhead 4 (some .int) 1 := ⟨gin [827, 786, 787, 101, 788] rfl (by decide +kernel), by decide +kernel, by decide +kernel, by decide +kernel⟩
set_option maxRecDepth 100000 in
theorem cw_X0_143 : qcV RX0 143 yX0_thingAt cX0_thingAt 3 (some .int) 2 := ⟨gin [832, 802, 803, 101, 804] rfl (by decide +kernel), by decide +kernel, by decide +kernel, by decide +kernel⟩
set_option maxRecDepth 100000 in
theorem cw_X0_146 : qcV RX0 146 yX0_joinPlace cX0_joinPlace 10 none 4 := ⟨gin [1028, 1030, 41, 101, 1031] rfl (by decide +kernel), by decide +kernel, by decide +kernel, by decide +kernel⟩
set_option maxRecDepth 100000 in
theorem cw_X0_150 : qcV RX0 150 yX0_stateOf cX0_stateOf 3 (some .int) 1 := ⟨gin [1032, 1006, 1007, 101, 1008] rfl (by decide +kernel), by decide +kernel, by decide +kernel, by decide +kernel⟩
set_option maxRecDepth 100000 in
theorem cw_X0_153 : qcV RX0 153 yX0_behind cX0_behind 2 (some .int) 1 := ⟨gin [1033, 884, 885, 101, 886] rfl (by decide +kernel), by decide +kernel, by decide +kernel, by decide +kernel⟩
set_option maxRecDepth 100000 in
theorem cw_X1_56 : qcV RX1 56 yX1_beginOpen cX1_beginOpen 3 none 2 := ⟨gin [592, 593, 594, 99, 595] rfl (by decide +kernel), by decide +kernel, by decide +kernel, by decide +kernel⟩
set_option maxRecDepth 100000 in
theorem cw_X1_60 : qcV RX1 60 yX2_allows cX2_allows 2 (some .boolean) 1 := ⟨gin [600, 601, 602, 100, 603] rfl (by decide +kernel), by decide +kernel, by decide +kernel, by decide +kernel⟩
set_option maxRecDepth 100000 in
theorem cw_X1_64 : qcV RX1 64 yX1_layMask cX1_layMask 3 (some .int) 0 := ⟨gin [604, 606, 5, 99, 607] rfl (by decide +kernel), by decide +kernel, by decide +kernel, by decide +kernel⟩
set_option maxRecDepth 100000 in
theorem cw_X1_68 : qcM RX1 68 Lib.Math.abs.name Lib.Math.abs.code 1 := gin [636, 637, 107, 638] rfl (by decide +kernel)
set_option maxRecDepth 100000 in
theorem cw_X1_74 : qcS RX1 74 yJ6_numberOfTrailingZeros_0f7a4 cJ6_numberOfTrailingZeros_0f7a4 2 (some .int) 1 := ⟨gin [608, 609, 108, 610] rfl (by decide +kernel), by decide +kernel, by decide +kernel, by decide +kernel⟩
set_option maxRecDepth 100000 in
theorem cw_X1_79 : qcV RX1 79 yX1_layPlace cX1_layPlace 4 (some .boolean) 1 := ⟨gin [612, 614, 6, 99, 615] rfl (by decide +kernel), by decide +kernel, by decide +kernel, by decide +kernel⟩
set_option maxRecDepth 100000 in
theorem cw_X1_82 : qcN RX1 82 yX7_isGhost cX7_isGhost 3 (some .boolean) 3 := ⟨gin [617, 97, 618] rfl (by decide +kernel), nin 616 rfl rfl, by decide +kernel, by decide +kernel, by decide +kernel⟩
set_option maxRecDepth 100000 in
theorem cw_X1_86 : qcV RX1 86 yX2_aheadBy cX2_aheadBy 4 (some .int) 2 := ⟨gin [619, 620, 621, 100, 622] rfl (by decide +kernel), by decide +kernel, by decide +kernel, by decide +kernel⟩
set_option maxRecDepth 100000 in
theorem cw_X1_90 : qcN RX1 90 yX7_together cX7_together 2 (some .int) 2 := ⟨gin [582, 97, 583] rfl (by decide +kernel), nin 623 rfl rfl, by decide +kernel, by decide +kernel, by decide +kernel⟩
set_option maxRecDepth 100000 in
theorem cw_X1_93 : qcV RX1 93 yX2_mayBeAt cX2_mayBeAt 3 (some .boolean) 2 := ⟨gin [624, 625, 626, 100, 627] rfl (by decide +kernel), by decide +kernel, by decide +kernel, by decide +kernel⟩
set_option maxRecDepth 100000 in
theorem cw_X1_97 : qcV RX1 97 yX2_clashes cX2_clashes 2 (some .boolean) 1 := ⟨gin [628, 629, 630, 100, 631] rfl (by decide +kernel), by decide +kernel, by decide +kernel, by decide +kernel⟩
set_option maxRecDepth 100000 in
theorem cw_X1_100 : qcV RX1 100 yX2_mayHang cX2_mayHang 3 (some .boolean) 2 := ⟨gin [632, 633, 634, 100, 635] rfl (by decide +kernel), by decide +kernel, by decide +kernel, by decide +kernel⟩
set_option maxRecDepth 100000 in
theorem cw_X2_58 : qcV RX2 58 yX5_hangs cX5_hangs 2 (some .boolean) 1 := ⟨gin [561, 562, 563, 104, 564] rfl (by decide +kernel), by decide +kernel, by decide +kernel, by decide +kernel⟩
set_option maxRecDepth 100000 in
theorem cw_X2_62 : qcV RX2 62 yX2_add cX2_add 4 none 2 := ⟨gin [565, 567, 3, 100, 568] rfl (by decide +kernel), by decide +kernel, by decide +kernel, by decide +kernel⟩
set_option maxRecDepth 100000 in
theorem cw_X2_66 : qcV RX2 66 yX5_markOf cX5_markOf 3 (some .int) 2 := ⟨gin [569, 514, 515, 104, 516] rfl (by decide +kernel), by decide +kernel, by decide +kernel, by decide +kernel⟩
set_option maxRecDepth 100000 in
theorem cw_X2_70 : qcV RX2 70 yX5_isCancelled cX5_isCancelled 2 (some .boolean) 1 := ⟨gin [570, 571, 572, 104, 573] rfl (by decide +kernel), by decide +kernel, by decide +kernel, by decide +kernel⟩
set_option maxRecDepth 100000 in
theorem cw_X2_73 : qcV RX2 73 yX2_judge cX2_judge 7 none 4 := ⟨gin [574, 575, 576, 100, 577] rfl (by decide +kernel), by decide +kernel, by decide +kernel, by decide +kernel⟩
set_option maxRecDepth 100000 in
theorem cw_X2_77 : qcS RX2 77 yX2_spotOf cX2_spotOf 3 (some .int) 2 := ⟨gin [578, 579, 100, 580] rfl (by decide +kernel), by decide +kernel, by decide +kernel, by decide +kernel⟩
set_option maxRecDepth 100000 in
theorem cw_X2_80 : qcN RX2 80 yX7_together cX7_together 2 (some .int) 2 := ⟨gin [582, 97, 583] rfl (by decide +kernel), nin 581 rfl rfl, by decide +kernel, by decide +kernel, by decide +kernel⟩
set_option maxRecDepth 100000 in
theorem cw_X3_53 : qcV RX3 53 yX0_start cX0_start 3 none 2 := ⟨gin [925, 719, 720, 101, 721] rfl (by decide +kernel), by decide +kernel, by decide +kernel, by decide +kernel⟩
set_option maxRecDepth 100000 in
theorem cw_X3_59 : qcV RX3 59 yX3_readQuire cX3_readQuire 6 (some .boolean) 1 := ⟨gin [926, 928, 27, 103, 929] rfl (by decide +kernel), by decide +kernel, by decide +kernel, by decide +kernel⟩
set_option maxRecDepth 100000 in
theorem cw_X3_68 : qcV RX3 68 yX3_sign cX3_sign 1 (some .int) 0 := ⟨gin [934, 936, 29, 103, 937] rfl (by decide +kernel), by decide +kernel, by decide +kernel, by decide +kernel⟩
set_option maxRecDepth 100000 in
theorem cw_X3_72 : qcV RX3 72 yX3_fail cX3_fail 3 (some .boolean) 2 := ⟨gin [940, 942, 30, 103, 943] rfl (by decide +kernel), by decide +kernel, by decide +kernel, by decide +kernel⟩
set_option maxRecDepth 100000 in
theorem cw_X3_76 : qcV RX3 76 yX6_signAt cX6_signAt 2 (some .int) 1 := ⟨gin [938, 893, 894, 102, 895] rfl (by decide +kernel), by decide +kernel, by decide +kernel, by decide +kernel⟩
set_option maxRecDepth 100000 in
theorem cw_X3_80 : qcV RX3 80 yX3_readLetters cX3_readLetters 4 (some .int) 0 := ⟨gin [930, 932, 28, 103, 933] rfl (by decide +kernel), by decide +kernel, by decide +kernel, by decide +kernel⟩
set_option maxRecDepth 100000 in
theorem cw_X3_86 : qcV RX3 86 yX3_readLast cX3_readLast 5 (some .int) 2 := ⟨gin [944, 946, 31, 103, 947] rfl (by decide +kernel), by decide +kernel, by decide +kernel, by decide +kernel⟩
set_option maxRecDepth 100000 in
theorem cw_X3_90 : qcV RX3 90 yX3_readSize cX3_readSize 2 (some .boolean) 0 := ⟨gin [948, 950, 32, 103, 951] rfl (by decide +kernel), by decide +kernel, by decide +kernel, by decide +kernel⟩
set_option maxRecDepth 100000 in
theorem cw_X3_94 : qcV RX3 94 yX3_readBracket cX3_readBracket 5 (some .boolean) 2 := ⟨gin [952, 954, 33, 103, 955] rfl (by decide +kernel), by decide +kernel, by decide +kernel, by decide +kernel⟩
set_option maxRecDepth 100000 in
theorem cw_X3_101 : qcV RX3 101 yX3_addQuire cX3_addQuire 3 none 1 := ⟨gin [972, 974, 38, 103, 975] rfl (by decide +kernel), by decide +kernel, by decide +kernel, by decide +kernel⟩
set_option maxRecDepth 100000 in
theorem cw_X3_112 : qcV RX3 112 yX3_readItem cX3_readItem 6 (some .boolean) 1 := ⟨gin [956, 958, 34, 103, 959] rfl (by decide +kernel), by decide +kernel, by decide +kernel, by decide +kernel⟩
set_option maxRecDepth 100000 in
theorem cw_X3_116 : qcV RX3 116 yX3_canFollow cX3_canFollow 3 (some .boolean) 2 := ⟨gin [960, 962, 35, 103, 963] rfl (by decide +kernel), by decide +kernel, by decide +kernel, by decide +kernel⟩
set_option maxRecDepth 100000 in
theorem cw_X3_119 : qcV RX3 119 yX3_keepItem cX3_keepItem 3 none 2 := ⟨gin [964, 966, 36, 103, 967] rfl (by decide +kernel), by decide +kernel, by decide +kernel, by decide +kernel⟩
set_option maxRecDepth 100000 in
theorem cw_X3_122 : qcV RX3 122 yX3_keepLoose cX3_keepLoose 3 none 2 := ⟨gin [968, 970, 37, 103, 971] rfl (by decide +kernel), by decide +kernel, by decide +kernel, by decide +kernel⟩
set_option maxRecDepth 100000 in
theorem cw_X3_125 : qcV RX3 125 yX3_addLooseOf cX3_addLooseOf 4 none 2 := ⟨gin [976, 978, 39, 103, 979] rfl (by decide +kernel), by decide +kernel, by decide +kernel, by decide +kernel⟩
set_option maxRecDepth 100000 in
theorem cw_X3_129 : qcV RX3 129 yX0_addQuire cX0_addQuire 2 none 1 := ⟨gin [981, 735, 736, 101, 737] rfl (by decide +kernel), by decide +kernel, by decide +kernel, by decide +kernel⟩
set_option maxRecDepth 100000 in
theorem cw_X3_132 : qcV RX3 132 yX0_addGhost cX0_addGhost 1 none 0 := ⟨gin [982, 740, 741, 101, 742] rfl (by decide +kernel), by decide +kernel, by decide +kernel, by decide +kernel⟩
set_option maxRecDepth 100000 in
theorem cw_X3_135 : qcV RX3 135 yX0_addLeaf cX0_addLeaf 3 none 2 := ⟨gin [983, 750, 751, 101, 752] rfl (by decide +kernel), by decide +kernel, by decide +kernel, by decide +kernel⟩
set_option maxRecDepth 100000 in
theorem cw_X3_138 : qcV RX3 138 yX0_addThing cX0_addThing 2 none 1 := ⟨gin [980, 731, 732, 101, 733] rfl (by decide +kernel), by decide +kernel, by decide +kernel, by decide +kernel⟩
set_option maxRecDepth 100000 in
theorem cw_X4_63 : qcV RX4 63 yX4_forgetLoads cX4_forgetLoads 2 none 0 := ⟨gin [553, 555, 2, 98, 556] rfl (by decide +kernel), by decide +kernel, by decide +kernel, by decide +kernel⟩
set_option maxRecDepth 100000 in
theorem cw_X4_66 : qcV RX4 66 yX2_load cX2_load 3 none 1 := ⟨gin [557, 558, 559, 100, 560] rfl (by decide +kernel), by decide +kernel, by decide +kernel, by decide +kernel⟩
set_option maxRecDepth 100000 in
theorem cw_X4_75 : qcV RX4 75 yX4_groupLays cX4_groupLays 3 none 1 := ⟨gin [584, 586, 4, 98, 587] rfl (by decide +kernel), by decide +kernel, by decide +kernel, by decide +kernel⟩
set_option maxRecDepth 100000 in
theorem cw_X4_79 : qcV RX4 79 yX4_countFrom cX4_countFrom 6 (some .long) 4 := ⟨gin [666, 668, 9, 98, 669] rfl (by decide +kernel), by decide +kernel, by decide +kernel, by decide +kernel⟩
set_option maxRecDepth 100000 in
theorem cw_X4_83 : qcV RX4 83 yX4_stateOf cX4_stateOf 6 (some .int) 4 := ⟨gin [670, 672, 10, 98, 673] rfl (by decide +kernel), by decide +kernel, by decide +kernel, by decide +kernel⟩
set_option maxRecDepth 100000 in
theorem cw_X4_87 : qcV RX4 87 yX4_isKnown cX4_isKnown 2 (some .boolean) 1 := ⟨gin [677, 679, 11, 98, 680] rfl (by decide +kernel), by decide +kernel, by decide +kernel, by decide +kernel⟩
set_option maxRecDepth 100000 in
theorem cw_X4_91 : qcV RX4 91 yX4_reckon cX4_reckon 23 none 5 := ⟨gin [681, 683, 12, 98, 684] rfl (by decide +kernel), by decide +kernel, by decide +kernel, by decide +kernel⟩
set_option maxRecDepth 100000 in
theorem cw_X4_98 : qcV RX4 98 yX2_joins cX2_joins 2 (some .boolean) 1 := ⟨gin [652, 653, 654, 100, 655] rfl (by decide +kernel), by decide +kernel, by decide +kernel, by decide +kernel⟩
set_option maxRecDepth 100000 in
theorem cw_X4_101 : qcS RX4 101 yX4_numberOf cX4_numberOf 4 (some .int) 4 := ⟨gin [674, 675, 98, 676] rfl (by decide +kernel), by decide +kernel, by decide +kernel, by decide +kernel⟩
set_option maxRecDepth 100000 in
theorem cw_X4_104 : qcV RX4 104 yX2_reach cX2_reach 4 (some .int) 2 := ⟨gin [685, 686, 687, 100, 688] rfl (by decide +kernel), by decide +kernel, by decide +kernel, by decide +kernel⟩
set_option maxRecDepth 100000 in
theorem cw_X4_108 : qcV RX4 108 yX2_clashes cX2_clashes 2 (some .boolean) 1 := ⟨gin [647, 629, 630, 100, 631] rfl (by decide +kernel), by decide +kernel, by decide +kernel, by decide +kernel⟩
set_option maxRecDepth 100000 in
theorem cw_X4_113 : qcV RX4 113 yX4_leastFrom cX4_leastFrom 6 (some .int) 4 := ⟨gin [689, 691, 13, 98, 692] rfl (by decide +kernel), by decide +kernel, by decide +kernel, by decide +kernel⟩
set_option maxRecDepth 100000 in
theorem cw_X4_116 : qcM RX4 116 Lib.Math.min.name Lib.Math.min.code 2 := gin [693, 502, 107, 503] rfl (by decide +kernel)
set_option maxRecDepth 100000 in
theorem cw_X4_121 : qcV RX4 121 yX1_beginWhole cX1_beginWhole 2 none 1 := ⟨gin [588, 589, 590, 99, 591] rfl (by decide +kernel), by decide +kernel, by decide +kernel, by decide +kernel⟩
set_option maxRecDepth 100000 in
theorem cw_X4_124 : qcV RX4 124 yX1_advance cX1_advance 4 (some .boolean) 0 := ⟨gin [596, 597, 598, 99, 599] rfl (by decide +kernel), by decide +kernel, by decide +kernel, by decide +kernel⟩
set_option maxRecDepth 100000 in
theorem cw_X4_128 : qcV RX4 128 yX4_addLay cX4_addLay 3 none 1 := ⟨gin [639, 641, 7, 98, 642] rfl (by decide +kernel), by decide +kernel, by decide +kernel, by decide +kernel⟩
set_option maxRecDepth 100000 in
theorem cw_X4_131 : qcV RX4 131 yX4_addGroup cX4_addGroup 9 none 4 := ⟨gin [656, 658, 8, 98, 659] rfl (by decide +kernel), by decide +kernel, by decide +kernel, by decide +kernel⟩
set_option maxRecDepth 100000 in
theorem cw_X4_141 : qcV RX4 141 yX1_startsWithLeaf cX1_startsWithLeaf 1 (some .boolean) 0 := ⟨gin [643, 644, 645, 99, 646] rfl (by decide +kernel), by decide +kernel, by decide +kernel, by decide +kernel⟩
set_option maxRecDepth 100000 in
theorem cw_X4_144 : qcV RX4 144 yX1_endsWithLeaf cX1_endsWithLeaf 1 (some .boolean) 0 := ⟨gin [648, 649, 650, 99, 651] rfl (by decide +kernel), by decide +kernel, by decide +kernel, by decide +kernel⟩
set_option maxRecDepth 100000 in
theorem cw_X4_153 : qcV RX4 153 yX4_countBehind cX4_countBehind 6 (some .long) 4 := ⟨gin [702, 704, 14, 98, 705] rfl (by decide +kernel), by decide +kernel, by decide +kernel, by decide +kernel⟩
set_option maxRecDepth 100000 in
theorem cw_X4_156 : qcV RX4 156 yX4_leastBehind cX4_leastBehind 6 (some .int) 3 := ⟨gin [706, 708, 15, 98, 709] rfl (by decide +kernel), by decide +kernel, by decide +kernel, by decide +kernel⟩
set_option maxRecDepth 100000 in
theorem cw_X4_160 : qcV RX4 160 yX4_choose cX4_choose 2 none 1 := ⟨gin [710, 712, 16, 98, 713] rfl (by decide +kernel), by decide +kernel, by decide +kernel, by decide +kernel⟩
set_option maxRecDepth 100000 in
theorem cw_X4_167 : qcV RX4 167 yX5_hangs cX5_hangs 2 (some .boolean) 1 := ⟨gin [765, 562, 563, 104, 564] rfl (by decide +kernel), by decide +kernel, by decide +kernel, by decide +kernel⟩
set_option maxRecDepth 100000 in
theorem cw_X4_170 : qcV RX4 170 yX2_judge cX2_judge 7 none 4 := ⟨gin [766, 575, 576, 100, 577] rfl (by decide +kernel), by decide +kernel, by decide +kernel, by decide +kernel⟩
set_option maxRecDepth 100000 in
theorem cw_X4_174 : qcV RX4 174 yX4_opensUpTo cX4_opensUpTo 4 (some .boolean) 1 := ⟨gin [767, 769, 19, 98, 770] rfl (by decide +kernel), by decide +kernel, by decide +kernel, by decide +kernel⟩
set_option maxRecDepth 100000 in
theorem cw_X4_177 : qcV RX4 177 yX5_isCancelled cX5_isCancelled 2 (some .boolean) 1 := ⟨gin [780, 571, 572, 104, 573] rfl (by decide +kernel), by decide +kernel, by decide +kernel, by decide +kernel⟩
set_option maxRecDepth 100000 in
theorem cw_X4_180 : qcV RX4 180 yX1_beginOpen cX1_beginOpen 3 none 2 := ⟨gin [771, 593, 594, 99, 595] rfl (by decide +kernel), by decide +kernel, by decide +kernel, by decide +kernel⟩
set_option maxRecDepth 100000 in
theorem cw_X4_184 : qcV RX4 184 yX4_wasReached cX4_wasReached 6 (some .boolean) 1 := ⟨gin [772, 774, 20, 98, 775] rfl (by decide +kernel), by decide +kernel, by decide +kernel, by decide +kernel⟩
set_option maxRecDepth 100000 in
theorem cw_X4_187 : qcV RX4 187 yX4_wasIn cX4_wasIn 5 (some .boolean) 4 := ⟨gin [776, 778, 21, 98, 779] rfl (by decide +kernel), by decide +kernel, by decide +kernel, by decide +kernel⟩
set_option maxRecDepth 100000 in
theorem cw_X5_32 : qcV RX5 32 yX5_shift cX5_shift 3 none 2 := ⟨gin [464, 466, 1, 104, 467] rfl (by decide +kernel), by decide +kernel, by decide +kernel, by decide +kernel⟩
set_option maxRecDepth 100000 in
theorem cw_X5_36 : qcV RX5 36 yX5_has cX5_has 2 (some .boolean) 1 := ⟨gin [479, 480, 481, 104, 482] rfl (by decide +kernel), by decide +kernel, by decide +kernel, by decide +kernel⟩
set_option maxRecDepth 100000 in
theorem cw_X5_40 : qcA RX5 40 := gin [468, 470, 469, 106] rfl (by decide +kernel)
set_option maxRecDepth 100000 in
theorem cw_X5_49 : qcM RX5 49 Lib.Math.min.name Lib.Math.min.code 2 := gin [501, 502, 107, 503] rfl (by decide +kernel)
set_option maxRecDepth 100000 in
theorem cw_X5_55 : qcN RX5 55 yX7_isHanging cX7_isHanging 1 (some .boolean) 1 := ⟨gin [526, 97, 527] rfl (by decide +kernel), nin 525 rfl rfl, by decide +kernel, by decide +kernel, by decide +kernel⟩
set_option maxRecDepth 100000 in
theorem cw_X6_22 : qcV RX6 22 yX6_add cX6_add 2 none 1 := ⟨gin [842, 844, 22, 102, 845] rfl (by decide +kernel), by decide +kernel, by decide +kernel, by decide +kernel⟩
set_option maxRecDepth 100000 in
theorem cw_X6_26 : qcA RX6 26 := gin [916, 470, 469, 106] rfl (by decide +kernel)
set_option maxRecDepth 100000 in
theorem cw_X6_37 : qcS RX6 37 yX6_plainRun cX6_plainRun 3 (some .int) 2 := ⟨gin [846, 847, 102, 848] rfl (by decide +kernel), by decide +kernel, by decide +kernel, by decide +kernel⟩
set_option maxRecDepth 100000 in
theorem cw_X6_44 : qcV RX6 44 yX6_addLetters cX6_addLetters 3 none 1 := ⟨gin [859, 861, 23, 102, 862] rfl (by decide +kernel), by decide +kernel, by decide +kernel, by decide +kernel⟩
set_option maxRecDepth 100000 in
theorem cw_X6_50 : qcV RX6 50 yX6_addItems cX6_addItems 5 none 2 := ⟨gin [865, 867, 24, 102, 868] rfl (by decide +kernel), by decide +kernel, by decide +kernel, by decide +kernel⟩
set_option maxRecDepth 100000 in
theorem cw_X6_54 : qcS RX6 54 yX6_isPlain cX6_isPlain 4 (some .boolean) 2 := ⟨gin [849, 850, 102, 851] rfl (by decide +kernel), by decide +kernel, by decide +kernel, by decide +kernel⟩
set_option maxRecDepth 100000 in
theorem cw_X6_58 : qcV RX6 58 yX0_hasQuire cX0_hasQuire 2 (some .boolean) 1 := ⟨gin [852, 794, 795, 101, 796] rfl (by decide +kernel), by decide +kernel, by decide +kernel, by decide +kernel⟩
set_option maxRecDepth 100000 in
theorem cw_X6_62 : qcV RX6 62 yX0_isLoose cX0_isLoose 2 (some .boolean) 1 := ⟨gin [853, 854, 855, 101, 856] rfl (by decide +kernel), by decide +kernel, by decide +kernel, by decide +kernel⟩
set_option maxRecDepth 100000 in
theorem cw_X6_65 : qcV RX6 65 yX0_thingAt cX0_thingAt 3 (some .int) 2 := ⟨gin [857, 802, 803, 101, 804] rfl (by decide +kernel), by decide +kernel, by decide +kernel, by decide +kernel⟩
set_option maxRecDepth 100000 in
theorem cw_X6_69 : qcV RX6 69 yX0_hangs cX0_hangs 2 (some .boolean) 1 := ⟨gin [858, 815, 816, 101, 817] rfl (by decide +kernel), by decide +kernel, by decide +kernel, by decide +kernel⟩
set_option maxRecDepth 100000 in
theorem cw_X6_79 : qcV RX6 79 yX6_addLoose cX6_addLoose 6 none 3 := ⟨gin [869, 871, 25, 102, 872] rfl (by decide +kernel), by decide +kernel, by decide +kernel, by decide +kernel⟩
set_option maxRecDepth 100000 in
theorem cw_X6_83 : qcV RX6 83 yX0_hasPlace cX0_hasPlace 3 (some .boolean) 2 := ⟨gin [877, 806, 807, 101, 808] rfl (by decide +kernel), by decide +kernel, by decide +kernel, by decide +kernel⟩
set_option maxRecDepth 100000 in
theorem cw_X6_87 : qcV RX6 87 yX6_addItem cX6_addItem 3 none 2 := ⟨gin [873, 875, 26, 102, 876] rfl (by decide +kernel), by decide +kernel, by decide +kernel, by decide +kernel⟩
set_option maxRecDepth 100000 in
theorem cw_X6_91 : qcV RX6 91 yX0_isCancelled cX0_isCancelled 2 (some .boolean) 1 := ⟨gin [878, 879, 880, 101, 881] rfl (by decide +kernel), by decide +kernel, by decide +kernel, by decide +kernel⟩
set_option maxRecDepth 100000 in
theorem cw_X6_94 : qcV RX6 94 yX0_behind cX0_behind 2 (some .int) 1 := ⟨gin [883, 884, 885, 101, 886] rfl (by decide +kernel), by decide +kernel, by decide +kernel, by decide +kernel⟩
set_option maxRecDepth 100000 in
theorem cw_X7_201 : qcV RX7 201 yX0_stateOf cX0_stateOf 3 (some .int) 1 := ⟨gin [1005, 1006, 1007, 101, 1008] rfl (by decide +kernel), by decide +kernel, by decide +kernel, by decide +kernel⟩
set_option maxRecDepth 100000 in
theorem cw_X8_118 : qcV RX8 118 yX8_isRow cX8_isRow 2 (some .boolean) 1 := ⟨gin [1193, 1195, 42, 105, 1196] rfl (by decide +kernel), by decide +kernel, by decide +kernel, by decide +kernel⟩
set_option maxRecDepth 100000 in
theorem cw_X8_122 : qcV RX8 122 yX8_move cX8_move 4 none 2 := ⟨gin [1197, 1199, 43, 105, 1200] rfl (by decide +kernel), by decide +kernel, by decide +kernel, by decide +kernel⟩
set_option maxRecDepth 100000 in
theorem cw_X8_126 : qcV RX8 126 yX8_isThing cX8_isThing 3 (some .boolean) 2 := ⟨gin [1205, 1207, 44, 105, 1208] rfl (by decide +kernel), by decide +kernel, by decide +kernel, by decide +kernel⟩
set_option maxRecDepth 100000 in
theorem cw_X8_130 : qcV RX8 130 yX8_most cX8_most 2 (some .int) 1 := ⟨gin [1213, 1215, 45, 105, 1216] rfl (by decide +kernel), by decide +kernel, by decide +kernel, by decide +kernel⟩
set_option maxRecDepth 100000 in
theorem cw_X8_134 : qcV RX8 134 yX8_isHanging cX8_isHanging 2 (some .boolean) 1 := ⟨gin [1229, 1231, 46, 105, 1232] rfl (by decide +kernel), by decide +kernel, by decide +kernel, by decide +kernel⟩
set_option maxRecDepth 100000 in
theorem cw_X8_143 : qcV RX8 143 yX8_known cX8_known 3 (some .int) 2 := ⟨gin [1278, 1280, 56, 105, 1281] rfl (by decide +kernel), by decide +kernel, by decide +kernel, by decide +kernel⟩
set_option maxRecDepth 100000 in
theorem cw_X8_147 : qcV RX8 147 yX8_fits cX8_fits 11 (some .boolean) 5 := ⟨gin [1274, 1276, 55, 105, 1277] rfl (by decide +kernel), by decide +kernel, by decide +kernel, by decide +kernel⟩
set_option maxRecDepth 100000 in
theorem cw_X8_151 : qcV RX8 151 yX8_goesOn cX8_goesOn 6 (some .boolean) 2 := ⟨gin [1282, 1284, 57, 105, 1285] rfl (by decide +kernel), by decide +kernel, by decide +kernel, by decide +kernel⟩
set_option maxRecDepth 100000 in
theorem cw_X8_155 : qcV RX8 155 yX8_hangTogether cX8_hangTogether 5 (some .boolean) 2 := ⟨gin [1286, 1288, 58, 105, 1289] rfl (by decide +kernel), by decide +kernel, by decide +kernel, by decide +kernel⟩
set_option maxRecDepth 100000 in
theorem cw_X8_158 : qcV RX8 158 yX8_ones cX8_ones 4 (some .int) 1 := ⟨gin [1266, 1268, 53, 105, 1269] rfl (by decide +kernel), by decide +kernel, by decide +kernel, by decide +kernel⟩
set_option maxRecDepth 100000 in
theorem cw_X8_161 : qcV RX8 161 yX8_agrees cX8_agrees 15 (some .boolean) 9 := ⟨gin [1270, 1272, 54, 105, 1273] rfl (by decide +kernel), by decide +kernel, by decide +kernel, by decide +kernel⟩
set_option maxRecDepth 100000 in
theorem cw_X8_165 : qcV RX8 165 yX8_asks cX8_asks 4 none 1 := ⟨gin [1246, 1248, 48, 105, 1249] rfl (by decide +kernel), by decide +kernel, by decide +kernel, by decide +kernel⟩
set_option maxRecDepth 100000 in
theorem cw_X8_169 : qcV RX8 169 yX8_state cX8_state 5 (some .int) 4 := ⟨gin [1250, 1252, 49, 105, 1253] rfl (by decide +kernel), by decide +kernel, by decide +kernel, by decide +kernel⟩
set_option maxRecDepth 100000 in
theorem cw_X8_173 : qcV RX8 173 yX8_spreads cX8_spreads 7 none 4 := ⟨gin [1254, 1256, 50, 105, 1257] rfl (by decide +kernel), by decide +kernel, by decide +kernel, by decide +kernel⟩
set_option maxRecDepth 100000 in
theorem cw_X8_177 : qcV RX8 177 yX8_counts cX8_counts 10 none 4 := ⟨gin [1294, 1296, 60, 105, 1297] rfl (by decide +kernel), by decide +kernel, by decide +kernel, by decide +kernel⟩
set_option maxRecDepth 100000 in
theorem cw_X8_180 : qcV RX8 180 yX8_has cX8_has 2 (some .boolean) 1 := ⟨gin [1258, 1260, 51, 105, 1261] rfl (by decide +kernel), by decide +kernel, by decide +kernel, by decide +kernel⟩
set_option maxRecDepth 100000 in
theorem cw_X8_183 : qcV RX8 183 yX8_isQuire cX8_isQuire 8 (some .boolean) 6 := ⟨gin [1262, 1264, 52, 105, 1265] rfl (by decide +kernel), by decide +kernel, by decide +kernel, by decide +kernel⟩
set_option maxRecDepth 100000 in
theorem cw_X8_187 : qcV RX8 187 yX8_behind cX8_behind 6 (some .int) 5 := ⟨gin [1290, 1292, 59, 105, 1293] rfl (by decide +kernel), by decide +kernel, by decide +kernel, by decide +kernel⟩
set_option maxRecDepth 100000 in
theorem cw_X8_193 : qcV RX8 193 yX8_goThrough cX8_goThrough 6 none 1 := ⟨gin [1242, 1244, 47, 105, 1245] rfl (by decide +kernel), by decide +kernel, by decide +kernel, by decide +kernel⟩
set_option maxRecDepth 100000 in
theorem cw_X8_196 : qcV RX8 196 yX8_at cX8_at 4 (some .int) 3 := ⟨gin [1306, 1308, 62, 105, 1309] rfl (by decide +kernel), by decide +kernel, by decide +kernel, by decide +kernel⟩
set_option maxRecDepth 100000 in
theorem cw_X8_200 : qcV RX8 200 yX8_take cX8_take 3 none 1 := ⟨gin [1310, 1312, 63, 105, 1313] rfl (by decide +kernel), by decide +kernel, by decide +kernel, by decide +kernel⟩
set_option maxRecDepth 100000 in
theorem cw_X8_203 : qcV RX8 203 yX8_lays cX8_lays 18 none 3 := ⟨gin [1302, 1304, 61, 105, 1305] rfl (by decide +kernel), by decide +kernel, by decide +kernel, by decide +kernel⟩
set_option maxRecDepth 100000 in
theorem cw_X8_207 : qcV RX8 207 yX8_beginsFrom cX8_beginsFrom 10 (some .boolean) 6 := ⟨gin [1326, 1328, 65, 105, 1329] rfl (by decide +kernel), by decide +kernel, by decide +kernel, by decide +kernel⟩
set_option maxRecDepth 100000 in
theorem cw_X8_211 : qcV RX8 211 yX8_begins cX8_begins 7 (some .boolean) 2 := ⟨gin [1322, 1324, 64, 105, 1325] rfl (by decide +kernel), by decide +kernel, by decide +kernel, by decide +kernel⟩
set_option maxRecDepth 100000 in
theorem cw_X8_214 : qcV RX8 214 yX8_ghosts cX8_ghosts 5 (some .int) 1 := ⟨gin [1334, 1336, 66, 105, 1337] rfl (by decide +kernel), by decide +kernel, by decide +kernel, by decide +kernel⟩
set_option maxRecDepth 100000 in
theorem cw_X8_217 : qcV RX8 217 yX8_placesAhead cX8_placesAhead 6 (some .int) 3 := ⟨gin [1338, 1340, 67, 105, 1341] rfl (by decide +kernel), by decide +kernel, by decide +kernel, by decide +kernel⟩
set_option maxRecDepth 100000 in
theorem cw_X8_220 : qcV RX8 220 yX8_isQuire_ cX8_isQuire_ 3 (some .boolean) 2 := ⟨gin [1346, 1348, 68, 105, 1349] rfl (by decide +kernel), by decide +kernel, by decide +kernel, by decide +kernel⟩
set_option maxRecDepth 100000 in
theorem cw_X8_222 : qcV RX8 222 yX8_isPlace cX8_isPlace 4 (some .boolean) 3 := ⟨gin [1354, 1356, 69, 105, 1357] rfl (by decide +kernel), by decide +kernel, by decide +kernel, by decide +kernel⟩
set_option maxRecDepth 100000 in
theorem cw_X8_229 : qcV RX8 229 yX8_sign cX8_sign 3 (some .int) 1 := ⟨gin [1382, 1384, 73, 105, 1385] rfl (by decide +kernel), by decide +kernel, by decide +kernel, by decide +kernel⟩
set_option maxRecDepth 100000 in
theorem cw_X8_232 : qcV RX8 232 yX8_say cX8_say 2 none 1 := ⟨gin [1370, 1372, 70, 105, 1373] rfl (by decide +kernel), by decide +kernel, by decide +kernel, by decide +kernel⟩
set_option maxRecDepth 100000 in
theorem cw_X8_238 : qcV RX8 238 yX8_isCancelled cX8_isCancelled 3 (some .boolean) 2 := ⟨gin [1394, 1396, 76, 105, 1397] rfl (by decide +kernel), by decide +kernel, by decide +kernel, by decide +kernel⟩
set_option maxRecDepth 100000 in
theorem cw_X8_241 : qcV RX8 241 yX8_item cX8_item 3 none 2 := ⟨gin [1398, 1400, 77, 105, 1401] rfl (by decide +kernel), by decide +kernel, by decide +kernel, by decide +kernel⟩
set_option maxRecDepth 100000 in
theorem cw_X8_244 : qcV RX8 244 yX8_extras cX8_extras 4 none 2 := ⟨gin [1390, 1392, 75, 105, 1393] rfl (by decide +kernel), by decide +kernel, by decide +kernel, by decide +kernel⟩
set_option maxRecDepth 100000 in
theorem cw_X8_247 : qcV RX8 247 yX8_isPlain cX8_isPlain 4 (some .boolean) 1 := ⟨gin [1374, 1376, 71, 105, 1377] rfl (by decide +kernel), by decide +kernel, by decide +kernel, by decide +kernel⟩
set_option maxRecDepth 100000 in
theorem cw_X8_250 : qcV RX8 250 yX8_sayLetters cX8_sayLetters 3 none 1 := ⟨gin [1378, 1380, 72, 105, 1381] rfl (by decide +kernel), by decide +kernel, by decide +kernel, by decide +kernel⟩
set_option maxRecDepth 100000 in
theorem cw_X8_253 : qcV RX8 253 yX8_items cX8_items 4 none 1 := ⟨gin [1386, 1388, 74, 105, 1389] rfl (by decide +kernel), by decide +kernel, by decide +kernel, by decide +kernel⟩
set_option maxRecDepth 100000 in
theorem cw_X8_258 : qcV RX8 258 yX8_puts cX8_puts 3 none 1 := ⟨gin [1410, 1412, 78, 105, 1413] rfl (by decide +kernel), by decide +kernel, by decide +kernel, by decide +kernel⟩
set_option maxRecDepth 100000 in
theorem cw_X8_264 : qcV RX8 264 yX8_raw cX8_raw 1 (some .int) 0 := ⟨gin [1434, 1436, 81, 105, 1437] rfl (by decide +kernel), by decide +kernel, by decide +kernel, by decide +kernel⟩
set_option maxRecDepth 100000 in
theorem cw_X8_268 : qcV RX8 268 yX8_numberOf cX8_numberOf 3 (some .int) 1 := ⟨gin [1438, 1440, 82, 105, 1441] rfl (by decide +kernel), by decide +kernel, by decide +kernel, by decide +kernel⟩
set_option maxRecDepth 100000 in
theorem cw_X8_277 : qcV RX8 277 yX8_reading cX8_reading 8 (some .int) 0 := ⟨gin [1426, 1428, 79, 105, 1429] rfl (by decide +kernel), by decide +kernel, by decide +kernel, by decide +kernel⟩
set_option maxRecDepth 100000 in
theorem cw_X8_286 : qcV RX8 286 yX8_isBlank cX8_isBlank 2 (some .boolean) 1 := ⟨gin [1458, 1460, 87, 105, 1461] rfl (by decide +kernel), by decide +kernel, by decide +kernel, by decide +kernel⟩
set_option maxRecDepth 100000 in
theorem cw_X8_289 : qcV RX8 289 yX8_readLetters cX8_readLetters 3 (some .int) 0 := ⟨gin [1430, 1432, 80, 105, 1433] rfl (by decide +kernel), by decide +kernel, by decide +kernel, by decide +kernel⟩
set_option maxRecDepth 100000 in
theorem cw_X8_292 : qcV RX8 292 yX8_fails cX8_fails 3 (some .int) 2 := ⟨gin [1442, 1444, 83, 105, 1445] rfl (by decide +kernel), by decide +kernel, by decide +kernel, by decide +kernel⟩
set_option maxRecDepth 100000 in
theorem cw_X8_297 : qcV RX8 297 yX8_readItems cX8_readItems 13 (some .int) 1 := ⟨gin [1446, 1448, 84, 105, 1449] rfl (by decide +kernel), by decide +kernel, by decide +kernel, by decide +kernel⟩
set_option maxRecDepth 100000 in
theorem cw_X8_300 : qcV RX8 300 yX8_laid cX8_laid 5 none 1 := ⟨gin [1450, 1452, 85, 105, 1453] rfl (by decide +kernel), by decide +kernel, by decide +kernel, by decide +kernel⟩
set_option maxRecDepth 100000 in
theorem cw_X8_303 : qcV RX8 303 yX8_blanks cX8_blanks 1 none 0 := ⟨gin [1462, 1464, 88, 105, 1465] rfl (by decide +kernel), by decide +kernel, by decide +kernel, by decide +kernel⟩
set_option maxRecDepth 100000 in
theorem cw_X8_306 : qcV RX8 306 yX8_adds cX8_adds 2 none 1 := ⟨gin [1454, 1456, 86, 105, 1457] rfl (by decide +kernel), by decide +kernel, by decide +kernel, by decide +kernel⟩
set_option maxRecDepth 100000 in
theorem cw_X8_309 : qcV RX8 309 yX8_isCopy cX8_isCopy 2 (some .boolean) 1 := ⟨gin [1474, 1476, 89, 105, 1477] rfl (by decide +kernel), by decide +kernel, by decide +kernel, by decide +kernel⟩
set_option maxRecDepth 100000 in
theorem cw_X8_312 : qcV RX8 312 yX8_keep cX8_keep 4 none 2 := ⟨gin [1478, 1480, 90, 105, 1481] rfl (by decide +kernel), by decide +kernel, by decide +kernel, by decide +kernel⟩
set_option maxRecDepth 100000 in
theorem cw_X8_315 : qcV RX8 315 yX8_code cX8_code 5 (some .int) 3 := ⟨gin [1494, 1496, 93, 105, 1497] rfl (by decide +kernel), by decide +kernel, by decide +kernel, by decide +kernel⟩
set_option maxRecDepth 100000 in
theorem cw_X8_324 : qcV RX8 324 yX8_areKept cX8_areKept 3 (some .boolean) 2 := ⟨gin [1486, 1488, 91, 105, 1489] rfl (by decide +kernel), by decide +kernel, by decide +kernel, by decide +kernel⟩
set_option maxRecDepth 100000 in
theorem cw_X8_327 : qcV RX8 327 yX8_differences cX8_differences 7 (some .int) 3 := ⟨gin [1490, 1492, 92, 105, 1493] rfl (by decide +kernel), by decide +kernel, by decide +kernel, by decide +kernel⟩
set_option maxRecDepth 100000 in
theorem cw_X8_333 : qcV RX8 333 yX8_makes cX8_makes 2 none 1 := ⟨gin [1510, 1512, 95, 105, 1513] rfl (by decide +kernel), by decide +kernel, by decide +kernel, by decide +kernel⟩
set_option maxRecDepth 100000 in
theorem cw_X8_336 : qcV RX8 336 yX8_makesExtras cX8_makesExtras 4 none 2 := ⟨gin [1506, 1508, 94, 105, 1509] rfl (by decide +kernel), by decide +kernel, by decide +kernel, by decide +kernel⟩
set_option maxRecDepth 100000 in
theorem sw_ne {y : Int32} (n : Int) (c : Int32) (hc : c.toInt = n) (h : ¬ y = c) : y.toInt ≠ n := fun e => h (Int32.toInt_inj.mp (e.trans hc.symm))
