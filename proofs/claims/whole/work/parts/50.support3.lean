set_option maxRecDepth 100000 in
theorem ks_150 : (Int16.ofInt 150).toInt32 = 150 := by decide +kernel
set_option maxRecDepth 100000 in
theorem ks_180 : (Int16.ofInt 180).toInt32 = 180 := by decide +kernel
set_option maxRecDepth 100000 in
theorem ks_200 : (Int16.ofInt 200).toInt32 = 200 := by decide +kernel
set_option maxRecDepth 100000 in
theorem ks_210 : (Int16.ofInt 210).toInt32 = 210 := by decide +kernel
set_option maxRecDepth 100000 in
theorem ks_320 : (Int16.ofInt 320).toInt32 = 320 := by decide +kernel
set_option maxRecDepth 100000 in
theorem ks_1260 : (Int16.ofInt 1260).toInt32 = 1260 := by decide +kernel
set_option maxRecDepth 100000 in
theorem ks_2000 : (Int16.ofInt 2000).toInt32 = 2000 := by decide +kernel
set_option maxRecDepth 100000 in
theorem ks_7140 : (Int16.ofInt 7140).toInt32 = 7140 := by decide +kernel
set_option maxRecDepth 100000 in
theorem fl_X4_18 : qfl RX4 18 1 0 := ⟨RX1, TX1, 13, tyX1, rfl, by decide, gin (ws := [Cond.fieldLink RX4 18 (TX1 0).1 (TX1 0).2.1 (TX1 0).2.2.1]) [181] rfl (by decide +kernel) _ List.mem_cons_self, gnX1, tyX1_ok, nmX1⟩
set_option maxRecDepth 100000 in
theorem ac_boolean : Cond.arrayClass .boolean ∈ gtb := gin (ws := [Cond.arrayClass .boolean]) [1188] rfl (by decide +kernel) _ List.mem_cons_self
set_option maxRecDepth 100000 in
theorem ac_int : Cond.arrayClass .int ∈ gtb := gin (ws := [Cond.arrayClass .int]) [179] rfl (by decide +kernel) _ List.mem_cons_self
set_option maxRecDepth 100000 in
theorem ac_long : Cond.arrayClass .long ∈ gtb := gin (ws := [Cond.arrayClass .long]) [266] rfl (by decide +kernel) _ List.mem_cons_self
set_option maxRecDepth 100000 in
theorem cl_X7_22 : Cond.classLink RX7 22 "QuireDesk$Folding" ∈ gtb := gin (ws := [Cond.classLink RX7 22 "QuireDesk$Folding"]) [267] rfl (by decide +kernel) _ List.mem_cons_self
set_option maxRecDepth 100000 in
theorem cl_X7_9 : Cond.classLink RX7 9 "QuireDesk$Row" ∈ gtb := gin (ws := [Cond.classLink RX7 9 "QuireDesk$Row"]) [117] rfl (by decide +kernel) _ List.mem_cons_self
set_option maxRecDepth 100000 in
theorem nw_X1_9 : ∀ w ∈ ([.classLink RX1 9 RX2, .instantiable RX2 13, .initialized RX2] : List Cond), w ∈ gtb := gin [131, 132, 100] rfl (by decide +kernel)
set_option maxRecDepth 100000 in
theorem nw_X4_11 : ∀ w ∈ ([.classLink RX4 11 RX1, .instantiable RX1 13, .initialized RX1] : List Cond), w ∈ gtb := gin [125, 126, 99] rfl (by decide +kernel)
set_option maxRecDepth 100000 in
theorem nw_X7_15 : ∀ w ∈ ([.classLink RX7 15 RX4, .instantiable RX4 12, .initialized RX4] : List Cond), w ∈ gtb := gin [119, 120, 98] rfl (by decide +kernel)
set_option maxRecDepth 100000 in
theorem nw_X7_22 : ∀ w ∈ ([.classLink RX7 22 RX0, .instantiable RX0 13, .initialized RX0] : List Cond), w ∈ gtb := gin [267, 268, 101] rfl (by decide +kernel)
set_option maxRecDepth 100000 in
theorem nw_X7_36 : ∀ w ∈ ([.classLink RX7 36 RX6, .instantiable RX6 3, .initialized RX6] : List Cond), w ∈ gtb := gin [329, 330, 102] rfl (by decide +kernel)
set_option maxRecDepth 100000 in
theorem nw_X7_46 : ∀ w ∈ ([.classLink RX7 46 RX3, .instantiable RX3 13, .initialized RX3] : List Cond), w ∈ gtb := gin [347, 348, 103] rfl (by decide +kernel)
set_option maxRecDepth 100000 in
theorem nw_X7_9 : ∀ w ∈ ([.classLink RX7 9 RX5, .instantiable RX5 6, .initialized RX5] : List Cond), w ∈ gtb := gin [117, 395, 104] rfl (by decide +kernel)
set_option maxRecDepth 100000 in
theorem oi_X0_3 : ∀ w ∈ ([.methodLink RX0 3 Lib.objectInit, .instanceMethod Lib.objectInit, .code Lib.objectInit ⟨#[0xb1]⟩ 1 none] : List Cond), w ∈ gtb := gin [272, 115, 116] rfl (by decide +kernel)
set_option maxRecDepth 100000 in
theorem oi_X1_3 : ∀ w ∈ ([.methodLink RX1 3 Lib.objectInit, .instanceMethod Lib.objectInit, .code Lib.objectInit ⟨#[0xb1]⟩ 1 none] : List Cond), w ∈ gtb := gin [130, 115, 116] rfl (by decide +kernel)
set_option maxRecDepth 100000 in
theorem oi_X2_3 : ∀ w ∈ ([.methodLink RX2 3 Lib.objectInit, .instanceMethod Lib.objectInit, .code Lib.objectInit ⟨#[0xb1]⟩ 1 none] : List Cond), w ∈ gtb := gin [136, 115, 116] rfl (by decide +kernel)
set_option maxRecDepth 100000 in
theorem oi_X3_3 : ∀ w ∈ ([.methodLink RX3 3 Lib.objectInit, .instanceMethod Lib.objectInit, .code Lib.objectInit ⟨#[0xb1]⟩ 1 none] : List Cond), w ∈ gtb := gin [352, 115, 116] rfl (by decide +kernel)
set_option maxRecDepth 100000 in
theorem oi_X4_5 : ∀ w ∈ ([.methodLink RX4 5 Lib.objectInit, .instanceMethod Lib.objectInit, .code Lib.objectInit ⟨#[0xb1]⟩ 1 none] : List Cond), w ∈ gtb := gin [124, 115, 116] rfl (by decide +kernel)
set_option maxRecDepth 100000 in
theorem oi_X5_3 : ∀ w ∈ ([.methodLink RX5 3 Lib.objectInit, .instanceMethod Lib.objectInit, .code Lib.objectInit ⟨#[0xb1]⟩ 1 none] : List Cond), w ∈ gtb := gin [399, 115, 116] rfl (by decide +kernel)
set_option maxRecDepth 100000 in
theorem oi_X6_3 : ∀ w ∈ ([.methodLink RX6 3 Lib.objectInit, .instanceMethod Lib.objectInit, .code Lib.objectInit ⟨#[0xb1]⟩ 1 none] : List Cond), w ∈ gtb := gin [334, 115, 116] rfl (by decide +kernel)
set_option maxRecDepth 100000 in
theorem oi_X7_1 : ∀ w ∈ ([.methodLink RX7 1 Lib.objectInit, .instanceMethod Lib.objectInit, .code Lib.objectInit ⟨#[0xb1]⟩ 1 none] : List Cond), w ∈ gtb := gin [114, 115, 116] rfl (by decide +kernel)
set_option maxRecDepth 100000 in
theorem oi_X8_1 : ∀ w ∈ ([.methodLink RX8 1 Lib.objectInit, .instanceMethod Lib.objectInit, .code Lib.objectInit ⟨#[0xb1]⟩ 1 none] : List Cond), w ∈ gtb := gin [1039, 115, 116] rfl (by decide +kernel)
set_option maxRecDepth 100000 in
theorem cw_X1_11 : qcIN RX1 11 yX2_init cX2_init 1 0 := ⟨gin [134, 100, 135] rfl (by decide +kernel), nin 133 rfl rfl, rfl, by decide +kernel, by decide +kernel, by decide +kernel⟩
set_option maxRecDepth 100000 in
theorem cw_X4_13 : qcIN RX4 13 yX1_init cX1_init 1 0 := ⟨gin [128, 99, 129] rfl (by decide +kernel), nin 127 rfl rfl, rfl, by decide +kernel, by decide +kernel, by decide +kernel⟩
set_option maxRecDepth 100000 in
theorem cw_X7_17 : qcIN RX7 17 yX4_init cX4_init 1 0 := ⟨gin [122, 98, 123] rfl (by decide +kernel), nin 121 rfl rfl, rfl, by decide +kernel, by decide +kernel, by decide +kernel⟩
set_option maxRecDepth 100000 in
theorem cw_X7_24 : qcIN RX7 24 yX0_init cX0_init 1 0 := ⟨gin [270, 101, 271] rfl (by decide +kernel), nin 269 rfl rfl, rfl, by decide +kernel, by decide +kernel, by decide +kernel⟩
set_option maxRecDepth 100000 in
theorem cw_X7_38 : qcIN RX7 38 yX6_init cX6_init 1 0 := ⟨gin [332, 102, 333] rfl (by decide +kernel), nin 331 rfl rfl, rfl, by decide +kernel, by decide +kernel, by decide +kernel⟩
set_option maxRecDepth 100000 in
theorem cw_X7_48 : qcIN RX7 48 yX3_init cX3_init 1 0 := ⟨gin [350, 103, 351] rfl (by decide +kernel), nin 349 rfl rfl, rfl, by decide +kernel, by decide +kernel, by decide +kernel⟩
set_option maxRecDepth 100000 in
theorem cw_X7_53 : qcIN RX7 53 yX5_init cX5_init 1 0 := ⟨gin [397, 104, 398] rfl (by decide +kernel), nin 396 rfl rfl, rfl, by decide +kernel, by decide +kernel, by decide +kernel⟩
