set_option maxRecDepth 100000 in
theorem ks_150 : (Int16.ofInt 150).toInt32 = 150 := by decide +kernel
set_option maxRecDepth 100000 in
theorem ks_180 : (Int16.ofInt 180).toInt32 = 180 := by decide +kernel
set_option maxRecDepth 100000 in
theorem ks_200 : (Int16.ofInt 200).toInt32 = 200 := by decide +kernel
set_option maxRecDepth 100000 in
theorem ks_210 : (Int16.ofInt 210).toInt32 = 210 := by decide +kernel
set_option maxRecDepth 100000 in
theorem ks_320 : (Int16.ofInt 320).toInt32 = 320 := by decide +kernel
set_option maxRecDepth 100000 in
theorem ks_1260 : (Int16.ofInt 1260).toInt32 = 1260 := by decide +kernel
set_option maxRecDepth 100000 in
theorem ks_2000 : (Int16.ofInt 2000).toInt32 = 2000 := by decide +kernel
set_option maxRecDepth 100000 in
theorem ks_7140 : (Int16.ofInt 7140).toInt32 = 7140 := by decide +kernel
set_option maxRecDepth 100000 in
theorem ac_boolean : Cond.arrayClass .boolean ∈ gtb := gin (ws := [Cond.arrayClass .boolean]) [1185] rfl (by decide +kernel) _ List.mem_cons_self
set_option maxRecDepth 100000 in
theorem ac_int : Cond.arrayClass .int ∈ gtb := gin (ws := [Cond.arrayClass .int]) [172] rfl (by decide +kernel) _ List.mem_cons_self
set_option maxRecDepth 100000 in
theorem ac_long : Cond.arrayClass .long ∈ gtb := gin (ws := [Cond.arrayClass .long]) [267] rfl (by decide +kernel) _ List.mem_cons_self
set_option maxRecDepth 100000 in
theorem cl_X7_22 : Cond.classLink RX7 22 "QuireDesk$Folding" ∈ gtb := gin (ws := [Cond.classLink RX7 22 "QuireDesk$Folding"]) [268] rfl (by decide +kernel) _ List.mem_cons_self
set_option maxRecDepth 100000 in
theorem cl_X7_9 : Cond.classLink RX7 9 "QuireDesk$Row" ∈ gtb := gin (ws := [Cond.classLink RX7 9 "QuireDesk$Row"]) [116] rfl (by decide +kernel) _ List.mem_cons_self
set_option maxRecDepth 100000 in
theorem nw_X4_11 : ∀ w ∈ ([.classLink RX4 11 RX2, .instantiable RX2 13, .initialized RX2] : List Cond), w ∈ gtb := gin [124, 125, 98] rfl (by decide +kernel)
set_option maxRecDepth 100000 in
theorem nw_X4_18 : ∀ w ∈ ([.classLink RX4 18 RX1, .instantiable RX1 13, .initialized RX1] : List Cond), w ∈ gtb := gin [173, 174, 99] rfl (by decide +kernel)
set_option maxRecDepth 100000 in
theorem nw_X7_15 : ∀ w ∈ ([.classLink RX7 15 RX4, .instantiable RX4 13, .initialized RX4] : List Cond), w ∈ gtb := gin [118, 119, 97] rfl (by decide +kernel)
set_option maxRecDepth 100000 in
theorem nw_X7_22 : ∀ w ∈ ([.classLink RX7 22 RX0, .instantiable RX0 13, .initialized RX0] : List Cond), w ∈ gtb := gin [268, 269, 100] rfl (by decide +kernel)
set_option maxRecDepth 100000 in
theorem nw_X7_36 : ∀ w ∈ ([.classLink RX7 36 RX6, .instantiable RX6 3, .initialized RX6] : List Cond), w ∈ gtb := gin [330, 331, 101] rfl (by decide +kernel)
set_option maxRecDepth 100000 in
theorem nw_X7_46 : ∀ w ∈ ([.classLink RX7 46 RX3, .instantiable RX3 13, .initialized RX3] : List Cond), w ∈ gtb := gin [348, 349, 102] rfl (by decide +kernel)
set_option maxRecDepth 100000 in
theorem nw_X7_9 : ∀ w ∈ ([.classLink RX7 9 RX5, .instantiable RX5 6, .initialized RX5] : List Cond), w ∈ gtb := gin [116, 396, 103] rfl (by decide +kernel)
set_option maxRecDepth 100000 in
theorem oi_X0_3 : ∀ w ∈ ([.methodLink RX0 3 Lib.objectInit, .instanceMethod Lib.objectInit, .code Lib.objectInit ⟨#[0xb1]⟩ 1 none] : List Cond), w ∈ gtb := gin [273, 114, 115] rfl (by decide +kernel)
set_option maxRecDepth 100000 in
theorem oi_X1_3 : ∀ w ∈ ([.methodLink RX1 3 Lib.objectInit, .instanceMethod Lib.objectInit, .code Lib.objectInit ⟨#[0xb1]⟩ 1 none] : List Cond), w ∈ gtb := gin [178, 114, 115] rfl (by decide +kernel)
set_option maxRecDepth 100000 in
theorem oi_X2_3 : ∀ w ∈ ([.methodLink RX2 3 Lib.objectInit, .instanceMethod Lib.objectInit, .code Lib.objectInit ⟨#[0xb1]⟩ 1 none] : List Cond), w ∈ gtb := gin [129, 114, 115] rfl (by decide +kernel)
set_option maxRecDepth 100000 in
theorem oi_X3_3 : ∀ w ∈ ([.methodLink RX3 3 Lib.objectInit, .instanceMethod Lib.objectInit, .code Lib.objectInit ⟨#[0xb1]⟩ 1 none] : List Cond), w ∈ gtb := gin [353, 114, 115] rfl (by decide +kernel)
set_option maxRecDepth 100000 in
theorem oi_X4_5 : ∀ w ∈ ([.methodLink RX4 5 Lib.objectInit, .instanceMethod Lib.objectInit, .code Lib.objectInit ⟨#[0xb1]⟩ 1 none] : List Cond), w ∈ gtb := gin [123, 114, 115] rfl (by decide +kernel)
set_option maxRecDepth 100000 in
theorem oi_X5_3 : ∀ w ∈ ([.methodLink RX5 3 Lib.objectInit, .instanceMethod Lib.objectInit, .code Lib.objectInit ⟨#[0xb1]⟩ 1 none] : List Cond), w ∈ gtb := gin [400, 114, 115] rfl (by decide +kernel)
set_option maxRecDepth 100000 in
theorem oi_X6_3 : ∀ w ∈ ([.methodLink RX6 3 Lib.objectInit, .instanceMethod Lib.objectInit, .code Lib.objectInit ⟨#[0xb1]⟩ 1 none] : List Cond), w ∈ gtb := gin [335, 114, 115] rfl (by decide +kernel)
set_option maxRecDepth 100000 in
theorem oi_X7_1 : ∀ w ∈ ([.methodLink RX7 1 Lib.objectInit, .instanceMethod Lib.objectInit, .code Lib.objectInit ⟨#[0xb1]⟩ 1 none] : List Cond), w ∈ gtb := gin [113, 114, 115] rfl (by decide +kernel)
set_option maxRecDepth 100000 in
theorem oi_X8_1 : ∀ w ∈ ([.methodLink RX8 1 Lib.objectInit, .instanceMethod Lib.objectInit, .code Lib.objectInit ⟨#[0xb1]⟩ 1 none] : List Cond), w ∈ gtb := gin [1036, 114, 115] rfl (by decide +kernel)
set_option maxRecDepth 100000 in
theorem cw_X4_13 : qcIN RX4 13 yX2_init cX2_init 1 0 := ⟨gin [127, 98, 128] rfl (by decide +kernel), nin 126 rfl rfl, rfl, by decide +kernel, by decide +kernel, by decide +kernel⟩
set_option maxRecDepth 100000 in
theorem cw_X4_20 : qcI RX4 20 yX1_init cX1_init 2 1 := ⟨gin [175, 176, 99, 177] rfl (by decide +kernel), rfl, by decide +kernel, by decide +kernel, by decide +kernel⟩
set_option maxRecDepth 100000 in
theorem cw_X7_17 : qcIN RX7 17 yX4_init cX4_init 1 0 := ⟨gin [121, 97, 122] rfl (by decide +kernel), nin 120 rfl rfl, rfl, by decide +kernel, by decide +kernel, by decide +kernel⟩
set_option maxRecDepth 100000 in
theorem cw_X7_24 : qcIN RX7 24 yX0_init cX0_init 1 0 := ⟨gin [271, 100, 272] rfl (by decide +kernel), nin 270 rfl rfl, rfl, by decide +kernel, by decide +kernel, by decide +kernel⟩
set_option maxRecDepth 100000 in
theorem cw_X7_38 : qcIN RX7 38 yX6_init cX6_init 1 0 := ⟨gin [333, 101, 334] rfl (by decide +kernel), nin 332 rfl rfl, rfl, by decide +kernel, by decide +kernel, by decide +kernel⟩
set_option maxRecDepth 100000 in
theorem cw_X7_48 : qcIN RX7 48 yX3_init cX3_init 1 0 := ⟨gin [351, 102, 352] rfl (by decide +kernel), nin 350 rfl rfl, rfl, by decide +kernel, by decide +kernel, by decide +kernel⟩
set_option maxRecDepth 100000 in
theorem cw_X7_53 : qcIN RX7 53 yX5_init cX5_init 1 0 := ⟨gin [398, 103, 399] rfl (by decide +kernel), nin 397 rfl rfl, rfl, by decide +kernel, by decide +kernel, by decide +kernel⟩
