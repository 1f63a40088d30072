theorem ki_m1 : Int32.ofInt (-1) = (-1) := by decide +kernel
theorem ki_0 : Int32.ofInt 0 = 0 := by decide +kernel
theorem ki_1 : Int32.ofInt 1 = 1 := by decide +kernel
theorem ki_2 : Int32.ofInt 2 = 2 := by decide +kernel
theorem ki_4 : Int32.ofInt 4 = 4 := by decide +kernel
theorem ki_5 : Int32.ofInt 5 = 5 := by decide +kernel
theorem kb_m2 : (Int8.ofInt (-2)).toInt32 = (-2) := by decide +kernel
theorem kb_7 : (Int8.ofInt 7).toInt32 = 7 := by decide +kernel
theorem kb_30 : (Int8.ofInt 30).toInt32 = 30 := by decide +kernel
theorem gnX5 : ∀ w ∈ u_ws RX5 TX5 6, w ∈ gtb := gin [415, 417, 419, 421, 423, 425] (by decide +kernel) (by decide +kernel)
theorem fl_X5_9 : qfl RX5 9 5 0 := ⟨RX5, TX5, 6, tyX5, rfl, by decide, gin (ws := [Cond.fieldLink RX5 9 (TX5 0).1 (TX5 0).2.1 (TX5 0).2.2.1]) [401] (by decide +kernel) (by decide +kernel) _ List.mem_cons_self, gnX5, tyX5_ok, nmX5⟩
theorem fl_X5_15 : qfl RX5 15 5 1 := ⟨RX5, TX5, 6, tyX5, rfl, by decide, gin (ws := [Cond.fieldLink RX5 15 (TX5 1).1 (TX5 1).2.1 (TX5 1).2.2.1]) [403] (by decide +kernel) (by decide +kernel) _ List.mem_cons_self, gnX5, tyX5_ok, nmX5⟩
theorem fl_X5_18 : qfl RX5 18 5 2 := ⟨RX5, TX5, 6, tyX5, rfl, by decide, gin (ws := [Cond.fieldLink RX5 18 (TX5 2).1 (TX5 2).2.1 (TX5 2).2.2.1]) [404] (by decide +kernel) (by decide +kernel) _ List.mem_cons_self, gnX5, tyX5_ok, nmX5⟩
theorem fl_X5_21 : qfl RX5 21 5 3 := ⟨RX5, TX5, 6, tyX5, rfl, by decide, gin (ws := [Cond.fieldLink RX5 21 (TX5 3).1 (TX5 3).2.1 (TX5 3).2.2.1]) [405] (by decide +kernel) (by decide +kernel) _ List.mem_cons_self, gnX5, tyX5_ok, nmX5⟩
theorem fl_X5_24 : qfl RX5 24 5 4 := ⟨RX5, TX5, 6, tyX5, rfl, by decide, gin (ws := [Cond.fieldLink RX5 24 (TX5 4).1 (TX5 4).2.1 (TX5 4).2.2.1]) [408] (by decide +kernel) (by decide +kernel) _ List.mem_cons_self, gnX5, tyX5_ok, nmX5⟩
theorem fl_X5_28 : qfl RX5 28 5 5 := ⟨RX5, TX5, 6, tyX5, rfl, by decide, gin (ws := [Cond.fieldLink RX5 28 (TX5 5).1 (TX5 5).2.1 (TX5 5).2.2.1]) [413] (by decide +kernel) (by decide +kernel) _ List.mem_cons_self, gnX5, tyX5_ok, nmX5⟩
theorem fp_5_4 : qfp 5 4 .int = true := by decide +kernel
theorem fp_5_5 : qfp 5 5 .boolean = true := by decide +kernel
theorem kn_X5_46 : Cond.fieldLinkNest RX5 46 "QuireDesk" "MARK_TOP" "[I" "QuireDesk" ∈ ntb := nin 492 (by decide +kernel) rfl
theorem kn_X5_58 : Cond.fieldLinkNest RX5 58 "QuireDesk" "RULE_LOW" "[I" "QuireDesk" ∈ ntb := nin 541 (by decide +kernel) rfl
theorem kn_X5_61 : Cond.fieldLinkNest RX5 61 "QuireDesk" "RULE_TOP" "[I" "QuireDesk" ∈ ntb := nin 543 (by decide +kernel) rfl
theorem cw_X5_32 : qcV RX5 32 yX5_shift cX5_shift 3 none 2 := ⟨gin [465, 467, 1, 103, 468] (by decide +kernel) (by decide +kernel), by decide +kernel, by decide +kernel, by decide +kernel⟩
theorem cw_X5_36 : qcV RX5 36 yX5_has cX5_has 2 (some .boolean) 1 := ⟨gin [480, 481, 482, 103, 483] (by decide +kernel) (by decide +kernel), by decide +kernel, by decide +kernel, by decide +kernel⟩
theorem cw_X5_40 : qcA RX5 40 := gin [469, 471, 470, 105] (by decide +kernel) (by decide +kernel)
theorem cw_X5_49 : qcM RX5 49 Lib.Math.min.name Lib.Math.min.code 2 := gin [502, 503, 106, 504] (by decide +kernel) (by decide +kernel)
theorem cw_X5_55 : qcN RX5 55 yX7_isHanging cX7_isHanging 1 (some .boolean) 1 := ⟨gin [527, 96, 528] (by decide +kernel) (by decide +kernel), nin 526 (by decide +kernel) rfl, by decide +kernel, by decide +kernel, by decide +kernel⟩
theorem sw_ne {y : Int32} (n : Int) (c : Int32) (hc : c.toInt = n) (h : ¬ y = c) : y.toInt ≠ n := fun e => h (Int32.toInt_inj.mp (e.trans hc.symm))
