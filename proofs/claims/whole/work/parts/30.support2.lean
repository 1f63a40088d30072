set_option maxRecDepth 100000 in
theorem gnX7 : ∀ w ∈ u_ws RX7 TX7 8, w ∈ gtb := gin [435, 437, 439, 441, 443, 445, 447, 449] rfl (by decide +kernel)
set_option maxRecDepth 100000 in
theorem fl_X7_11 : qfl RX7 11 7 0 := ⟨RX7, TX7, 8, tyX7, rfl, by decide, gin (ws := [Cond.fieldLink RX7 11 (TX7 0).1 (TX7 0).2.1 (TX7 0).2.2.1]) [427] rfl (by decide +kernel) _ List.mem_cons_self, gnX7, tyX7_ok, nmX7⟩
set_option maxRecDepth 100000 in
theorem fl_X7_18 : qfl RX7 18 7 1 := ⟨RX7, TX7, 8, tyX7, rfl, by decide, gin (ws := [Cond.fieldLink RX7 18 (TX7 1).1 (TX7 1).2.1 (TX7 1).2.2.1]) [428] rfl (by decide +kernel) _ List.mem_cons_self, gnX7, tyX7_ok, nmX7⟩
set_option maxRecDepth 100000 in
theorem fl_X7_25 : qfl RX7 25 7 2 := ⟨RX7, TX7, 8, tyX7, rfl, by decide, gin (ws := [Cond.fieldLink RX7 25 (TX7 2).1 (TX7 2).2.1 (TX7 2).2.2.1]) [429] rfl (by decide +kernel) _ List.mem_cons_self, gnX7, tyX7_ok, nmX7⟩
set_option maxRecDepth 100000 in
theorem fl_X7_29 : qfl RX7 29 7 3 := ⟨RX7, TX7, 8, tyX7, rfl, by decide, gin (ws := [Cond.fieldLink RX7 29 (TX7 3).1 (TX7 3).2.1 (TX7 3).2.2.1]) [430] rfl (by decide +kernel) _ List.mem_cons_self, gnX7, tyX7_ok, nmX7⟩
set_option maxRecDepth 100000 in
theorem fl_X7_32 : qfl RX7 32 7 4 := ⟨RX7, TX7, 8, tyX7, rfl, by decide, gin (ws := [Cond.fieldLink RX7 32 (TX7 4).1 (TX7 4).2.1 (TX7 4).2.2.1]) [431] rfl (by decide +kernel) _ List.mem_cons_self, gnX7, tyX7_ok, nmX7⟩
set_option maxRecDepth 100000 in
theorem fl_X7_39 : qfl RX7 39 7 5 := ⟨RX7, TX7, 8, tyX7, rfl, by decide, gin (ws := [Cond.fieldLink RX7 39 (TX7 5).1 (TX7 5).2.1 (TX7 5).2.2.1]) [432] rfl (by decide +kernel) _ List.mem_cons_self, gnX7, tyX7_ok, nmX7⟩
set_option maxRecDepth 100000 in
theorem fl_X7_43 : qfl RX7 43 7 6 := ⟨RX7, TX7, 8, tyX7, rfl, by decide, gin (ws := [Cond.fieldLink RX7 43 (TX7 6).1 (TX7 6).2.1 (TX7 6).2.2.1]) [433] rfl (by decide +kernel) _ List.mem_cons_self, gnX7, tyX7_ok, nmX7⟩
set_option maxRecDepth 100000 in
theorem fl_X7_49 : qfl RX7 49 7 7 := ⟨RX7, TX7, 8, tyX7, rfl, by decide, gin (ws := [Cond.fieldLink RX7 49 (TX7 7).1 (TX7 7).2.1 (TX7 7).2.2.1]) [434] rfl (by decide +kernel) _ List.mem_cons_self, gnX7, tyX7_ok, nmX7⟩
set_option maxRecDepth 100000 in
theorem fl_X7_83 : qfl RX7 83 5 4 := ⟨RX5, TX5, 6, tyX5, rfl, by decide, gin (ws := [Cond.fieldLink RX7 83 (TX5 4).1 (TX5 4).2.1 (TX5 4).2.2.1]) [409] rfl (by decide +kernel) _ List.mem_cons_self, gnX5, tyX5_ok, nmX5⟩
set_option maxRecDepth 100000 in
theorem fl_X7_116 : qfl RX7 116 0 3 := ⟨RX0, TX0, 13, tyX0, rfl, by decide, gin (ws := [Cond.fieldLink RX7 116 (TX0 3).1 (TX0 3).2.1 (TX0 3).2.2.1]) [283] rfl (by decide +kernel) _ List.mem_cons_self, gnX0, tyX0_ok, nmX0⟩
set_option maxRecDepth 100000 in
theorem fl_X7_123 : qfl RX7 123 0 1 := ⟨RX0, TX0, 13, tyX0, rfl, by decide, gin (ws := [Cond.fieldLink RX7 123 (TX0 1).1 (TX0 1).2.1 (TX0 1).2.2.1]) [278] rfl (by decide +kernel) _ List.mem_cons_self, gnX0, tyX0_ok, nmX0⟩
set_option maxRecDepth 100000 in
theorem fl_X7_126 : qfl RX7 126 0 2 := ⟨RX0, TX0, 13, tyX0, rfl, by decide, gin (ws := [Cond.fieldLink RX7 126 (TX0 2).1 (TX0 2).2.1 (TX0 2).2.2.1]) [281] rfl (by decide +kernel) _ List.mem_cons_self, gnX0, tyX0_ok, nmX0⟩
set_option maxRecDepth 100000 in
theorem fl_X7_132 : qfl RX7 132 0 4 := ⟨RX0, TX0, 13, tyX0, rfl, by decide, gin (ws := [Cond.fieldLink RX7 132 (TX0 4).1 (TX0 4).2.1 (TX0 4).2.2.1]) [287] rfl (by decide +kernel) _ List.mem_cons_self, gnX0, tyX0_ok, nmX0⟩
set_option maxRecDepth 100000 in
theorem fl_X7_138 : qfl RX7 138 0 6 := ⟨RX0, TX0, 13, tyX0, rfl, by decide, gin (ws := [Cond.fieldLink RX7 138 (TX0 6).1 (TX0 6).2.1 (TX0 6).2.2.1]) [291] rfl (by decide +kernel) _ List.mem_cons_self, gnX0, tyX0_ok, nmX0⟩
set_option maxRecDepth 100000 in
theorem fl_X7_148 : qfl RX7 148 0 10 := ⟨RX0, TX0, 13, tyX0, rfl, by decide, gin (ws := [Cond.fieldLink RX7 148 (TX0 10).1 (TX0 10).2.1 (TX0 10).2.2.1]) [297] rfl (by decide +kernel) _ List.mem_cons_self, gnX0, tyX0_ok, nmX0⟩
set_option maxRecDepth 100000 in
theorem fl_X7_151 : qfl RX7 151 0 11 := ⟨RX0, TX0, 13, tyX0, rfl, by decide, gin (ws := [Cond.fieldLink RX7 151 (TX0 11).1 (TX0 11).2.1 (TX0 11).2.2.1]) [299] rfl (by decide +kernel) _ List.mem_cons_self, gnX0, tyX0_ok, nmX0⟩
set_option maxRecDepth 100000 in
theorem fl_X7_163 : qfl RX7 163 0 0 := ⟨RX0, TX0, 13, tyX0, rfl, by decide, gin (ws := [Cond.fieldLink RX7 163 (TX0 0).1 (TX0 0).2.1 (TX0 0).2.2.1]) [274] rfl (by decide +kernel) _ List.mem_cons_self, gnX0, tyX0_ok, nmX0⟩
set_option maxRecDepth 100000 in
theorem fl_X7_171 : qfl RX7 171 6 1 := ⟨RX6, TX6, 3, tyX6, rfl, by decide, gin (ws := [Cond.fieldLink RX7 171 (TX6 1).1 (TX6 1).2.1 (TX6 1).2.2.1]) [338] rfl (by decide +kernel) _ List.mem_cons_self, gnX6, tyX6_ok, nmX6⟩
set_option maxRecDepth 100000 in
theorem fl_X7_191 : qfl RX7 191 3 0 := ⟨RX3, TX3, 13, tyX3, rfl, by decide, gin (ws := [Cond.fieldLink RX7 191 (TX3 0).1 (TX3 0).2.1 (TX3 0).2.2.1]) [354] rfl (by decide +kernel) _ List.mem_cons_self, gnX3, tyX3_ok, nmX3⟩
set_option maxRecDepth 100000 in
theorem fl_X7_194 : qfl RX7 194 3 1 := ⟨RX3, TX3, 13, tyX3, rfl, by decide, gin (ws := [Cond.fieldLink RX7 194 (TX3 1).1 (TX3 1).2.1 (TX3 1).2.2.1]) [356] rfl (by decide +kernel) _ List.mem_cons_self, gnX3, tyX3_ok, nmX3⟩
set_option maxRecDepth 100000 in
theorem kl_X7_98 : Cond.constantLong RX7 98 (-1) ∈ gtb := gin (ws := [Cond.constantLong RX7 98 (-1)]) [548] rfl (by decide +kernel) _ List.mem_cons_self
set_option maxRecDepth 100000 in
theorem cw_X7_54 : qcV RX7 54 yX7_rowOf cX7_rowOf 2 (some (.object "QuireDesk$Row")) 1 := ⟨gin [456, 458, 0, 97, 459] rfl (by decide +kernel), by decide +kernel, by decide +kernel, by decide +kernel⟩
set_option maxRecDepth 100000 in
theorem cw_X7_58 : qcV RX7 58 yX5_insert cX5_insert 4 (some .int) 2 := ⟨gin [460, 461, 462, 104, 463] rfl (by decide +kernel), by decide +kernel, by decide +kernel, by decide +kernel⟩
set_option maxRecDepth 100000 in
theorem cw_X7_62 : qcV RX7 62 yX5_remove cX5_remove 3 (some .int) 1 := ⟨gin [475, 476, 477, 104, 478] rfl (by decide +kernel), by decide +kernel, by decide +kernel, by decide +kernel⟩
set_option maxRecDepth 100000 in
theorem cw_X7_66 : qcV RX7 66 yX5_setMark cX5_setMark 4 (some .boolean) 3 := ⟨gin [487, 488, 489, 104, 490] rfl (by decide +kernel), by decide +kernel, by decide +kernel, by decide +kernel⟩
set_option maxRecDepth 100000 in
theorem cw_X7_70 : qcV RX7 70 yX5_tearTo cX5_tearTo 4 (some .int) 2 := ⟨gin [497, 498, 499, 104, 500] rfl (by decide +kernel), by decide +kernel, by decide +kernel, by decide +kernel⟩
set_option maxRecDepth 100000 in
theorem cw_X7_73 : qcV RX7 73 yX5_has cX5_has 2 (some .boolean) 1 := ⟨gin [508, 480, 481, 104, 482] rfl (by decide +kernel), by decide +kernel, by decide +kernel, by decide +kernel⟩
set_option maxRecDepth 100000 in
theorem cw_X7_77 : qcV RX7 77 yX5_kindOf cX5_kindOf 2 (some .int) 1 := ⟨gin [509, 510, 511, 104, 512] rfl (by decide +kernel), by decide +kernel, by decide +kernel, by decide +kernel⟩
set_option maxRecDepth 100000 in
theorem cw_X7_80 : qcV RX7 80 yX5_markOf cX5_markOf 3 (some .int) 2 := ⟨gin [513, 514, 515, 104, 516] rfl (by decide +kernel), by decide +kernel, by decide +kernel, by decide +kernel⟩
set_option maxRecDepth 100000 in
theorem cw_X7_87 : qcV RX7 87 yX5_hanging cX5_hanging 3 (some .int) 0 := ⟨gin [521, 522, 523, 104, 524] rfl (by decide +kernel), by decide +kernel, by decide +kernel, by decide +kernel⟩
set_option maxRecDepth 100000 in
theorem cw_X7_91 : qcV RX7 91 yX5_ruleOf cX5_ruleOf 2 (some .int) 1 := ⟨gin [528, 529, 530, 104, 531] rfl (by decide +kernel), by decide +kernel, by decide +kernel, by decide +kernel⟩
set_option maxRecDepth 100000 in
theorem cw_X7_94 : qcV RX7 94 yX5_setRule cX5_setRule 3 (some .boolean) 2 := ⟨gin [536, 537, 538, 104, 539] rfl (by decide +kernel), by decide +kernel, by decide +kernel, by decide +kernel⟩
set_option maxRecDepth 100000 in
theorem cw_X7_100 : qcV RX7 100 yX4_load cX4_load 3 none 1 := ⟨gin [549, 550, 551, 98, 552] rfl (by decide +kernel), by decide +kernel, by decide +kernel, by decide +kernel⟩
set_option maxRecDepth 100000 in
theorem cw_X7_104 : qcV RX7 104 yX4_total cX4_total 1 (some .long) 0 := ⟨gin [662, 663, 664, 98, 665] rfl (by decide +kernel), by decide +kernel, by decide +kernel, by decide +kernel⟩
set_option maxRecDepth 100000 in
theorem cw_X7_108 : qcV RX7 108 yX4_chooseWay cX4_chooseWay 15 (some .boolean) 2 := ⟨gin [698, 699, 700, 98, 701] rfl (by decide +kernel), by decide +kernel, by decide +kernel, by decide +kernel⟩
set_option maxRecDepth 100000 in
theorem cw_X7_112 : qcV RX7 112 yX0_layOut cX0_layOut 8 none 2 := ⟨gin [714, 715, 716, 101, 717] rfl (by decide +kernel), by decide +kernel, by decide +kernel, by decide +kernel⟩
set_option maxRecDepth 100000 in
theorem cw_X7_119 : qcV RX7 119 yX4_firstStuck cX4_firstStuck 5 (some .int) 1 := ⟨gin [761, 762, 763, 98, 764] rfl (by decide +kernel), by decide +kernel, by decide +kernel, by decide +kernel⟩
set_option maxRecDepth 100000 in
theorem cw_X7_129 : qcV RX7 129 yX0_placesAhead cX0_placesAhead 4 (some .int) 1 := ⟨gin [785, 786, 787, 101, 788] rfl (by decide +kernel), by decide +kernel, by decide +kernel, by decide +kernel⟩
set_option maxRecDepth 100000 in
theorem cw_X7_135 : qcV RX7 135 yX0_hasQuire cX0_hasQuire 2 (some .boolean) 1 := ⟨gin [793, 794, 795, 101, 796] rfl (by decide +kernel), by decide +kernel, by decide +kernel, by decide +kernel⟩
set_option maxRecDepth 100000 in
theorem cw_X7_142 : qcV RX7 142 yX0_thingAt cX0_thingAt 3 (some .int) 2 := ⟨gin [801, 802, 803, 101, 804] rfl (by decide +kernel), by decide +kernel, by decide +kernel, by decide +kernel⟩
set_option maxRecDepth 100000 in
theorem cw_X7_145 : qcV RX7 145 yX0_hangs cX0_hangs 2 (some .boolean) 1 := ⟨gin [814, 815, 816, 101, 817] rfl (by decide +kernel), by decide +kernel, by decide +kernel, by decide +kernel⟩
set_option maxRecDepth 100000 in
theorem cw_X7_154 : qcV RX7 154 yX0_hasPlace cX0_hasPlace 3 (some .boolean) 2 := ⟨gin [822, 806, 807, 101, 808] rfl (by decide +kernel), by decide +kernel, by decide +kernel, by decide +kernel⟩
set_option maxRecDepth 100000 in
theorem cw_X7_157 : qcV RX7 157 yX0_pageAt cX0_pageAt 3 (some .int) 2 := ⟨gin [823, 824, 825, 101, 826] rfl (by decide +kernel), by decide +kernel, by decide +kernel, by decide +kernel⟩
set_option maxRecDepth 100000 in
theorem cw_X7_160 : qcV RX7 160 yX0_wordBefore cX0_wordBefore 4 (some .int) 2 := ⟨gin [828, 829, 830, 101, 831] rfl (by decide +kernel), by decide +kernel, by decide +kernel, by decide +kernel⟩
set_option maxRecDepth 100000 in
theorem cw_X7_167 : qcV RX7 167 yX6_writeFormula cX6_writeFormula 4 none 1 := ⟨gin [838, 839, 840, 102, 841] rfl (by decide +kernel), by decide +kernel, by decide +kernel, by decide +kernel⟩
set_option maxRecDepth 100000 in
theorem cw_X7_174 : qcV RX7 174 yX6_signAt cX6_signAt 2 (some .int) 1 := ⟨gin [892, 893, 894, 102, 895] rfl (by decide +kernel), by decide +kernel, by decide +kernel, by decide +kernel⟩
set_option maxRecDepth 100000 in
theorem cw_X7_177 : qcV RX7 177 yX6_addInt cX6_addInt 2 none 1 := ⟨gin [900, 901, 902, 102, 903] rfl (by decide +kernel), by decide +kernel, by decide +kernel, by decide +kernel⟩
set_option maxRecDepth 100000 in
theorem cw_X7_181 : qcV RX7 181 yX6_become cX6_become 2 none 1 := ⟨gin [912, 913, 914, 102, 915] rfl (by decide +kernel), by decide +kernel, by decide +kernel, by decide +kernel⟩
set_option maxRecDepth 100000 in
theorem cw_X7_185 : qcV RX7 185 yX3_readFormula cX3_readFormula 4 (some .boolean) 2 := ⟨gin [921, 922, 923, 103, 924] rfl (by decide +kernel), by decide +kernel, by decide +kernel, by decide +kernel⟩
set_option maxRecDepth 100000 in
theorem cw_X7_189 : qcV RX7 189 yX0_become cX0_become 2 none 1 := ⟨gin [984, 985, 986, 101, 987] rfl (by decide +kernel), by decide +kernel, by decide +kernel, by decide +kernel⟩
set_option maxRecDepth 100000 in
theorem cw_X7_197 : qcV RX7 197 yX7_keptAs cX7_keptAs 2 (some (.object "QuireDesk$Folding")) 1 := ⟨gin [1001, 1003, 40, 97, 1004] rfl (by decide +kernel), by decide +kernel, by decide +kernel, by decide +kernel⟩
set_option maxRecDepth 100000 in
theorem cw_X7_204 : qcS RX7 204 yX7_nthUnlike cX7_nthUnlike 5 (some .int) 3 := ⟨gin [1013, 1014, 97, 1015] rfl (by decide +kernel), by decide +kernel, by decide +kernel, by decide +kernel⟩
set_option maxRecDepth 100000 in
theorem cw_X7_208 : qcV RX7 208 yX0_isFoldedLike cX0_isFoldedLike 3 (some .boolean) 1 := ⟨gin [1020, 1021, 1022, 101, 1023] rfl (by decide +kernel), by decide +kernel, by decide +kernel, by decide +kernel⟩
set_option maxRecDepth 100000 in
theorem cw_X7_212 : qcV RX7 212 yX0_join cX0_join 6 none 2 := ⟨gin [1024, 1025, 1026, 101, 1027] rfl (by decide +kernel), by decide +kernel, by decide +kernel, by decide +kernel⟩
