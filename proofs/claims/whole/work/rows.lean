section
-- ===== PART A: goes FIRST, ahead of the names: the tables' words, and 'selects' of the private methods out of them =====
/-- a private method of a class that the tables say can be made, by its rows of tables_1 -/
def lw_okq (q : MethodName × Nat) : Prop := (q.1.cls ≠ "java/lang/invoke/MethodHandle" ∧ q.1.cls ≠ "java/lang/invoke/VarHandle") ∧ Cond.instantiable q.1.cls q.2 ∈ tables_1 ∧ Cond.privateMethod q.1 ∈ tables_1 ∧ Cond.instanceMethod q.1 ∈ tables_1
theorem lw_p0 : lw_okq (⟨"QuireDesk", "rowOf", "(I)LQuireDesk$Row;"⟩, 8) := ⟨⟨by decide +kernel, by decide +kernel⟩, List.mem_of_getElem? (i := 14) (by decide +kernel), List.mem_of_getElem? (i := 363) (by decide +kernel), List.mem_of_getElem? (i := 364) (by decide +kernel)⟩
theorem lw_p1 : lw_okq (⟨"QuireDesk$Row", "shift", "(II)V"⟩, 6) := ⟨⟨by decide +kernel, by decide +kernel⟩, List.mem_of_getElem? (i := 301) (by decide +kernel), List.mem_of_getElem? (i := 371) (by decide +kernel), List.mem_of_getElem? (i := 372) (by decide +kernel)⟩
theorem lw_p2 : lw_okq (⟨"QuireDesk$Leaves", "add", "(LQuireDesk$Row;I)V"⟩, 13) := ⟨⟨by decide +kernel, by decide +kernel⟩, List.mem_of_getElem? (i := 30) (by decide +kernel), List.mem_of_getElem? (i := 468) (by decide +kernel), List.mem_of_getElem? (i := 469) (by decide +kernel)⟩
theorem lw_p3 : lw_okq (⟨"QuireDesk$Reckoner", "groupLays", "(I)V"⟩, 13) := ⟨⟨by decide +kernel, by decide +kernel⟩, List.mem_of_getElem? (i := 24) (by decide +kernel), List.mem_of_getElem? (i := 487) (by decide +kernel), List.mem_of_getElem? (i := 488) (by decide +kernel)⟩
theorem lw_p4 : lw_okq (⟨"QuireDesk$Lays", "layMask", "()I"⟩, 13) := ⟨⟨by decide +kernel, by decide +kernel⟩, List.mem_of_getElem? (i := 79) (by decide +kernel), List.mem_of_getElem? (i := 507) (by decide +kernel), List.mem_of_getElem? (i := 508) (by decide +kernel)⟩
theorem lw_p5 : lw_okq (⟨"QuireDesk$Lays", "layPlace", "(I)Z"⟩, 13) := ⟨⟨by decide +kernel, by decide +kernel⟩, List.mem_of_getElem? (i := 79) (by decide +kernel), List.mem_of_getElem? (i := 515) (by decide +kernel), List.mem_of_getElem? (i := 516) (by decide +kernel)⟩
theorem lw_p6 : lw_okq (⟨"QuireDesk$Reckoner", "addLay", "(I)V"⟩, 13) := ⟨⟨by decide +kernel, by decide +kernel⟩, List.mem_of_getElem? (i := 24) (by decide +kernel), List.mem_of_getElem? (i := 542) (by decide +kernel), List.mem_of_getElem? (i := 543) (by decide +kernel)⟩
theorem lw_p7 : lw_okq (⟨"QuireDesk$Reckoner", "addGroup", "(IIII)V"⟩, 13) := ⟨⟨by decide +kernel, by decide +kernel⟩, List.mem_of_getElem? (i := 24) (by decide +kernel), List.mem_of_getElem? (i := 559) (by decide +kernel), List.mem_of_getElem? (i := 560) (by decide +kernel)⟩
theorem lw_p8 : lw_okq (⟨"QuireDesk$Reckoner", "countFrom", "(IIIZ)J"⟩, 13) := ⟨⟨by decide +kernel, by decide +kernel⟩, List.mem_of_getElem? (i := 24) (by decide +kernel), List.mem_of_getElem? (i := 569) (by decide +kernel), List.mem_of_getElem? (i := 570) (by decide +kernel)⟩
theorem lw_p9 : lw_okq (⟨"QuireDesk$Reckoner", "stateOf", "(IIIZ)I"⟩, 13) := ⟨⟨by decide +kernel, by decide +kernel⟩, List.mem_of_getElem? (i := 24) (by decide +kernel), List.mem_of_getElem? (i := 573) (by decide +kernel), List.mem_of_getElem? (i := 574) (by decide +kernel)⟩
theorem lw_p10 : lw_okq (⟨"QuireDesk$Reckoner", "isKnown", "(I)Z"⟩, 13) := ⟨⟨by decide +kernel, by decide +kernel⟩, List.mem_of_getElem? (i := 24) (by decide +kernel), List.mem_of_getElem? (i := 580) (by decide +kernel), List.mem_of_getElem? (i := 581) (by decide +kernel)⟩
theorem lw_p11 : lw_okq (⟨"QuireDesk$Reckoner", "reckon", "(IIIIZ)V"⟩, 13) := ⟨⟨by decide +kernel, by decide +kernel⟩, List.mem_of_getElem? (i := 24) (by decide +kernel), List.mem_of_getElem? (i := 584) (by decide +kernel), List.mem_of_getElem? (i := 585) (by decide +kernel)⟩
theorem lw_p12 : lw_okq (⟨"QuireDesk$Reckoner", "leastFrom", "(IIIZ)I"⟩, 13) := ⟨⟨by decide +kernel, by decide +kernel⟩, List.mem_of_getElem? (i := 24) (by decide +kernel), List.mem_of_getElem? (i := 592) (by decide +kernel), List.mem_of_getElem? (i := 593) (by decide +kernel)⟩
theorem lw_p13 : lw_okq (⟨"QuireDesk$Reckoner", "countBehind", "(IIIZ)J"⟩, 13) := ⟨⟨by decide +kernel, by decide +kernel⟩, List.mem_of_getElem? (i := 24) (by decide +kernel), List.mem_of_getElem? (i := 605) (by decide +kernel), List.mem_of_getElem? (i := 606) (by decide +kernel)⟩
theorem lw_p14 : lw_okq (⟨"QuireDesk$Reckoner", "leastBehind", "(III)I"⟩, 13) := ⟨⟨by decide +kernel, by decide +kernel⟩, List.mem_of_getElem? (i := 24) (by decide +kernel), List.mem_of_getElem? (i := 609) (by decide +kernel), List.mem_of_getElem? (i := 610) (by decide +kernel)⟩
theorem lw_p15 : lw_okq (⟨"QuireDesk$Reckoner", "choose", "(I)V"⟩, 13) := ⟨⟨by decide +kernel, by decide +kernel⟩, List.mem_of_getElem? (i := 24) (by decide +kernel), List.mem_of_getElem? (i := 613) (by decide +kernel), List.mem_of_getElem? (i := 614) (by decide +kernel)⟩
def lw_privs_1 : List (MethodName × Nat) := [(⟨"QuireDesk", "rowOf", "(I)LQuireDesk$Row;"⟩, 8), (⟨"QuireDesk$Row", "shift", "(II)V"⟩, 6), (⟨"QuireDesk$Leaves", "add", "(LQuireDesk$Row;I)V"⟩, 13), (⟨"QuireDesk$Reckoner", "groupLays", "(I)V"⟩, 13), (⟨"QuireDesk$Lays", "layMask", "()I"⟩, 13), (⟨"QuireDesk$Lays", "layPlace", "(I)Z"⟩, 13), (⟨"QuireDesk$Reckoner", "addLay", "(I)V"⟩, 13), (⟨"QuireDesk$Reckoner", "addGroup", "(IIII)V"⟩, 13), (⟨"QuireDesk$Reckoner", "countFrom", "(IIIZ)J"⟩, 13), (⟨"QuireDesk$Reckoner", "stateOf", "(IIIZ)I"⟩, 13), (⟨"QuireDesk$Reckoner", "isKnown", "(I)Z"⟩, 13), (⟨"QuireDesk$Reckoner", "reckon", "(IIIIZ)V"⟩, 13), (⟨"QuireDesk$Reckoner", "leastFrom", "(IIIZ)I"⟩, 13), (⟨"QuireDesk$Reckoner", "countBehind", "(IIIZ)J"⟩, 13), (⟨"QuireDesk$Reckoner", "leastBehind", "(III)I"⟩, 13), (⟨"QuireDesk$Reckoner", "choose", "(I)V"⟩, 13)]
theorem lw_r1 : ∀ q ∈ lw_privs_1, lw_okq q := List.forall_mem_cons.mpr ⟨lw_p0, List.forall_mem_cons.mpr ⟨lw_p1, List.forall_mem_cons.mpr ⟨lw_p2, List.forall_mem_cons.mpr ⟨lw_p3, List.forall_mem_cons.mpr ⟨lw_p4, List.forall_mem_cons.mpr ⟨lw_p5, List.forall_mem_cons.mpr ⟨lw_p6, List.forall_mem_cons.mpr ⟨lw_p7, List.forall_mem_cons.mpr ⟨lw_p8, List.forall_mem_cons.mpr ⟨lw_p9, List.forall_mem_cons.mpr ⟨lw_p10, List.forall_mem_cons.mpr ⟨lw_p11, List.forall_mem_cons.mpr ⟨lw_p12, List.forall_mem_cons.mpr ⟨lw_p13, List.forall_mem_cons.mpr ⟨lw_p14, List.forall_mem_cons.mpr ⟨lw_p15, fun _ h => absurd h List.not_mem_nil⟩⟩⟩⟩⟩⟩⟩⟩⟩⟩⟩⟩⟩⟩⟩⟩
theorem lw_p16 : lw_okq (⟨"QuireDesk$Folding", "addLoose", "([III)I"⟩, 13) := ⟨⟨by decide +kernel, by decide +kernel⟩, List.mem_of_getElem? (i := 174) (by decide +kernel), List.mem_of_getElem? (i := 625) (by decide +kernel), List.mem_of_getElem? (i := 626) (by decide +kernel)⟩
theorem lw_p17 : lw_okq (⟨"QuireDesk$Folding", "addCell", "(I)V"⟩, 13) := ⟨⟨by decide +kernel, by decide +kernel⟩, List.mem_of_getElem? (i := 174) (by decide +kernel), List.mem_of_getElem? (i := 646) (by decide +kernel), List.mem_of_getElem? (i := 647) (by decide +kernel)⟩
theorem lw_p18 : lw_okq (⟨"QuireDesk$Reckoner", "opensUpTo", "(I)Z"⟩, 13) := ⟨⟨by decide +kernel, by decide +kernel⟩, List.mem_of_getElem? (i := 24) (by decide +kernel), List.mem_of_getElem? (i := 670) (by decide +kernel), List.mem_of_getElem? (i := 671) (by decide +kernel)⟩
theorem lw_p19 : lw_okq (⟨"QuireDesk$Reckoner", "wasReached", "(I)Z"⟩, 13) := ⟨⟨by decide +kernel, by decide +kernel⟩, List.mem_of_getElem? (i := 24) (by decide +kernel), List.mem_of_getElem? (i := 675) (by decide +kernel), List.mem_of_getElem? (i := 676) (by decide +kernel)⟩
theorem lw_p20 : lw_okq (⟨"QuireDesk$Reckoner", "wasIn", "(IIIZ)Z"⟩, 13) := ⟨⟨by decide +kernel, by decide +kernel⟩, List.mem_of_getElem? (i := 24) (by decide +kernel), List.mem_of_getElem? (i := 679) (by decide +kernel), List.mem_of_getElem? (i := 680) (by decide +kernel)⟩
theorem lw_p21 : lw_okq (⟨"QuireDesk$Strip", "add", "(I)V"⟩, 3) := ⟨⟨by decide +kernel, by decide +kernel⟩, List.mem_of_getElem? (i := 236) (by decide +kernel), List.mem_of_getElem? (i := 745) (by decide +kernel), List.mem_of_getElem? (i := 746) (by decide +kernel)⟩
theorem lw_p22 : lw_okq (⟨"QuireDesk$Strip", "addLetters", "(I)V"⟩, 3) := ⟨⟨by decide +kernel, by decide +kernel⟩, List.mem_of_getElem? (i := 236) (by decide +kernel), List.mem_of_getElem? (i := 762) (by decide +kernel), List.mem_of_getElem? (i := 763) (by decide +kernel)⟩
theorem lw_p23 : lw_okq (⟨"QuireDesk$Strip", "addItems", "(LQuireDesk$Folding;I)V"⟩, 3) := ⟨⟨by decide +kernel, by decide +kernel⟩, List.mem_of_getElem? (i := 236) (by decide +kernel), List.mem_of_getElem? (i := 768) (by decide +kernel), List.mem_of_getElem? (i := 769) (by decide +kernel)⟩
theorem lw_p24 : lw_okq (⟨"QuireDesk$Strip", "addLoose", "(LQuireDesk$Folding;II)V"⟩, 3) := ⟨⟨by decide +kernel, by decide +kernel⟩, List.mem_of_getElem? (i := 236) (by decide +kernel), List.mem_of_getElem? (i := 772) (by decide +kernel), List.mem_of_getElem? (i := 773) (by decide +kernel)⟩
theorem lw_p25 : lw_okq (⟨"QuireDesk$Strip", "addItem", "(CI)V"⟩, 3) := ⟨⟨by decide +kernel, by decide +kernel⟩, List.mem_of_getElem? (i := 236) (by decide +kernel), List.mem_of_getElem? (i := 776) (by decide +kernel), List.mem_of_getElem? (i := 777) (by decide +kernel)⟩
theorem lw_p26 : lw_okq (⟨"QuireDesk$Reader", "readQuire", "(LQuireDesk$Folding;)Z"⟩, 13) := ⟨⟨by decide +kernel, by decide +kernel⟩, List.mem_of_getElem? (i := 254) (by decide +kernel), List.mem_of_getElem? (i := 829) (by decide +kernel), List.mem_of_getElem? (i := 830) (by decide +kernel)⟩
theorem lw_p27 : lw_okq (⟨"QuireDesk$Reader", "readLetters", "()I"⟩, 13) := ⟨⟨by decide +kernel, by decide +kernel⟩, List.mem_of_getElem? (i := 254) (by decide +kernel), List.mem_of_getElem? (i := 833) (by decide +kernel), List.mem_of_getElem? (i := 834) (by decide +kernel)⟩
theorem lw_p28 : lw_okq (⟨"QuireDesk$Reader", "sign", "()I"⟩, 13) := ⟨⟨by decide +kernel, by decide +kernel⟩, List.mem_of_getElem? (i := 254) (by decide +kernel), List.mem_of_getElem? (i := 837) (by decide +kernel), List.mem_of_getElem? (i := 838) (by decide +kernel)⟩
theorem lw_p29 : lw_okq (⟨"QuireDesk$Reader", "fail", "(II)Z"⟩, 13) := ⟨⟨by decide +kernel, by decide +kernel⟩, List.mem_of_getElem? (i := 254) (by decide +kernel), List.mem_of_getElem? (i := 843) (by decide +kernel), List.mem_of_getElem? (i := 844) (by decide +kernel)⟩
theorem lw_p30 : lw_okq (⟨"QuireDesk$Reader", "readLast", "(II)I"⟩, 13) := ⟨⟨by decide +kernel, by decide +kernel⟩, List.mem_of_getElem? (i := 254) (by decide +kernel), List.mem_of_getElem? (i := 847) (by decide +kernel), List.mem_of_getElem? (i := 848) (by decide +kernel)⟩
theorem lw_p31 : lw_okq (⟨"QuireDesk$Reader", "readSize", "()Z"⟩, 13) := ⟨⟨by decide +kernel, by decide +kernel⟩, List.mem_of_getElem? (i := 254) (by decide +kernel), List.mem_of_getElem? (i := 851) (by decide +kernel), List.mem_of_getElem? (i := 852) (by decide +kernel)⟩
def lw_privs_2 : List (MethodName × Nat) := [(⟨"QuireDesk$Folding", "addLoose", "([III)I"⟩, 13), (⟨"QuireDesk$Folding", "addCell", "(I)V"⟩, 13), (⟨"QuireDesk$Reckoner", "opensUpTo", "(I)Z"⟩, 13), (⟨"QuireDesk$Reckoner", "wasReached", "(I)Z"⟩, 13), (⟨"QuireDesk$Reckoner", "wasIn", "(IIIZ)Z"⟩, 13), (⟨"QuireDesk$Strip", "add", "(I)V"⟩, 3), (⟨"QuireDesk$Strip", "addLetters", "(I)V"⟩, 3), (⟨"QuireDesk$Strip", "addItems", "(LQuireDesk$Folding;I)V"⟩, 3), (⟨"QuireDesk$Strip", "addLoose", "(LQuireDesk$Folding;II)V"⟩, 3), (⟨"QuireDesk$Strip", "addItem", "(CI)V"⟩, 3), (⟨"QuireDesk$Reader", "readQuire", "(LQuireDesk$Folding;)Z"⟩, 13), (⟨"QuireDesk$Reader", "readLetters", "()I"⟩, 13), (⟨"QuireDesk$Reader", "sign", "()I"⟩, 13), (⟨"QuireDesk$Reader", "fail", "(II)Z"⟩, 13), (⟨"QuireDesk$Reader", "readLast", "(II)I"⟩, 13), (⟨"QuireDesk$Reader", "readSize", "()Z"⟩, 13)]
theorem lw_r2 : ∀ q ∈ lw_privs_2, lw_okq q := List.forall_mem_cons.mpr ⟨lw_p16, List.forall_mem_cons.mpr ⟨lw_p17, List.forall_mem_cons.mpr ⟨lw_p18, List.forall_mem_cons.mpr ⟨lw_p19, List.forall_mem_cons.mpr ⟨lw_p20, List.forall_mem_cons.mpr ⟨lw_p21, List.forall_mem_cons.mpr ⟨lw_p22, List.forall_mem_cons.mpr ⟨lw_p23, List.forall_mem_cons.mpr ⟨lw_p24, List.forall_mem_cons.mpr ⟨lw_p25, List.forall_mem_cons.mpr ⟨lw_p26, List.forall_mem_cons.mpr ⟨lw_p27, List.forall_mem_cons.mpr ⟨lw_p28, List.forall_mem_cons.mpr ⟨lw_p29, List.forall_mem_cons.mpr ⟨lw_p30, List.forall_mem_cons.mpr ⟨lw_p31, fun _ h => absurd h List.not_mem_nil⟩⟩⟩⟩⟩⟩⟩⟩⟩⟩⟩⟩⟩⟩⟩⟩
theorem lw_p32 : lw_okq (⟨"QuireDesk$Reader", "readBracket", "(ZZ)Z"⟩, 13) := ⟨⟨by decide +kernel, by decide +kernel⟩, List.mem_of_getElem? (i := 254) (by decide +kernel), List.mem_of_getElem? (i := 855) (by decide +kernel), List.mem_of_getElem? (i := 856) (by decide +kernel)⟩
theorem lw_p33 : lw_okq (⟨"QuireDesk$Reader", "readItem", "(Z)Z"⟩, 13) := ⟨⟨by decide +kernel, by decide +kernel⟩, List.mem_of_getElem? (i := 254) (by decide +kernel), List.mem_of_getElem? (i := 859) (by decide +kernel), List.mem_of_getElem? (i := 860) (by decide +kernel)⟩
theorem lw_p34 : lw_okq (⟨"QuireDesk$Reader", "canFollow", "(II)Z"⟩, 13) := ⟨⟨by decide +kernel, by decide +kernel⟩, List.mem_of_getElem? (i := 254) (by decide +kernel), List.mem_of_getElem? (i := 863) (by decide +kernel), List.mem_of_getElem? (i := 864) (by decide +kernel)⟩
theorem lw_p35 : lw_okq (⟨"QuireDesk$Reader", "keepItem", "(II)V"⟩, 13) := ⟨⟨by decide +kernel, by decide +kernel⟩, List.mem_of_getElem? (i := 254) (by decide +kernel), List.mem_of_getElem? (i := 867) (by decide +kernel), List.mem_of_getElem? (i := 868) (by decide +kernel)⟩
theorem lw_p36 : lw_okq (⟨"QuireDesk$Reader", "keepLoose", "(II)V"⟩, 13) := ⟨⟨by decide +kernel, by decide +kernel⟩, List.mem_of_getElem? (i := 254) (by decide +kernel), List.mem_of_getElem? (i := 871) (by decide +kernel), List.mem_of_getElem? (i := 872) (by decide +kernel)⟩
theorem lw_p37 : lw_okq (⟨"QuireDesk$Reader", "addQuire", "(LQuireDesk$Folding;)V"⟩, 13) := ⟨⟨by decide +kernel, by decide +kernel⟩, List.mem_of_getElem? (i := 254) (by decide +kernel), List.mem_of_getElem? (i := 875) (by decide +kernel), List.mem_of_getElem? (i := 876) (by decide +kernel)⟩
theorem lw_p38 : lw_okq (⟨"QuireDesk$Reader", "addLooseOf", "(LQuireDesk$Folding;I)V"⟩, 13) := ⟨⟨by decide +kernel, by decide +kernel⟩, List.mem_of_getElem? (i := 254) (by decide +kernel), List.mem_of_getElem? (i := 879) (by decide +kernel), List.mem_of_getElem? (i := 880) (by decide +kernel)⟩
theorem lw_p39 : lw_okq (⟨"QuireDesk", "keptAs", "(I)LQuireDesk$Folding;"⟩, 8) := ⟨⟨by decide +kernel, by decide +kernel⟩, List.mem_of_getElem? (i := 14) (by decide +kernel), List.mem_of_getElem? (i := 904) (by decide +kernel), List.mem_of_getElem? (i := 905) (by decide +kernel)⟩
theorem lw_p40 : lw_okq (⟨"QuireDesk$Folding", "joinPlace", "(LQuireDesk$Folding;LQuireDesk$Folding;II)V"⟩, 13) := ⟨⟨by decide +kernel, by decide +kernel⟩, List.mem_of_getElem? (i := 174) (by decide +kernel), List.mem_of_getElem? (i := 931) (by decide +kernel), List.mem_of_getElem? (i := 932) (by decide +kernel)⟩
theorem lw_p41 : lw_okq (⟨"QuireDeskModel", "isRow", "(I)Z"⟩, 49) := ⟨⟨by decide +kernel, by decide +kernel⟩, List.mem_of_getElem? (i := 937) (by decide +kernel), List.mem_of_getElem? (i := 1096) (by decide +kernel), List.mem_of_getElem? (i := 1097) (by decide +kernel)⟩
theorem lw_p42 : lw_okq (⟨"QuireDeskModel", "move", "(II)V"⟩, 49) := ⟨⟨by decide +kernel, by decide +kernel⟩, List.mem_of_getElem? (i := 937) (by decide +kernel), List.mem_of_getElem? (i := 1100) (by decide +kernel), List.mem_of_getElem? (i := 1101) (by decide +kernel)⟩
theorem lw_p43 : lw_okq (⟨"QuireDeskModel", "isThing", "(II)Z"⟩, 49) := ⟨⟨by decide +kernel, by decide +kernel⟩, List.mem_of_getElem? (i := 937) (by decide +kernel), List.mem_of_getElem? (i := 1108) (by decide +kernel), List.mem_of_getElem? (i := 1109) (by decide +kernel)⟩
theorem lw_p44 : lw_okq (⟨"QuireDeskModel", "most", "(I)I"⟩, 49) := ⟨⟨by decide +kernel, by decide +kernel⟩, List.mem_of_getElem? (i := 937) (by decide +kernel), List.mem_of_getElem? (i := 1116) (by decide +kernel), List.mem_of_getElem? (i := 1117) (by decide +kernel)⟩
theorem lw_p45 : lw_okq (⟨"QuireDeskModel", "isHanging", "(I)Z"⟩, 49) := ⟨⟨by decide +kernel, by decide +kernel⟩, List.mem_of_getElem? (i := 937) (by decide +kernel), List.mem_of_getElem? (i := 1132) (by decide +kernel), List.mem_of_getElem? (i := 1133) (by decide +kernel)⟩
theorem lw_p46 : lw_okq (⟨"QuireDeskModel", "goThrough", "(I)V"⟩, 49) := ⟨⟨by decide +kernel, by decide +kernel⟩, List.mem_of_getElem? (i := 937) (by decide +kernel), List.mem_of_getElem? (i := 1145) (by decide +kernel), List.mem_of_getElem? (i := 1146) (by decide +kernel)⟩
theorem lw_p47 : lw_okq (⟨"QuireDeskModel", "asks", "(I)V"⟩, 49) := ⟨⟨by decide +kernel, by decide +kernel⟩, List.mem_of_getElem? (i := 937) (by decide +kernel), List.mem_of_getElem? (i := 1149) (by decide +kernel), List.mem_of_getElem? (i := 1150) (by decide +kernel)⟩
def lw_privs_3 : List (MethodName × Nat) := [(⟨"QuireDesk$Reader", "readBracket", "(ZZ)Z"⟩, 13), (⟨"QuireDesk$Reader", "readItem", "(Z)Z"⟩, 13), (⟨"QuireDesk$Reader", "canFollow", "(II)Z"⟩, 13), (⟨"QuireDesk$Reader", "keepItem", "(II)V"⟩, 13), (⟨"QuireDesk$Reader", "keepLoose", "(II)V"⟩, 13), (⟨"QuireDesk$Reader", "addQuire", "(LQuireDesk$Folding;)V"⟩, 13), (⟨"QuireDesk$Reader", "addLooseOf", "(LQuireDesk$Folding;I)V"⟩, 13), (⟨"QuireDesk", "keptAs", "(I)LQuireDesk$Folding;"⟩, 8), (⟨"QuireDesk$Folding", "joinPlace", "(LQuireDesk$Folding;LQuireDesk$Folding;II)V"⟩, 13), (⟨"QuireDeskModel", "isRow", "(I)Z"⟩, 49), (⟨"QuireDeskModel", "move", "(II)V"⟩, 49), (⟨"QuireDeskModel", "isThing", "(II)Z"⟩, 49), (⟨"QuireDeskModel", "most", "(I)I"⟩, 49), (⟨"QuireDeskModel", "isHanging", "(I)Z"⟩, 49), (⟨"QuireDeskModel", "goThrough", "(I)V"⟩, 49), (⟨"QuireDeskModel", "asks", "(I)V"⟩, 49)]
theorem lw_r3 : ∀ q ∈ lw_privs_3, lw_okq q := List.forall_mem_cons.mpr ⟨lw_p32, List.forall_mem_cons.mpr ⟨lw_p33, List.forall_mem_cons.mpr ⟨lw_p34, List.forall_mem_cons.mpr ⟨lw_p35, List.forall_mem_cons.mpr ⟨lw_p36, List.forall_mem_cons.mpr ⟨lw_p37, List.forall_mem_cons.mpr ⟨lw_p38, List.forall_mem_cons.mpr ⟨lw_p39, List.forall_mem_cons.mpr ⟨lw_p40, List.forall_mem_cons.mpr ⟨lw_p41, List.forall_mem_cons.mpr ⟨lw_p42, List.forall_mem_cons.mpr ⟨lw_p43, List.forall_mem_cons.mpr ⟨lw_p44, List.forall_mem_cons.mpr ⟨lw_p45, List.forall_mem_cons.mpr ⟨lw_p46, List.forall_mem_cons.mpr ⟨lw_p47, fun _ h => absurd h List.not_mem_nil⟩⟩⟩⟩⟩⟩⟩⟩⟩⟩⟩⟩⟩⟩⟩⟩
theorem lw_p48 : lw_okq (⟨"QuireDeskModel", "state", "(IIII)I"⟩, 49) := ⟨⟨by decide +kernel, by decide +kernel⟩, List.mem_of_getElem? (i := 937) (by decide +kernel), List.mem_of_getElem? (i := 1153) (by decide +kernel), List.mem_of_getElem? (i := 1154) (by decide +kernel)⟩
theorem lw_p49 : lw_okq (⟨"QuireDeskModel", "spreads", "(IIII)V"⟩, 49) := ⟨⟨by decide +kernel, by decide +kernel⟩, List.mem_of_getElem? (i := 937) (by decide +kernel), List.mem_of_getElem? (i := 1157) (by decide +kernel), List.mem_of_getElem? (i := 1158) (by decide +kernel)⟩
theorem lw_p50 : lw_okq (⟨"QuireDeskModel", "has", "(I)Z"⟩, 49) := ⟨⟨by decide +kernel, by decide +kernel⟩, List.mem_of_getElem? (i := 937) (by decide +kernel), List.mem_of_getElem? (i := 1161) (by decide +kernel), List.mem_of_getElem? (i := 1162) (by decide +kernel)⟩
theorem lw_p51 : lw_okq (⟨"QuireDeskModel", "isQuire", "(IIIIII)Z"⟩, 49) := ⟨⟨by decide +kernel, by decide +kernel⟩, List.mem_of_getElem? (i := 937) (by decide +kernel), List.mem_of_getElem? (i := 1165) (by decide +kernel), List.mem_of_getElem? (i := 1166) (by decide +kernel)⟩
theorem lw_p52 : lw_okq (⟨"QuireDeskModel", "ones", "(I)I"⟩, 49) := ⟨⟨by decide +kernel, by decide +kernel⟩, List.mem_of_getElem? (i := 937) (by decide +kernel), List.mem_of_getElem? (i := 1169) (by decide +kernel), List.mem_of_getElem? (i := 1170) (by decide +kernel)⟩
theorem lw_p53 : lw_okq (⟨"QuireDeskModel", "agrees", "(IIIZIIIIZ)Z"⟩, 49) := ⟨⟨by decide +kernel, by decide +kernel⟩, List.mem_of_getElem? (i := 937) (by decide +kernel), List.mem_of_getElem? (i := 1173) (by decide +kernel), List.mem_of_getElem? (i := 1174) (by decide +kernel)⟩
theorem lw_p54 : lw_okq (⟨"QuireDeskModel", "fits", "(IIIIZ)Z"⟩, 49) := ⟨⟨by decide +kernel, by decide +kernel⟩, List.mem_of_getElem? (i := 937) (by decide +kernel), List.mem_of_getElem? (i := 1177) (by decide +kernel), List.mem_of_getElem? (i := 1178) (by decide +kernel)⟩
theorem lw_p55 : lw_okq (⟨"QuireDeskModel", "known", "(II)I"⟩, 49) := ⟨⟨by decide +kernel, by decide +kernel⟩, List.mem_of_getElem? (i := 937) (by decide +kernel), List.mem_of_getElem? (i := 1181) (by decide +kernel), List.mem_of_getElem? (i := 1182) (by decide +kernel)⟩
theorem lw_p56 : lw_okq (⟨"QuireDeskModel", "goesOn", "(IZ)Z"⟩, 49) := ⟨⟨by decide +kernel, by decide +kernel⟩, List.mem_of_getElem? (i := 937) (by decide +kernel), List.mem_of_getElem? (i := 1185) (by decide +kernel), List.mem_of_getElem? (i := 1186) (by decide +kernel)⟩
theorem lw_p57 : lw_okq (⟨"QuireDeskModel", "hangTogether", "(II)Z"⟩, 49) := ⟨⟨by decide +kernel, by decide +kernel⟩, List.mem_of_getElem? (i := 937) (by decide +kernel), List.mem_of_getElem? (i := 1189) (by decide +kernel), List.mem_of_getElem? (i := 1190) (by decide +kernel)⟩
theorem lw_p58 : lw_okq (⟨"QuireDeskModel", "behind", "(IIIII)I"⟩, 49) := ⟨⟨by decide +kernel, by decide +kernel⟩, List.mem_of_getElem? (i := 937) (by decide +kernel), List.mem_of_getElem? (i := 1193) (by decide +kernel), List.mem_of_getElem? (i := 1194) (by decide +kernel)⟩
theorem lw_p59 : lw_okq (⟨"QuireDeskModel", "counts", "(IIII)V"⟩, 49) := ⟨⟨by decide +kernel, by decide +kernel⟩, List.mem_of_getElem? (i := 937) (by decide +kernel), List.mem_of_getElem? (i := 1197) (by decide +kernel), List.mem_of_getElem? (i := 1198) (by decide +kernel)⟩
theorem lw_p60 : lw_okq (⟨"QuireDeskModel", "lays", "(IJZ)V"⟩, 49) := ⟨⟨by decide +kernel, by decide +kernel⟩, List.mem_of_getElem? (i := 937) (by decide +kernel), List.mem_of_getElem? (i := 1205) (by decide +kernel), List.mem_of_getElem? (i := 1206) (by decide +kernel)⟩
theorem lw_p61 : lw_okq (⟨"QuireDeskModel", "at", "(III)I"⟩, 49) := ⟨⟨by decide +kernel, by decide +kernel⟩, List.mem_of_getElem? (i := 937) (by decide +kernel), List.mem_of_getElem? (i := 1209) (by decide +kernel), List.mem_of_getElem? (i := 1210) (by decide +kernel)⟩
theorem lw_p62 : lw_okq (⟨"QuireDeskModel", "take", "(I)V"⟩, 49) := ⟨⟨by decide +kernel, by decide +kernel⟩, List.mem_of_getElem? (i := 937) (by decide +kernel), List.mem_of_getElem? (i := 1213) (by decide +kernel), List.mem_of_getElem? (i := 1214) (by decide +kernel)⟩
theorem lw_p63 : lw_okq (⟨"QuireDeskModel", "begins", "(IZ)Z"⟩, 49) := ⟨⟨by decide +kernel, by decide +kernel⟩, List.mem_of_getElem? (i := 937) (by decide +kernel), List.mem_of_getElem? (i := 1225) (by decide +kernel), List.mem_of_getElem? (i := 1226) (by decide +kernel)⟩
def lw_privs_4 : List (MethodName × Nat) := [(⟨"QuireDeskModel", "state", "(IIII)I"⟩, 49), (⟨"QuireDeskModel", "spreads", "(IIII)V"⟩, 49), (⟨"QuireDeskModel", "has", "(I)Z"⟩, 49), (⟨"QuireDeskModel", "isQuire", "(IIIIII)Z"⟩, 49), (⟨"QuireDeskModel", "ones", "(I)I"⟩, 49), (⟨"QuireDeskModel", "agrees", "(IIIZIIIIZ)Z"⟩, 49), (⟨"QuireDeskModel", "fits", "(IIIIZ)Z"⟩, 49), (⟨"QuireDeskModel", "known", "(II)I"⟩, 49), (⟨"QuireDeskModel", "goesOn", "(IZ)Z"⟩, 49), (⟨"QuireDeskModel", "hangTogether", "(II)Z"⟩, 49), (⟨"QuireDeskModel", "behind", "(IIIII)I"⟩, 49), (⟨"QuireDeskModel", "counts", "(IIII)V"⟩, 49), (⟨"QuireDeskModel", "lays", "(IJZ)V"⟩, 49), (⟨"QuireDeskModel", "at", "(III)I"⟩, 49), (⟨"QuireDeskModel", "take", "(I)V"⟩, 49), (⟨"QuireDeskModel", "begins", "(IZ)Z"⟩, 49)]
theorem lw_r4 : ∀ q ∈ lw_privs_4, lw_okq q := List.forall_mem_cons.mpr ⟨lw_p48, List.forall_mem_cons.mpr ⟨lw_p49, List.forall_mem_cons.mpr ⟨lw_p50, List.forall_mem_cons.mpr ⟨lw_p51, List.forall_mem_cons.mpr ⟨lw_p52, List.forall_mem_cons.mpr ⟨lw_p53, List.forall_mem_cons.mpr ⟨lw_p54, List.forall_mem_cons.mpr ⟨lw_p55, List.forall_mem_cons.mpr ⟨lw_p56, List.forall_mem_cons.mpr ⟨lw_p57, List.forall_mem_cons.mpr ⟨lw_p58, List.forall_mem_cons.mpr ⟨lw_p59, List.forall_mem_cons.mpr ⟨lw_p60, List.forall_mem_cons.mpr ⟨lw_p61, List.forall_mem_cons.mpr ⟨lw_p62, List.forall_mem_cons.mpr ⟨lw_p63, fun _ h => absurd h List.not_mem_nil⟩⟩⟩⟩⟩⟩⟩⟩⟩⟩⟩⟩⟩⟩⟩⟩
theorem lw_p64 : lw_okq (⟨"QuireDeskModel", "beginsFrom", "(IIIIIZ)Z"⟩, 49) := ⟨⟨by decide +kernel, by decide +kernel⟩, List.mem_of_getElem? (i := 937) (by decide +kernel), List.mem_of_getElem? (i := 1229) (by decide +kernel), List.mem_of_getElem? (i := 1230) (by decide +kernel)⟩
theorem lw_p65 : lw_okq (⟨"QuireDeskModel", "ghosts", "(I)I"⟩, 49) := ⟨⟨by decide +kernel, by decide +kernel⟩, List.mem_of_getElem? (i := 937) (by decide +kernel), List.mem_of_getElem? (i := 1237) (by decide +kernel), List.mem_of_getElem? (i := 1238) (by decide +kernel)⟩
theorem lw_p66 : lw_okq (⟨"QuireDeskModel", "placesAhead", "(III)I"⟩, 49) := ⟨⟨by decide +kernel, by decide +kernel⟩, List.mem_of_getElem? (i := 937) (by decide +kernel), List.mem_of_getElem? (i := 1241) (by decide +kernel), List.mem_of_getElem? (i := 1242) (by decide +kernel)⟩
theorem lw_p67 : lw_okq (⟨"QuireDeskModel", "isQuire", "(II)Z"⟩, 49) := ⟨⟨by decide +kernel, by decide +kernel⟩, List.mem_of_getElem? (i := 937) (by decide +kernel), List.mem_of_getElem? (i := 1249) (by decide +kernel), List.mem_of_getElem? (i := 1250) (by decide +kernel)⟩
theorem lw_p68 : lw_okq (⟨"QuireDeskModel", "isPlace", "(III)Z"⟩, 49) := ⟨⟨by decide +kernel, by decide +kernel⟩, List.mem_of_getElem? (i := 937) (by decide +kernel), List.mem_of_getElem? (i := 1257) (by decide +kernel), List.mem_of_getElem? (i := 1258) (by decide +kernel)⟩
theorem lw_p69 : lw_okq (⟨"QuireDeskModel", "say", "(I)V"⟩, 49) := ⟨⟨by decide +kernel, by decide +kernel⟩, List.mem_of_getElem? (i := 937) (by decide +kernel), List.mem_of_getElem? (i := 1273) (by decide +kernel), List.mem_of_getElem? (i := 1274) (by decide +kernel)⟩
theorem lw_p70 : lw_okq (⟨"QuireDeskModel", "isPlain", "(I)Z"⟩, 49) := ⟨⟨by decide +kernel, by decide +kernel⟩, List.mem_of_getElem? (i := 937) (by decide +kernel), List.mem_of_getElem? (i := 1277) (by decide +kernel), List.mem_of_getElem? (i := 1278) (by decide +kernel)⟩
theorem lw_p71 : lw_okq (⟨"QuireDeskModel", "sayLetters", "(I)V"⟩, 49) := ⟨⟨by decide +kernel, by decide +kernel⟩, List.mem_of_getElem? (i := 937) (by decide +kernel), List.mem_of_getElem? (i := 1281) (by decide +kernel), List.mem_of_getElem? (i := 1282) (by decide +kernel)⟩
theorem lw_p72 : lw_okq (⟨"QuireDeskModel", "sign", "(I)I"⟩, 49) := ⟨⟨by decide +kernel, by decide +kernel⟩, List.mem_of_getElem? (i := 937) (by decide +kernel), List.mem_of_getElem? (i := 1285) (by decide +kernel), List.mem_of_getElem? (i := 1286) (by decide +kernel)⟩
theorem lw_p73 : lw_okq (⟨"QuireDeskModel", "items", "(I)V"⟩, 49) := ⟨⟨by decide +kernel, by decide +kernel⟩, List.mem_of_getElem? (i := 937) (by decide +kernel), List.mem_of_getElem? (i := 1289) (by decide +kernel), List.mem_of_getElem? (i := 1290) (by decide +kernel)⟩
theorem lw_p74 : lw_okq (⟨"QuireDeskModel", "extras", "(II)V"⟩, 49) := ⟨⟨by decide +kernel, by decide +kernel⟩, List.mem_of_getElem? (i := 937) (by decide +kernel), List.mem_of_getElem? (i := 1293) (by decide +kernel), List.mem_of_getElem? (i := 1294) (by decide +kernel)⟩
theorem lw_p75 : lw_okq (⟨"QuireDeskModel", "isCancelled", "(II)Z"⟩, 49) := ⟨⟨by decide +kernel, by decide +kernel⟩, List.mem_of_getElem? (i := 937) (by decide +kernel), List.mem_of_getElem? (i := 1297) (by decide +kernel), List.mem_of_getElem? (i := 1298) (by decide +kernel)⟩
theorem lw_p76 : lw_okq (⟨"QuireDeskModel", "item", "(II)V"⟩, 49) := ⟨⟨by decide +kernel, by decide +kernel⟩, List.mem_of_getElem? (i := 937) (by decide +kernel), List.mem_of_getElem? (i := 1301) (by decide +kernel), List.mem_of_getElem? (i := 1302) (by decide +kernel)⟩
theorem lw_p77 : lw_okq (⟨"QuireDeskModel", "puts", "(I)V"⟩, 49) := ⟨⟨by decide +kernel, by decide +kernel⟩, List.mem_of_getElem? (i := 937) (by decide +kernel), List.mem_of_getElem? (i := 1313) (by decide +kernel), List.mem_of_getElem? (i := 1314) (by decide +kernel)⟩
theorem lw_p78 : lw_okq (⟨"QuireDeskModel", "reading", "()I"⟩, 49) := ⟨⟨by decide +kernel, by decide +kernel⟩, List.mem_of_getElem? (i := 937) (by decide +kernel), List.mem_of_getElem? (i := 1329) (by decide +kernel), List.mem_of_getElem? (i := 1330) (by decide +kernel)⟩
theorem lw_p79 : lw_okq (⟨"QuireDeskModel", "readLetters", "()I"⟩, 49) := ⟨⟨by decide +kernel, by decide +kernel⟩, List.mem_of_getElem? (i := 937) (by decide +kernel), List.mem_of_getElem? (i := 1333) (by decide +kernel), List.mem_of_getElem? (i := 1334) (by decide +kernel)⟩
def lw_privs_5 : List (MethodName × Nat) := [(⟨"QuireDeskModel", "beginsFrom", "(IIIIIZ)Z"⟩, 49), (⟨"QuireDeskModel", "ghosts", "(I)I"⟩, 49), (⟨"QuireDeskModel", "placesAhead", "(III)I"⟩, 49), (⟨"QuireDeskModel", "isQuire", "(II)Z"⟩, 49), (⟨"QuireDeskModel", "isPlace", "(III)Z"⟩, 49), (⟨"QuireDeskModel", "say", "(I)V"⟩, 49), (⟨"QuireDeskModel", "isPlain", "(I)Z"⟩, 49), (⟨"QuireDeskModel", "sayLetters", "(I)V"⟩, 49), (⟨"QuireDeskModel", "sign", "(I)I"⟩, 49), (⟨"QuireDeskModel", "items", "(I)V"⟩, 49), (⟨"QuireDeskModel", "extras", "(II)V"⟩, 49), (⟨"QuireDeskModel", "isCancelled", "(II)Z"⟩, 49), (⟨"QuireDeskModel", "item", "(II)V"⟩, 49), (⟨"QuireDeskModel", "puts", "(I)V"⟩, 49), (⟨"QuireDeskModel", "reading", "()I"⟩, 49), (⟨"QuireDeskModel", "readLetters", "()I"⟩, 49)]
theorem lw_r5 : ∀ q ∈ lw_privs_5, lw_okq q := List.forall_mem_cons.mpr ⟨lw_p64, List.forall_mem_cons.mpr ⟨lw_p65, List.forall_mem_cons.mpr ⟨lw_p66, List.forall_mem_cons.mpr ⟨lw_p67, List.forall_mem_cons.mpr ⟨lw_p68, List.forall_mem_cons.mpr ⟨lw_p69, List.forall_mem_cons.mpr ⟨lw_p70, List.forall_mem_cons.mpr ⟨lw_p71, List.forall_mem_cons.mpr ⟨lw_p72, List.forall_mem_cons.mpr ⟨lw_p73, List.forall_mem_cons.mpr ⟨lw_p74, List.forall_mem_cons.mpr ⟨lw_p75, List.forall_mem_cons.mpr ⟨lw_p76, List.forall_mem_cons.mpr ⟨lw_p77, List.forall_mem_cons.mpr ⟨lw_p78, List.forall_mem_cons.mpr ⟨lw_p79, fun _ h => absurd h List.not_mem_nil⟩⟩⟩⟩⟩⟩⟩⟩⟩⟩⟩⟩⟩⟩⟩⟩
theorem lw_p80 : lw_okq (⟨"QuireDeskModel", "raw", "()I"⟩, 49) := ⟨⟨by decide +kernel, by decide +kernel⟩, List.mem_of_getElem? (i := 937) (by decide +kernel), List.mem_of_getElem? (i := 1337) (by decide +kernel), List.mem_of_getElem? (i := 1338) (by decide +kernel)⟩
theorem lw_p81 : lw_okq (⟨"QuireDeskModel", "numberOf", "(I)I"⟩, 49) := ⟨⟨by decide +kernel, by decide +kernel⟩, List.mem_of_getElem? (i := 937) (by decide +kernel), List.mem_of_getElem? (i := 1341) (by decide +kernel), List.mem_of_getElem? (i := 1342) (by decide +kernel)⟩
theorem lw_p82 : lw_okq (⟨"QuireDeskModel", "fails", "(II)I"⟩, 49) := ⟨⟨by decide +kernel, by decide +kernel⟩, List.mem_of_getElem? (i := 937) (by decide +kernel), List.mem_of_getElem? (i := 1345) (by decide +kernel), List.mem_of_getElem? (i := 1346) (by decide +kernel)⟩
theorem lw_p83 : lw_okq (⟨"QuireDeskModel", "readItems", "(I)I"⟩, 49) := ⟨⟨by decide +kernel, by decide +kernel⟩, List.mem_of_getElem? (i := 937) (by decide +kernel), List.mem_of_getElem? (i := 1349) (by decide +kernel), List.mem_of_getElem? (i := 1350) (by decide +kernel)⟩
theorem lw_p84 : lw_okq (⟨"QuireDeskModel", "laid", "(I)V"⟩, 49) := ⟨⟨by decide +kernel, by decide +kernel⟩, List.mem_of_getElem? (i := 937) (by decide +kernel), List.mem_of_getElem? (i := 1353) (by decide +kernel), List.mem_of_getElem? (i := 1354) (by decide +kernel)⟩
theorem lw_p85 : lw_okq (⟨"QuireDeskModel", "adds", "(I)V"⟩, 49) := ⟨⟨by decide +kernel, by decide +kernel⟩, List.mem_of_getElem? (i := 937) (by decide +kernel), List.mem_of_getElem? (i := 1357) (by decide +kernel), List.mem_of_getElem? (i := 1358) (by decide +kernel)⟩
theorem lw_p86 : lw_okq (⟨"QuireDeskModel", "isBlank", "(I)Z"⟩, 49) := ⟨⟨by decide +kernel, by decide +kernel⟩, List.mem_of_getElem? (i := 937) (by decide +kernel), List.mem_of_getElem? (i := 1361) (by decide +kernel), List.mem_of_getElem? (i := 1362) (by decide +kernel)⟩
theorem lw_p87 : lw_okq (⟨"QuireDeskModel", "blanks", "()V"⟩, 49) := ⟨⟨by decide +kernel, by decide +kernel⟩, List.mem_of_getElem? (i := 937) (by decide +kernel), List.mem_of_getElem? (i := 1365) (by decide +kernel), List.mem_of_getElem? (i := 1366) (by decide +kernel)⟩
theorem lw_p88 : lw_okq (⟨"QuireDeskModel", "isCopy", "(I)Z"⟩, 49) := ⟨⟨by decide +kernel, by decide +kernel⟩, List.mem_of_getElem? (i := 937) (by decide +kernel), List.mem_of_getElem? (i := 1377) (by decide +kernel), List.mem_of_getElem? (i := 1378) (by decide +kernel)⟩
theorem lw_p89 : lw_okq (⟨"QuireDeskModel", "keep", "(II)V"⟩, 49) := ⟨⟨by decide +kernel, by decide +kernel⟩, List.mem_of_getElem? (i := 937) (by decide +kernel), List.mem_of_getElem? (i := 1381) (by decide +kernel), List.mem_of_getElem? (i := 1382) (by decide +kernel)⟩
theorem lw_p90 : lw_okq (⟨"QuireDeskModel", "areKept", "(II)Z"⟩, 49) := ⟨⟨by decide +kernel, by decide +kernel⟩, List.mem_of_getElem? (i := 937) (by decide +kernel), List.mem_of_getElem? (i := 1389) (by decide +kernel), List.mem_of_getElem? (i := 1390) (by decide +kernel)⟩
theorem lw_p91 : lw_okq (⟨"QuireDeskModel", "differences", "(III)I"⟩, 49) := ⟨⟨by decide +kernel, by decide +kernel⟩, List.mem_of_getElem? (i := 937) (by decide +kernel), List.mem_of_getElem? (i := 1393) (by decide +kernel), List.mem_of_getElem? (i := 1394) (by decide +kernel)⟩
theorem lw_p92 : lw_okq (⟨"QuireDeskModel", "code", "(III)I"⟩, 49) := ⟨⟨by decide +kernel, by decide +kernel⟩, List.mem_of_getElem? (i := 937) (by decide +kernel), List.mem_of_getElem? (i := 1397) (by decide +kernel), List.mem_of_getElem? (i := 1398) (by decide +kernel)⟩
theorem lw_p93 : lw_okq (⟨"QuireDeskModel", "makesExtras", "(II)V"⟩, 49) := ⟨⟨by decide +kernel, by decide +kernel⟩, List.mem_of_getElem? (i := 937) (by decide +kernel), List.mem_of_getElem? (i := 1409) (by decide +kernel), List.mem_of_getElem? (i := 1410) (by decide +kernel)⟩
theorem lw_p94 : lw_okq (⟨"QuireDeskModel", "makes", "(I)V"⟩, 49) := ⟨⟨by decide +kernel, by decide +kernel⟩, List.mem_of_getElem? (i := 937) (by decide +kernel), List.mem_of_getElem? (i := 1413) (by decide +kernel), List.mem_of_getElem? (i := 1414) (by decide +kernel)⟩
def lw_privs_6 : List (MethodName × Nat) := [(⟨"QuireDeskModel", "raw", "()I"⟩, 49), (⟨"QuireDeskModel", "numberOf", "(I)I"⟩, 49), (⟨"QuireDeskModel", "fails", "(II)I"⟩, 49), (⟨"QuireDeskModel", "readItems", "(I)I"⟩, 49), (⟨"QuireDeskModel", "laid", "(I)V"⟩, 49), (⟨"QuireDeskModel", "adds", "(I)V"⟩, 49), (⟨"QuireDeskModel", "isBlank", "(I)Z"⟩, 49), (⟨"QuireDeskModel", "blanks", "()V"⟩, 49), (⟨"QuireDeskModel", "isCopy", "(I)Z"⟩, 49), (⟨"QuireDeskModel", "keep", "(II)V"⟩, 49), (⟨"QuireDeskModel", "areKept", "(II)Z"⟩, 49), (⟨"QuireDeskModel", "differences", "(III)I"⟩, 49), (⟨"QuireDeskModel", "code", "(III)I"⟩, 49), (⟨"QuireDeskModel", "makesExtras", "(II)V"⟩, 49), (⟨"QuireDeskModel", "makes", "(I)V"⟩, 49)]
theorem lw_r6 : ∀ q ∈ lw_privs_6, lw_okq q := List.forall_mem_cons.mpr ⟨lw_p80, List.forall_mem_cons.mpr ⟨lw_p81, List.forall_mem_cons.mpr ⟨lw_p82, List.forall_mem_cons.mpr ⟨lw_p83, List.forall_mem_cons.mpr ⟨lw_p84, List.forall_mem_cons.mpr ⟨lw_p85, List.forall_mem_cons.mpr ⟨lw_p86, List.forall_mem_cons.mpr ⟨lw_p87, List.forall_mem_cons.mpr ⟨lw_p88, List.forall_mem_cons.mpr ⟨lw_p89, List.forall_mem_cons.mpr ⟨lw_p90, List.forall_mem_cons.mpr ⟨lw_p91, List.forall_mem_cons.mpr ⟨lw_p92, List.forall_mem_cons.mpr ⟨lw_p93, List.forall_mem_cons.mpr ⟨lw_p94, fun _ h => absurd h List.not_mem_nil⟩⟩⟩⟩⟩⟩⟩⟩⟩⟩⟩⟩⟩⟩⟩
def lw_privs : List (MethodName × Nat) := lw_privs_1 ++ (lw_privs_2 ++ (lw_privs_3 ++ (lw_privs_4 ++ (lw_privs_5 ++ (lw_privs_6)))))
def lw_tbl : List Cond := k2_sels lw_privs ++ tables_1
theorem lw_privs_ok : ∀ q ∈ lw_privs, lw_okq q := by
  show ∀ q ∈ lw_privs_1 ++ (lw_privs_2 ++ (lw_privs_3 ++ (lw_privs_4 ++ (lw_privs_5 ++ (lw_privs_6))))), lw_okq q
  exact List.forall_mem_append.mpr ⟨lw_r1, List.forall_mem_append.mpr ⟨lw_r2, List.forall_mem_append.mpr ⟨lw_r3, List.forall_mem_append.mpr ⟨lw_r4, List.forall_mem_append.mpr ⟨lw_r5, lw_r6⟩⟩⟩⟩⟩
/-! ===== BEGIN words of one list among another's, by their places ===== -/
theorem goodIn_r {big : List Cond} (ws : List Cond) (ps : List Nat) (hp : ws = ps.filterMap (fun i => big[i]?)) (h : ws.all goodWord = true) : GoodIn big ws := by
  intro w hw
  have h1 := List.all_eq_true.mp h w hw
  rw [hp] at hw
  obtain ⟨i, -, hi⟩ := List.mem_filterMap.mp hw
  have hm : w ∈ big := by first | exact List.mem_of_getElem? hi | exact List.getElem?_mem hi
  exact ⟨hm, good_of_word h1⟩
theorem goodIn_app {big a b : List Cond} (ha : GoodIn big a) (hb : GoodIn big b) : GoodIn big (a ++ b) := fun w h => (List.mem_append.mp h).elim (ha w) (hb w)
theorem goodIn_ca {big a b : List Cond} {c : Cond} (ha : GoodIn big (c :: a)) (hb : GoodIn big b) : GoodIn big (c :: (a ++ b)) := fun w h => (List.mem_cons.mp h).elim (fun e => ha w (List.mem_cons.mpr (Or.inl e))) (fun h => (List.mem_append.mp h).elim (fun h => ha w (List.mem_cons.mpr (Or.inr h))) (hb w))
theorem goodIn_sub {big ws : List Cond} (hm : ∀ w ∈ ws, w ∈ big) (h : ws.all goodWord = true) : GoodIn big ws := fun w hw => ⟨hm w hw, good_of_word (List.all_eq_true.mp h w hw)⟩
/-! ===== END ===== -/
def RX0 : String := "QuireDesk$Folding"
def TX0 : u_T := fun k => match k with
  | 0 => ("QuireDesk$Folding", "made", "Z", false)
  | 1 => ("QuireDesk$Folding", "quires", "I", false)
  | 2 => ("QuireDesk$Folding", "things", "I", false)
  | 3 => ("QuireDesk$Folding", "ghosts", "I", false)
  | 4 => ("QuireDesk$Folding", "letter", "I", false)
  | 5 => ("QuireDesk$Folding", "page", "I", false)
  | 6 => ("QuireDesk$Folding", "sizes", "[I", true)
  | 7 => ("QuireDesk$Folding", "cells", "[I", true)
  | 8 => ("QuireDesk$Folding", "kinds", "[I", true)
  | 9 => ("QuireDesk$Folding", "words", "[I", true)
  | 10 => ("QuireDesk$Folding", "quireOf", "[I", true)
  | 11 => ("QuireDesk$Folding", "placeOf", "[I", true)
  | _ => ("QuireDesk$Folding", "laid", "I", false)
def tyX0 : Nat → FieldType := fun k => match k with
  | 0 => .boolean
  | 1 => .int
  | 2 => .int
  | 3 => .int
  | 4 => .int
  | 5 => .int
  | 6 => .array .int
  | 7 => .array .int
  | 8 => .array .int
  | 9 => .array .int
  | 10 => .array .int
  | 11 => .array .int
  | _ => .int
abbrev wsX00 : List Cond := u_ws RX0 TX0 13
theorem nmX0 : ∀ a, a < 13 → ∀ b, b < 13 → a ≠ b → (TX0 a).2.1 ≠ (TX0 b).2.1 := by decide +kernel
theorem tyX0_ok : ∀ k, k < 13 → parseFieldDescriptor (TX0 k).2.2.1 = some (tyX0 k) := by decide +kernel
abbrev cX0_init : ByteArray := prog_2_method_1_code
def yX0_init : MethodName := ⟨RX0, "<init>", "()V"⟩
abbrev cX0_start : ByteArray := prog_2_method_2_code
def yX0_start : MethodName := ⟨RX0, "start", "(II)V"⟩
abbrev cX0_addQuire : ByteArray := prog_2_method_3_code
def yX0_addQuire : MethodName := ⟨RX0, "addQuire", "(I)V"⟩
abbrev cX0_addGhost : ByteArray := prog_2_method_4_code
def yX0_addGhost : MethodName := ⟨RX0, "addGhost", "()V"⟩
abbrev cX0_addCell : ByteArray := prog_2_method_5_code
def yX0_addCell : MethodName := ⟨RX0, "addCell", "(I)V"⟩
abbrev cX0_addLeaf : ByteArray := prog_2_method_6_code
def yX0_addLeaf : MethodName := ⟨RX0, "addLeaf", "(II)V"⟩
abbrev cX0_addThing : ByteArray := prog_2_method_7_code
def yX0_addThing : MethodName := ⟨RX0, "addThing", "(I)V"⟩
abbrev cX0_addLoose : ByteArray := prog_2_method_8_code
def yX0_addLoose : MethodName := ⟨RX0, "addLoose", "([III)I"⟩
abbrev cX0_layOut : ByteArray := prog_2_method_9_code
def yX0_layOut : MethodName := ⟨RX0, "layOut", "(LQuireDesk$Row;LQuireDesk$Reckoner;)V"⟩
abbrev cX0_become : ByteArray := prog_2_method_10_code
def yX0_become : MethodName := ⟨RX0, "become", "(LQuireDesk$Folding;)V"⟩
abbrev cX0_hasQuire : ByteArray := prog_2_method_11_code
def yX0_hasQuire : MethodName := ⟨RX0, "hasQuire", "(I)Z"⟩
abbrev cX0_hasPlace : ByteArray := prog_2_method_12_code
def yX0_hasPlace : MethodName := ⟨RX0, "hasPlace", "(II)Z"⟩
abbrev cX0_thingAt : ByteArray := prog_2_method_13_code
def yX0_thingAt : MethodName := ⟨RX0, "thingAt", "(II)I"⟩
abbrev cX0_hangs : ByteArray := prog_2_method_14_code
def yX0_hangs : MethodName := ⟨RX0, "hangs", "(I)Z"⟩
abbrev cX0_isLoose : ByteArray := prog_2_method_15_code
def yX0_isLoose : MethodName := ⟨RX0, "isLoose", "(I)Z"⟩
abbrev cX0_isCancelled : ByteArray := prog_2_method_16_code
def yX0_isCancelled : MethodName := ⟨RX0, "isCancelled", "(I)Z"⟩
abbrev cX0_behind : ByteArray := prog_2_method_17_code
def yX0_behind : MethodName := ⟨RX0, "behind", "(I)I"⟩
abbrev cX0_placesAhead : ByteArray := prog_2_method_18_code
def yX0_placesAhead : MethodName := ⟨RX0, "placesAhead", "(I)I"⟩
abbrev cX0_pageAt : ByteArray := prog_2_method_19_code
def yX0_pageAt : MethodName := ⟨RX0, "pageAt", "(II)I"⟩
abbrev cX0_wordBefore : ByteArray := prog_2_method_20_code
def yX0_wordBefore : MethodName := ⟨RX0, "wordBefore", "(II)I"⟩
abbrev cX0_stateOf : ByteArray := prog_2_method_21_code
def yX0_stateOf : MethodName := ⟨RX0, "stateOf", "(I)I"⟩
abbrev cX0_isFoldedLike : ByteArray := prog_2_method_22_code
def yX0_isFoldedLike : MethodName := ⟨RX0, "isFoldedLike", "(LQuireDesk$Folding;)Z"⟩
abbrev cX0_join : ByteArray := prog_2_method_23_code
def yX0_join : MethodName := ⟨RX0, "join", "(LQuireDesk$Folding;LQuireDesk$Folding;)V"⟩
abbrev cX0_joinPlace : ByteArray := prog_2_method_24_code
def yX0_joinPlace : MethodName := ⟨RX0, "joinPlace", "(LQuireDesk$Folding;LQuireDesk$Folding;II)V"⟩
def RX1 : String := "QuireDesk$Lays"
def TX1 : u_T := fun k => match k with
  | 0 => ("QuireDesk$Lays", "leaves", "LQuireDesk$Leaves;", true)
  | 1 => ("QuireDesk$Lays", "first", "I", false)
  | 2 => ("QuireDesk$Lays", "last", "I", false)
  | 3 => ("QuireDesk$Lays", "nextSize", "I", false)
  | 4 => ("QuireDesk$Lays", "nextMask", "I", false)
  | 5 => ("QuireDesk$Lays", "seats", "[I", true)
  | 6 => ("QuireDesk$Lays", "nexts", "[I", true)
  | 7 => ("QuireDesk$Lays", "aheads", "[I", true)
  | 8 => ("QuireDesk$Lays", "size", "I", false)
  | 9 => ("QuireDesk$Lays", "mask", "I", false)
  | 10 => ("QuireDesk$Lays", "things", "I", false)
  | 11 => ("QuireDesk$Lays", "ghosts", "I", false)
  | _ => ("QuireDesk$Lays", "ahead", "I", false)
def tyX1 : Nat → FieldType := fun k => match k with
  | 0 => .object "QuireDesk$Leaves"
  | 1 => .int
  | 2 => .int
  | 3 => .int
  | 4 => .int
  | 5 => .array .int
  | 6 => .array .int
  | 7 => .array .int
  | 8 => .int
  | 9 => .int
  | 10 => .int
  | 11 => .int
  | _ => .int
abbrev wsX10 : List Cond := u_ws RX1 TX1 13
theorem nmX1 : ∀ a, a < 13 → ∀ b, b < 13 → a ≠ b → (TX1 a).2.1 ≠ (TX1 b).2.1 := by decide +kernel
theorem tyX1_ok : ∀ k, k < 13 → parseFieldDescriptor (TX1 k).2.2.1 = some (tyX1 k) := by decide +kernel
abbrev cX1_init : ByteArray := prog_3_method_1_code
def yX1_init : MethodName := ⟨RX1, "<init>", "(LQuireDesk$Leaves;)V"⟩
abbrev cX1_beginWhole : ByteArray := prog_3_method_2_code
def yX1_beginWhole : MethodName := ⟨RX1, "beginWhole", "(I)V"⟩
abbrev cX1_beginOpen : ByteArray := prog_3_method_3_code
def yX1_beginOpen : MethodName := ⟨RX1, "beginOpen", "(II)V"⟩
abbrev cX1_advance : ByteArray := prog_3_method_4_code
def yX1_advance : MethodName := ⟨RX1, "advance", "()Z"⟩
abbrev cX1_layMask : ByteArray := prog_3_method_5_code
def yX1_layMask : MethodName := ⟨RX1, "layMask", "()I"⟩
abbrev cX1_layPlace : ByteArray := prog_3_method_6_code
def yX1_layPlace : MethodName := ⟨RX1, "layPlace", "(I)Z"⟩
abbrev cX1_startsWithLeaf : ByteArray := prog_3_method_7_code
def yX1_startsWithLeaf : MethodName := ⟨RX1, "startsWithLeaf", "()Z"⟩
abbrev cX1_endsWithLeaf : ByteArray := prog_3_method_8_code
def yX1_endsWithLeaf : MethodName := ⟨RX1, "endsWithLeaf", "()Z"⟩
def RX2 : String := "QuireDesk$Leaves"
def TX2 : u_T := fun k => match k with
  | 0 => ("QuireDesk$Leaves", "count", "I", false)
  | 1 => ("QuireDesk$Leaves", "letters", "[I", true)
  | 2 => ("QuireDesk$Leaves", "numbers", "[I", true)
  | 3 => ("QuireDesk$Leaves", "spots", "[I", true)
  | 4 => ("QuireDesk$Leaves", "heads", "[I", true)
  | 5 => ("QuireDesk$Leaves", "nexts", "[I", true)
  | 6 => ("QuireDesk$Leaves", "waters", "[I", true)
  | 7 => ("QuireDesk$Leaves", "sides", "[I", true)
  | 8 => ("QuireDesk$Leaves", "ties", "[I", true)
  | 9 => ("QuireDesk$Leaves", "lastSpotted", "I", false)
  | 10 => ("QuireDesk$Leaves", "sizes", "I", false)
  | 11 => ("QuireDesk$Leaves", "signed", "I", false)
  | _ => ("QuireDesk$Leaves", "letter", "I", false)
def tyX2 : Nat → FieldType := fun k => match k with
  | 0 => .int
  | 1 => .array .int
  | 2 => .array .int
  | 3 => .array .int
  | 4 => .array .int
  | 5 => .array .int
  | 6 => .array .int
  | 7 => .array .int
  | 8 => .array .int
  | 9 => .int
  | 10 => .int
  | 11 => .int
  | _ => .int
abbrev wsX20 : List Cond := u_ws RX2 TX2 13
theorem nmX2 : ∀ a, a < 13 → ∀ b, b < 13 → a ≠ b → (TX2 a).2.1 ≠ (TX2 b).2.1 := by decide +kernel
theorem tyX2_ok : ∀ k, k < 13 → parseFieldDescriptor (TX2 k).2.2.1 = some (tyX2 k) := by decide +kernel
abbrev cX2_init : ByteArray := prog_4_method_1_code
def yX2_init : MethodName := ⟨RX2, "<init>", "()V"⟩
abbrev cX2_load : ByteArray := prog_4_method_2_code
def yX2_load : MethodName := ⟨RX2, "load", "(LQuireDesk$Row;)V"⟩
abbrev cX2_add : ByteArray := prog_4_method_3_code
def yX2_add : MethodName := ⟨RX2, "add", "(LQuireDesk$Row;I)V"⟩
abbrev cX2_judge : ByteArray := prog_4_method_4_code
def yX2_judge : MethodName := ⟨RX2, "judge", "(ILQuireDesk$Row;IZ)V"⟩
abbrev cX2_spotOf : ByteArray := prog_4_method_5_code
def yX2_spotOf : MethodName := ⟨RX2, "spotOf", "(II)I"⟩
abbrev cX2_allows : ByteArray := prog_4_method_6_code
def yX2_allows : MethodName := ⟨RX2, "allows", "(I)Z"⟩
abbrev cX2_reach : ByteArray := prog_4_method_7_code
def yX2_reach : MethodName := ⟨RX2, "reach", "(II)I"⟩
abbrev cX2_joins : ByteArray := prog_4_method_8_code
def yX2_joins : MethodName := ⟨RX2, "joins", "(I)Z"⟩
abbrev cX2_clashes : ByteArray := prog_4_method_9_code
def yX2_clashes : MethodName := ⟨RX2, "clashes", "(I)Z"⟩
abbrev cX2_mayBeAt : ByteArray := prog_4_method_10_code
def yX2_mayBeAt : MethodName := ⟨RX2, "mayBeAt", "(II)Z"⟩
abbrev cX2_mayHang : ByteArray := prog_4_method_11_code
def yX2_mayHang : MethodName := ⟨RX2, "mayHang", "(II)Z"⟩
abbrev cX2_aheadBy : ByteArray := prog_4_method_12_code
def yX2_aheadBy : MethodName := ⟨RX2, "aheadBy", "(II)I"⟩
def RX3 : String := "QuireDesk$Reader"
def TX3 : u_T := fun k => match k with
  | 0 => ("QuireDesk$Reader", "fault", "I", false)
  | 1 => ("QuireDesk$Reader", "faultAt", "I", false)
  | 2 => ("QuireDesk$Reader", "text", "LQuireDesk$Strip;", false)
  | 3 => ("QuireDesk$Reader", "pos", "I", false)
  | 4 => ("QuireDesk$Reader", "latest", "I", false)
  | 5 => ("QuireDesk$Reader", "states", "[I", true)
  | 6 => ("QuireDesk$Reader", "looseKinds", "[I", true)
  | 7 => ("QuireDesk$Reader", "loosePlaces", "[I", true)
  | 8 => ("QuireDesk$Reader", "looseCount", "I", false)
  | 9 => ("QuireDesk$Reader", "ghosts", "I", false)
  | 10 => ("QuireDesk$Reader", "size", "I", false)
  | 11 => ("QuireDesk$Reader", "itemSign", "I", false)
  | _ => ("QuireDesk$Reader", "itemPlace", "I", false)
def tyX3 : Nat → FieldType := fun k => match k with
  | 0 => .int
  | 1 => .int
  | 2 => .object "QuireDesk$Strip"
  | 3 => .int
  | 4 => .int
  | 5 => .array .int
  | 6 => .array .int
  | 7 => .array .int
  | 8 => .int
  | 9 => .int
  | 10 => .int
  | 11 => .int
  | _ => .int
abbrev wsX30 : List Cond := u_ws RX3 TX3 13
theorem nmX3 : ∀ a, a < 13 → ∀ b, b < 13 → a ≠ b → (TX3 a).2.1 ≠ (TX3 b).2.1 := by decide +kernel
theorem tyX3_ok : ∀ k, k < 13 → parseFieldDescriptor (TX3 k).2.2.1 = some (tyX3 k) := by decide +kernel
abbrev cX3_init : ByteArray := prog_5_method_1_code
def yX3_init : MethodName := ⟨RX3, "<init>", "()V"⟩
abbrev cX3_readFormula : ByteArray := prog_5_method_2_code
def yX3_readFormula : MethodName := ⟨RX3, "readFormula", "(LQuireDesk$Strip;LQuireDesk$Folding;)Z"⟩
abbrev cX3_sign : ByteArray := prog_5_method_3_code
def yX3_sign : MethodName := ⟨RX3, "sign", "()I"⟩
abbrev cX3_fail : ByteArray := prog_5_method_4_code
def yX3_fail : MethodName := ⟨RX3, "fail", "(II)Z"⟩
abbrev cX3_readQuire : ByteArray := prog_5_method_5_code
def yX3_readQuire : MethodName := ⟨RX3, "readQuire", "(LQuireDesk$Folding;)Z"⟩
abbrev cX3_readLetters : ByteArray := prog_5_method_6_code
def yX3_readLetters : MethodName := ⟨RX3, "readLetters", "()I"⟩
abbrev cX3_readLast : ByteArray := prog_5_method_7_code
def yX3_readLast : MethodName := ⟨RX3, "readLast", "(II)I"⟩
abbrev cX3_readSize : ByteArray := prog_5_method_8_code
def yX3_readSize : MethodName := ⟨RX3, "readSize", "()Z"⟩
abbrev cX3_readBracket : ByteArray := prog_5_method_9_code
def yX3_readBracket : MethodName := ⟨RX3, "readBracket", "(ZZ)Z"⟩
abbrev cX3_readItem : ByteArray := prog_5_method_10_code
def yX3_readItem : MethodName := ⟨RX3, "readItem", "(Z)Z"⟩
abbrev cX3_canFollow : ByteArray := prog_5_method_11_code
def yX3_canFollow : MethodName := ⟨RX3, "canFollow", "(II)Z"⟩
abbrev cX3_keepItem : ByteArray := prog_5_method_12_code
def yX3_keepItem : MethodName := ⟨RX3, "keepItem", "(II)V"⟩
abbrev cX3_keepLoose : ByteArray := prog_5_method_13_code
def yX3_keepLoose : MethodName := ⟨RX3, "keepLoose", "(II)V"⟩
abbrev cX3_addQuire : ByteArray := prog_5_method_14_code
def yX3_addQuire : MethodName := ⟨RX3, "addQuire", "(LQuireDesk$Folding;)V"⟩
abbrev cX3_addLooseOf : ByteArray := prog_5_method_15_code
def yX3_addLooseOf : MethodName := ⟨RX3, "addLooseOf", "(LQuireDesk$Folding;I)V"⟩
def RX4 : String := "QuireDesk$Reckoner"
def TX4 : u_T := fun k => match k with
  | 0 => ("QuireDesk$Reckoner", "leaves", "LQuireDesk$Leaves;", true)
  | 1 => ("QuireDesk$Reckoner", "lays", "LQuireDesk$Lays;", true)
  | 2 => ("QuireDesk$Reckoner", "steps", "LQuireDesk$Lays;", true)
  | 3 => ("QuireDesk$Reckoner", "loaded", "LQuireDesk$Row;", false)
  | 4 => ("QuireDesk$Reckoner", "loads", "I", false)
  | 5 => ("QuireDesk$Reckoner", "groups", "[I", true)
  | 6 => ("QuireDesk$Reckoner", "groupCounts", "[I", true)
  | 7 => ("QuireDesk$Reckoner", "tally", "[I", true)
  | 8 => ("QuireDesk$Reckoner", "counts", "[J", true)
  | 9 => ("QuireDesk$Reckoner", "bests", "[I", true)
  | 10 => ("QuireDesk$Reckoner", "chosenSizes", "[I", true)
  | 11 => ("QuireDesk$Reckoner", "chosenMasks", "[I", true)
  | _ => ("QuireDesk$Reckoner", "chosen", "I", false)
def tyX4 : Nat → FieldType := fun k => match k with
  | 0 => .object "QuireDesk$Leaves"
  | 1 => .object "QuireDesk$Lays"
  | 2 => .object "QuireDesk$Lays"
  | 3 => .object "QuireDesk$Row"
  | 4 => .int
  | 5 => .array .int
  | 6 => .array .int
  | 7 => .array .int
  | 8 => .array .long
  | 9 => .array .int
  | 10 => .array .int
  | 11 => .array .int
  | _ => .int
abbrev wsX40 : List Cond := u_ws RX4 TX4 13
theorem nmX4 : ∀ a, a < 13 → ∀ b, b < 13 → a ≠ b → (TX4 a).2.1 ≠ (TX4 b).2.1 := by decide +kernel
theorem tyX4_ok : ∀ k, k < 13 → parseFieldDescriptor (TX4 k).2.2.1 = some (tyX4 k) := by decide +kernel
abbrev cX4_init : ByteArray := prog_6_method_1_code
def yX4_init : MethodName := ⟨RX4, "<init>", "()V"⟩
abbrev cX4_load : ByteArray := prog_6_method_2_code
def yX4_load : MethodName := ⟨RX4, "load", "(LQuireDesk$Row;)V"⟩
abbrev cX4_total : ByteArray := prog_6_method_3_code
def yX4_total : MethodName := ⟨RX4, "total", "()J"⟩
abbrev cX4_countFrom : ByteArray := prog_6_method_4_code
def yX4_countFrom : MethodName := ⟨RX4, "countFrom", "(IIIZ)J"⟩
abbrev cX4_leastFrom : ByteArray := prog_6_method_5_code
def yX4_leastFrom : MethodName := ⟨RX4, "leastFrom", "(IIIZ)I"⟩
abbrev cX4_stateOf : ByteArray := prog_6_method_6_code
def yX4_stateOf : MethodName := ⟨RX4, "stateOf", "(IIIZ)I"⟩
abbrev cX4_numberOf : ByteArray := prog_6_method_7_code
def yX4_numberOf : MethodName := ⟨RX4, "numberOf", "(IIIZ)I"⟩
abbrev cX4_isKnown : ByteArray := prog_6_method_8_code
def yX4_isKnown : MethodName := ⟨RX4, "isKnown", "(I)Z"⟩
abbrev cX4_reckon : ByteArray := prog_6_method_9_code
def yX4_reckon : MethodName := ⟨RX4, "reckon", "(IIIIZ)V"⟩
abbrev cX4_groupLays : ByteArray := prog_6_method_10_code
def yX4_groupLays : MethodName := ⟨RX4, "groupLays", "(I)V"⟩
abbrev cX4_addLay : ByteArray := prog_6_method_11_code
def yX4_addLay : MethodName := ⟨RX4, "addLay", "(I)V"⟩
abbrev cX4_addGroup : ByteArray := prog_6_method_12_code
def yX4_addGroup : MethodName := ⟨RX4, "addGroup", "(IIII)V"⟩
abbrev cX4_chooseWay : ByteArray := prog_6_method_13_code
def yX4_chooseWay : MethodName := ⟨RX4, "chooseWay", "(JZ)Z"⟩
abbrev cX4_countBehind : ByteArray := prog_6_method_14_code
def yX4_countBehind : MethodName := ⟨RX4, "countBehind", "(IIIZ)J"⟩
abbrev cX4_leastBehind : ByteArray := prog_6_method_15_code
def yX4_leastBehind : MethodName := ⟨RX4, "leastBehind", "(III)I"⟩
abbrev cX4_choose : ByteArray := prog_6_method_16_code
def yX4_choose : MethodName := ⟨RX4, "choose", "(I)V"⟩
abbrev cX4_firstStuck : ByteArray := prog_6_method_17_code
def yX4_firstStuck : MethodName := ⟨RX4, "firstStuck", "(LQuireDesk$Row;)I"⟩
abbrev cX4_opensUpTo : ByteArray := prog_6_method_18_code
def yX4_opensUpTo : MethodName := ⟨RX4, "opensUpTo", "(I)Z"⟩
abbrev cX4_wasReached : ByteArray := prog_6_method_19_code
def yX4_wasReached : MethodName := ⟨RX4, "wasReached", "(I)Z"⟩
abbrev cX4_wasIn : ByteArray := prog_6_method_20_code
def yX4_wasIn : MethodName := ⟨RX4, "wasIn", "(IIIZ)Z"⟩
def RX5 : String := "QuireDesk$Row"
def TX5 : u_T := fun k => match k with
  | 0 => ("QuireDesk$Row", "kinds", "[I", true)
  | 1 => ("QuireDesk$Row", "whole", "[I", true)
  | 2 => ("QuireDesk$Row", "marks", "[I", true)
  | 3 => ("QuireDesk$Row", "rules", "[I", true)
  | 4 => ("QuireDesk$Row", "count", "I", false)
  | _ => ("QuireDesk$Row", "changed", "Z", false)
def tyX5 : Nat → FieldType := fun k => match k with
  | 0 => .array .int
  | 1 => .array .int
  | 2 => .array .int
  | 3 => .array .int
  | 4 => .int
  | _ => .boolean
abbrev wsX50 : List Cond := u_ws RX5 TX5 6
theorem nmX5 : ∀ a, a < 6 → ∀ b, b < 6 → a ≠ b → (TX5 a).2.1 ≠ (TX5 b).2.1 := by decide +kernel
theorem tyX5_ok : ∀ k, k < 6 → parseFieldDescriptor (TX5 k).2.2.1 = some (tyX5 k) := by decide +kernel
abbrev cX5_init : ByteArray := prog_7_method_1_code
def yX5_init : MethodName := ⟨RX5, "<init>", "()V"⟩
abbrev cX5_has : ByteArray := prog_7_method_2_code
def yX5_has : MethodName := ⟨RX5, "has", "(I)Z"⟩
abbrev cX5_insert : ByteArray := prog_7_method_3_code
def yX5_insert : MethodName := ⟨RX5, "insert", "(II)I"⟩
abbrev cX5_remove : ByteArray := prog_7_method_4_code
def yX5_remove : MethodName := ⟨RX5, "remove", "(I)I"⟩
abbrev cX5_shift : ByteArray := prog_7_method_5_code
def yX5_shift : MethodName := ⟨RX5, "shift", "(II)V"⟩
abbrev cX5_setMark : ByteArray := prog_7_method_6_code
def yX5_setMark : MethodName := ⟨RX5, "setMark", "(III)Z"⟩
abbrev cX5_tearTo : ByteArray := prog_7_method_7_code
def yX5_tearTo : MethodName := ⟨RX5, "tearTo", "(II)I"⟩
abbrev cX5_kindOf : ByteArray := prog_7_method_8_code
def yX5_kindOf : MethodName := ⟨RX5, "kindOf", "(I)I"⟩
abbrev cX5_markOf : ByteArray := prog_7_method_9_code
def yX5_markOf : MethodName := ⟨RX5, "markOf", "(II)I"⟩
abbrev cX5_hanging : ByteArray := prog_7_method_10_code
def yX5_hanging : MethodName := ⟨RX5, "hanging", "()I"⟩
abbrev cX5_ruleOf : ByteArray := prog_7_method_11_code
def yX5_ruleOf : MethodName := ⟨RX5, "ruleOf", "(I)I"⟩
abbrev cX5_setRule : ByteArray := prog_7_method_12_code
def yX5_setRule : MethodName := ⟨RX5, "setRule", "(II)Z"⟩
abbrev cX5_hangs : ByteArray := prog_7_method_13_code
def yX5_hangs : MethodName := ⟨RX5, "hangs", "(I)Z"⟩
abbrev cX5_isCancelled : ByteArray := prog_7_method_14_code
def yX5_isCancelled : MethodName := ⟨RX5, "isCancelled", "(I)Z"⟩
def RX6 : String := "QuireDesk$Strip"
def TX6 : u_T := fun k => match k with
  | 0 => ("QuireDesk$Strip", "bytes", "[I", true)
  | 1 => ("QuireDesk$Strip", "length", "I", false)
  | _ => ("QuireDesk$Strip", "items", "I", false)
def tyX6 : Nat → FieldType := fun k => match k with
  | 0 => .array .int
  | 1 => .int
  | _ => .int
abbrev wsX60 : List Cond := u_ws RX6 TX6 3
theorem nmX6 : ∀ a, a < 3 → ∀ b, b < 3 → a ≠ b → (TX6 a).2.1 ≠ (TX6 b).2.1 := by decide +kernel
theorem tyX6_ok : ∀ k, k < 3 → parseFieldDescriptor (TX6 k).2.2.1 = some (tyX6 k) := by decide +kernel
abbrev cX6_init : ByteArray := prog_8_method_1_code
def yX6_init : MethodName := ⟨RX6, "<init>", "()V"⟩
abbrev cX6_signAt : ByteArray := prog_8_method_2_code
def yX6_signAt : MethodName := ⟨RX6, "signAt", "(I)I"⟩
abbrev cX6_add : ByteArray := prog_8_method_3_code
def yX6_add : MethodName := ⟨RX6, "add", "(I)V"⟩
abbrev cX6_addInt : ByteArray := prog_8_method_4_code
def yX6_addInt : MethodName := ⟨RX6, "addInt", "(I)V"⟩
abbrev cX6_become : ByteArray := prog_8_method_5_code
def yX6_become : MethodName := ⟨RX6, "become", "(LQuireDesk$Strip;)V"⟩
abbrev cX6_writeFormula : ByteArray := prog_8_method_6_code
def yX6_writeFormula : MethodName := ⟨RX6, "writeFormula", "(LQuireDesk$Folding;)V"⟩
abbrev cX6_plainRun : ByteArray := prog_8_method_7_code
def yX6_plainRun : MethodName := ⟨RX6, "plainRun", "(LQuireDesk$Folding;I)I"⟩
abbrev cX6_isPlain : ByteArray := prog_8_method_8_code
def yX6_isPlain : MethodName := ⟨RX6, "isPlain", "(LQuireDesk$Folding;I)Z"⟩
abbrev cX6_addLetters : ByteArray := prog_8_method_9_code
def yX6_addLetters : MethodName := ⟨RX6, "addLetters", "(I)V"⟩
abbrev cX6_addItems : ByteArray := prog_8_method_10_code
def yX6_addItems : MethodName := ⟨RX6, "addItems", "(LQuireDesk$Folding;I)V"⟩
abbrev cX6_addLoose : ByteArray := prog_8_method_11_code
def yX6_addLoose : MethodName := ⟨RX6, "addLoose", "(LQuireDesk$Folding;II)V"⟩
abbrev cX6_addItem : ByteArray := prog_8_method_12_code
def yX6_addItem : MethodName := ⟨RX6, "addItem", "(CI)V"⟩
def RX7 : String := "QuireDesk"
def TX7 : u_T := fun k => match k with
  | 0 => ("QuireDesk", "rows", "[LQuireDesk$Row;", true)
  | 1 => ("QuireDesk", "reckoner", "LQuireDesk$Reckoner;", true)
  | 2 => ("QuireDesk", "current", "LQuireDesk$Folding;", true)
  | 3 => ("QuireDesk", "draft", "LQuireDesk$Folding;", true)
  | 4 => ("QuireDesk", "kept", "[LQuireDesk$Folding;", true)
  | 5 => ("QuireDesk", "tape", "LQuireDesk$Strip;", true)
  | 6 => ("QuireDesk", "formula", "LQuireDesk$Strip;", true)
  | _ => ("QuireDesk", "reader", "LQuireDesk$Reader;", true)
def tyX7 : Nat → FieldType := fun k => match k with
  | 0 => .array (.object "QuireDesk$Row")
  | 1 => .object "QuireDesk$Reckoner"
  | 2 => .object "QuireDesk$Folding"
  | 3 => .object "QuireDesk$Folding"
  | 4 => .array (.object "QuireDesk$Folding")
  | 5 => .object "QuireDesk$Strip"
  | 6 => .object "QuireDesk$Strip"
  | _ => .object "QuireDesk$Reader"
abbrev wsX70 : List Cond := u_ws RX7 TX7 8
theorem nmX7 : ∀ a, a < 8 → ∀ b, b < 8 → a ≠ b → (TX7 a).2.1 ≠ (TX7 b).2.1 := by decide +kernel
theorem tyX7_ok : ∀ k, k < 8 → parseFieldDescriptor (TX7 k).2.2.1 = some (tyX7 k) := by decide +kernel
abbrev cX7_init : ByteArray := prog_1_method_1_code
def yX7_init : MethodName := ⟨RX7, "<init>", "()V"⟩
abbrev cX7_put : ByteArray := prog_1_method_2_code
def yX7_put : MethodName := ⟨RX7, "put", "(III)I"⟩
abbrev cX7_gone : ByteArray := prog_1_method_3_code
def yX7_gone : MethodName := ⟨RX7, "gone", "(II)I"⟩
abbrev cX7_mark : ByteArray := prog_1_method_4_code
def yX7_mark : MethodName := ⟨RX7, "mark", "(IIII)Z"⟩
abbrev cX7_tear : ByteArray := prog_1_method_5_code
def yX7_tear : MethodName := ⟨RX7, "tear", "(III)I"⟩
abbrev cX7_look : ByteArray := prog_1_method_6_code
def yX7_look : MethodName := ⟨RX7, "look", "(III)I"⟩
abbrev cX7_about : ByteArray := prog_1_method_7_code
def yX7_about : MethodName := ⟨RX7, "about", "(II)I"⟩
abbrev cX7_rule : ByteArray := prog_1_method_8_code
def yX7_rule : MethodName := ⟨RX7, "rule", "(III)Z"⟩
abbrev cX7_ways : ByteArray := prog_1_method_9_code
def yX7_ways : MethodName := ⟨RX7, "ways", "(I)J"⟩
abbrev cX7_pick : ByteArray := prog_1_method_10_code
def yX7_pick : MethodName := ⟨RX7, "pick", "(IJ)Z"⟩
abbrev cX7_fewest : ByteArray := prog_1_method_11_code
def yX7_fewest : MethodName := ⟨RX7, "fewest", "(I)I"⟩
abbrev cX7_why : ByteArray := prog_1_method_12_code
def yX7_why : MethodName := ⟨RX7, "why", "(I)I"⟩
abbrev cX7_folding : ByteArray := prog_1_method_13_code
def yX7_folding : MethodName := ⟨RX7, "folding", "(I)I"⟩
abbrev cX7_size : ByteArray := prog_1_method_14_code
def yX7_size : MethodName := ⟨RX7, "size", "(I)I"⟩
abbrev cX7_place : ByteArray := prog_1_method_15_code
def yX7_place : MethodName := ⟨RX7, "place", "(II)I"⟩
abbrev cX7_thing : ByteArray := prog_1_method_16_code
def yX7_thing : MethodName := ⟨RX7, "thing", "(II)I"⟩
abbrev cX7_where : ByteArray := prog_1_method_17_code
def yX7_where : MethodName := ⟨RX7, "where", "(III)I"⟩
abbrev cX7_write : ByteArray := prog_1_method_18_code
def yX7_write : MethodName := ⟨RX7, "write", "()I"⟩
abbrev cX7_out : ByteArray := prog_1_method_19_code
def yX7_out : MethodName := ⟨RX7, "out", "(I)I"⟩
abbrev cX7_feed : ByteArray := prog_1_method_20_code
def yX7_feed : MethodName := ⟨RX7, "feed", "(IIIII)I"⟩
abbrev cX7_end : ByteArray := prog_1_method_21_code
def yX7_end : MethodName := ⟨RX7, "end", "(I)I"⟩
abbrev cX7_take : ByteArray := prog_1_method_22_code
def yX7_take : MethodName := ⟨RX7, "take", "()I"⟩
abbrev cX7_read : ByteArray := prog_1_method_23_code
def yX7_read : MethodName := ⟨RX7, "read", "()I"⟩
abbrev cX7_fault : ByteArray := prog_1_method_24_code
def yX7_fault : MethodName := ⟨RX7, "fault", "(I)I"⟩
abbrev cX7_copy : ByteArray := prog_1_method_25_code
def yX7_copy : MethodName := ⟨RX7, "copy", "(I)Z"⟩
abbrev cX7_against : ByteArray := prog_1_method_26_code
def yX7_against : MethodName := ⟨RX7, "against", "(II)I"⟩
abbrev cX7_differs : ByteArray := prog_1_method_27_code
def yX7_differs : MethodName := ⟨RX7, "differs", "(IIII)I"⟩
abbrev cX7_ideal : ByteArray := prog_1_method_28_code
def yX7_ideal : MethodName := ⟨RX7, "ideal", "(II)I"⟩
abbrev cX7_rowOf : ByteArray := prog_1_method_29_code
def yX7_rowOf : MethodName := ⟨RX7, "rowOf", "(I)LQuireDesk$Row;"⟩
abbrev cX7_keptAs : ByteArray := prog_1_method_30_code
def yX7_keptAs : MethodName := ⟨RX7, "keptAs", "(I)LQuireDesk$Folding;"⟩
abbrev cX7_nthUnlike : ByteArray := prog_1_method_31_code
def yX7_nthUnlike : MethodName := ⟨RX7, "nthUnlike", "(LQuireDesk$Folding;LQuireDesk$Folding;I)I"⟩
abbrev cX7_together : ByteArray := prog_1_method_32_code
def yX7_together : MethodName := ⟨RX7, "together", "(II)I"⟩
abbrev cX7_isHanging : ByteArray := prog_1_method_33_code
def yX7_isHanging : MethodName := ⟨RX7, "isHanging", "(I)Z"⟩
abbrev cX7_isGhost : ByteArray := prog_1_method_34_code
def yX7_isGhost : MethodName := ⟨RX7, "isGhost", "(III)Z"⟩
def RX8 : String := "QuireDeskModel"
def TX8 : u_T := fun k => match k with
  | 0 => ("QuireDeskModel", "told", "I", false)
  | 1 => ("QuireDeskModel", "many", "[I", true)
  | 2 => ("QuireDeskModel", "kinds", "[I", true)
  | 3 => ("QuireDeskModel", "torn", "[I", true)
  | 4 => ("QuireDeskModel", "marks", "[I", true)
  | 5 => ("QuireDeskModel", "sizes", "[I", true)
  | 6 => ("QuireDeskModel", "signed", "[I", true)
  | 7 => ("QuireDeskModel", "letters", "[I", true)
  | 8 => ("QuireDeskModel", "pages", "[I", true)
  | 9 => ("QuireDeskModel", "asked", "I", false)
  | 10 => ("QuireDeskModel", "hung", "I", false)
  | 11 => ("QuireDeskModel", "hangs", "[I", true)
  | 12 => ("QuireDeskModel", "cancels", "[I", true)
  | 13 => ("QuireDeskModel", "in", "[I", true)
  | 14 => ("QuireDeskModel", "isMet", "[Z", true)
  | 15 => ("QuireDeskModel", "ways", "[J", true)
  | 16 => ("QuireDeskModel", "fewest", "[I", true)
  | 17 => ("QuireDeskModel", "isThere", "[Z", true)
  | 18 => ("QuireDeskModel", "things", "[I", true)
  | 19 => ("QuireDeskModel", "quires", "[I", true)
  | 20 => ("QuireDeskModel", "firstLetter", "[I", true)
  | 21 => ("QuireDeskModel", "firstPage", "[I", true)
  | 22 => ("QuireDeskModel", "sizeOf", "[I", true)
  | 23 => ("QuireDeskModel", "placed", "[I", true)
  | 24 => ("QuireDeskModel", "kindOf", "[I", true)
  | 25 => ("QuireDeskModel", "catchOf", "[I", true)
  | 26 => ("QuireDeskModel", "out", "[I", true)
  | 27 => ("QuireDeskModel", "outs", "I", false)
  | 28 => ("QuireDeskModel", "items", "I", false)
  | 29 => ("QuireDeskModel", "tape", "[I", true)
  | 30 => ("QuireDeskModel", "taped", "I", false)
  | 31 => ("QuireDeskModel", "faultKind", "I", false)
  | 32 => ("QuireDeskModel", "faultPlace", "I", false)
  | 33 => ("QuireDeskModel", "reads", "I", false)
  | 34 => ("QuireDeskModel", "newThings", "I", false)
  | 35 => ("QuireDeskModel", "newQuires", "I", false)
  | 36 => ("QuireDeskModel", "newLetter", "I", false)
  | 37 => ("QuireDeskModel", "newSize", "[I", true)
  | 38 => ("QuireDeskModel", "newPlaced", "[I", true)
  | 39 => ("QuireDeskModel", "newKind", "[I", true)
  | 40 => ("QuireDeskModel", "codes", "[I", true)
  | 41 => ("QuireDeskModel", "extraPlace", "[I", true)
  | 42 => ("QuireDeskModel", "extraKind", "[I", true)
  | 43 => ("QuireDeskModel", "extras", "I", false)
  | 44 => ("QuireDeskModel", "foundQuire", "I", false)
  | 45 => ("QuireDeskModel", "foundPlace", "I", false)
  | 46 => ("QuireDeskModel", "made", "I", false)
  | 47 => ("QuireDeskModel", "madeKind", "[I", true)
  | _ => ("QuireDeskModel", "madePlaced", "[I", true)
def tyX8 : Nat → FieldType := fun k => match k with
  | 0 => .int
  | 1 => .array .int
  | 2 => .array .int
  | 3 => .array .int
  | 4 => .array .int
  | 5 => .array .int
  | 6 => .array .int
  | 7 => .array .int
  | 8 => .array .int
  | 9 => .int
  | 10 => .int
  | 11 => .array .int
  | 12 => .array .int
  | 13 => .array .int
  | 14 => .array .boolean
  | 15 => .array .long
  | 16 => .array .int
  | 17 => .array .boolean
  | 18 => .array .int
  | 19 => .array .int
  | 20 => .array .int
  | 21 => .array .int
  | 22 => .array .int
  | 23 => .array .int
  | 24 => .array .int
  | 25 => .array .int
  | 26 => .array .int
  | 27 => .int
  | 28 => .int
  | 29 => .array .int
  | 30 => .int
  | 31 => .int
  | 32 => .int
  | 33 => .int
  | 34 => .int
  | 35 => .int
  | 36 => .int
  | 37 => .array .int
  | 38 => .array .int
  | 39 => .array .int
  | 40 => .array .int
  | 41 => .array .int
  | 42 => .array .int
  | 43 => .int
  | 44 => .int
  | 45 => .int
  | 46 => .int
  | 47 => .array .int
  | _ => .array .int
abbrev wsX80 : List Cond := u_ws RX8 TX8 49
theorem nmX8 : ∀ a, a < 49 → ∀ b, b < 49 → a ≠ b → (TX8 a).2.1 ≠ (TX8 b).2.1 := by decide +kernel
theorem tyX8_ok : ∀ k, k < 49 → parseFieldDescriptor (TX8 k).2.2.1 = some (tyX8 k) := by decide +kernel
abbrev cX8_init : ByteArray := prog_10_method_1_code
def yX8_init : MethodName := ⟨RX8, "<init>", "()V"⟩
abbrev cX8_isRow : ByteArray := prog_10_method_3_code
def yX8_isRow : MethodName := ⟨RX8, "isRow", "(I)Z"⟩
abbrev cX8_isThing : ByteArray := prog_10_method_4_code
def yX8_isThing : MethodName := ⟨RX8, "isThing", "(II)Z"⟩
abbrev cX8_move : ByteArray := prog_10_method_5_code
def yX8_move : MethodName := ⟨RX8, "move", "(II)V"⟩
abbrev cX8_put : ByteArray := prog_10_method_6_code
def yX8_put : MethodName := ⟨RX8, "put", "(III)I"⟩
abbrev cX8_gone : ByteArray := prog_10_method_7_code
def yX8_gone : MethodName := ⟨RX8, "gone", "(II)I"⟩
abbrev cX8_most : ByteArray := prog_10_method_8_code
def yX8_most : MethodName := ⟨RX8, "most", "(I)I"⟩
abbrev cX8_mark : ByteArray := prog_10_method_9_code
def yX8_mark : MethodName := ⟨RX8, "mark", "(IIII)Z"⟩
abbrev cX8_tear : ByteArray := prog_10_method_10_code
def yX8_tear : MethodName := ⟨RX8, "tear", "(III)I"⟩
abbrev cX8_look : ByteArray := prog_10_method_11_code
def yX8_look : MethodName := ⟨RX8, "look", "(III)I"⟩
abbrev cX8_isHanging : ByteArray := prog_10_method_12_code
def yX8_isHanging : MethodName := ⟨RX8, "isHanging", "(I)Z"⟩
abbrev cX8_about : ByteArray := prog_10_method_13_code
def yX8_about : MethodName := ⟨RX8, "about", "(II)I"⟩
abbrev cX8_rule : ByteArray := prog_10_method_14_code
def yX8_rule : MethodName := ⟨RX8, "rule", "(III)Z"⟩
abbrev cX8_asks : ByteArray := prog_10_method_15_code
def yX8_asks : MethodName := ⟨RX8, "asks", "(I)V"⟩
abbrev cX8_known : ByteArray := prog_10_method_16_code
def yX8_known : MethodName := ⟨RX8, "known", "(II)I"⟩
abbrev cX8_fits : ByteArray := prog_10_method_17_code
def yX8_fits : MethodName := ⟨RX8, "fits", "(IIIIZ)Z"⟩
abbrev cX8_goesOn : ByteArray := prog_10_method_18_code
def yX8_goesOn : MethodName := ⟨RX8, "goesOn", "(IZ)Z"⟩
abbrev cX8_hangTogether : ByteArray := prog_10_method_19_code
def yX8_hangTogether : MethodName := ⟨RX8, "hangTogether", "(II)Z"⟩
abbrev cX8_agrees : ByteArray := prog_10_method_20_code
def yX8_agrees : MethodName := ⟨RX8, "agrees", "(IIIZIIIIZ)Z"⟩
abbrev cX8_ones : ByteArray := prog_10_method_21_code
def yX8_ones : MethodName := ⟨RX8, "ones", "(I)I"⟩
abbrev cX8_state : ByteArray := prog_10_method_22_code
def yX8_state : MethodName := ⟨RX8, "state", "(IIII)I"⟩
abbrev cX8_has : ByteArray := prog_10_method_23_code
def yX8_has : MethodName := ⟨RX8, "has", "(I)Z"⟩
abbrev cX8_isQuire : ByteArray := prog_10_method_24_code
def yX8_isQuire : MethodName := ⟨RX8, "isQuire", "(IIIIII)Z"⟩
abbrev cX8_goThrough : ByteArray := prog_10_method_25_code
def yX8_goThrough : MethodName := ⟨RX8, "goThrough", "(I)V"⟩
abbrev cX8_behind : ByteArray := prog_10_method_26_code
def yX8_behind : MethodName := ⟨RX8, "behind", "(IIIII)I"⟩
abbrev cX8_spreads : ByteArray := prog_10_method_27_code
def yX8_spreads : MethodName := ⟨RX8, "spreads", "(IIII)V"⟩
abbrev cX8_counts : ByteArray := prog_10_method_28_code
def yX8_counts : MethodName := ⟨RX8, "counts", "(IIII)V"⟩
abbrev cX8_ways : ByteArray := prog_10_method_29_code
def yX8_ways : MethodName := ⟨RX8, "ways", "(I)J"⟩
abbrev cX8_at : ByteArray := prog_10_method_30_code
def yX8_at : MethodName := ⟨RX8, "at", "(III)I"⟩
abbrev cX8_take : ByteArray := prog_10_method_31_code
def yX8_take : MethodName := ⟨RX8, "take", "(I)V"⟩
abbrev cX8_lays : ByteArray := prog_10_method_32_code
def yX8_lays : MethodName := ⟨RX8, "lays", "(IJZ)V"⟩
abbrev cX8_pick : ByteArray := prog_10_method_33_code
def yX8_pick : MethodName := ⟨RX8, "pick", "(IJ)Z"⟩
abbrev cX8_fewest : ByteArray := prog_10_method_34_code
def yX8_fewest : MethodName := ⟨RX8, "fewest", "(I)I"⟩
abbrev cX8_begins : ByteArray := prog_10_method_35_code
def yX8_begins : MethodName := ⟨RX8, "begins", "(IZ)Z"⟩
abbrev cX8_beginsFrom : ByteArray := prog_10_method_36_code
def yX8_beginsFrom : MethodName := ⟨RX8, "beginsFrom", "(IIIIIZ)Z"⟩
abbrev cX8_why : ByteArray := prog_10_method_37_code
def yX8_why : MethodName := ⟨RX8, "why", "(I)I"⟩
abbrev cX8_ghosts : ByteArray := prog_10_method_38_code
def yX8_ghosts : MethodName := ⟨RX8, "ghosts", "(I)I"⟩
abbrev cX8_placesAhead : ByteArray := prog_10_method_39_code
def yX8_placesAhead : MethodName := ⟨RX8, "placesAhead", "(III)I"⟩
abbrev cX8_folding : ByteArray := prog_10_method_40_code
def yX8_folding : MethodName := ⟨RX8, "folding", "(I)I"⟩
abbrev cX8_isQuire_ : ByteArray := prog_10_method_41_code
def yX8_isQuire_ : MethodName := ⟨RX8, "isQuire", "(II)Z"⟩
abbrev cX8_isPlace : ByteArray := prog_10_method_42_code
def yX8_isPlace : MethodName := ⟨RX8, "isPlace", "(III)Z"⟩
abbrev cX8_size : ByteArray := prog_10_method_43_code
def yX8_size : MethodName := ⟨RX8, "size", "(I)I"⟩
abbrev cX8_place : ByteArray := prog_10_method_44_code
def yX8_place : MethodName := ⟨RX8, "place", "(II)I"⟩
abbrev cX8_thing : ByteArray := prog_10_method_45_code
def yX8_thing : MethodName := ⟨RX8, "thing", "(II)I"⟩
abbrev cX8_where : ByteArray := prog_10_method_46_code
def yX8_where : MethodName := ⟨RX8, "where", "(III)I"⟩
abbrev cX8_say : ByteArray := prog_10_method_47_code
def yX8_say : MethodName := ⟨RX8, "say", "(I)V"⟩
abbrev cX8_sign : ByteArray := prog_10_method_48_code
def yX8_sign : MethodName := ⟨RX8, "sign", "(I)I"⟩
abbrev cX8_sayLetters : ByteArray := prog_10_method_49_code
def yX8_sayLetters : MethodName := ⟨RX8, "sayLetters", "(I)V"⟩
abbrev cX8_isCancelled : ByteArray := prog_10_method_50_code
def yX8_isCancelled : MethodName := ⟨RX8, "isCancelled", "(II)Z"⟩
abbrev cX8_item : ByteArray := prog_10_method_51_code
def yX8_item : MethodName := ⟨RX8, "item", "(II)V"⟩
abbrev cX8_extras : ByteArray := prog_10_method_52_code
def yX8_extras : MethodName := ⟨RX8, "extras", "(II)V"⟩
abbrev cX8_items : ByteArray := prog_10_method_53_code
def yX8_items : MethodName := ⟨RX8, "items", "(I)V"⟩
abbrev cX8_isPlain : ByteArray := prog_10_method_54_code
def yX8_isPlain : MethodName := ⟨RX8, "isPlain", "(I)Z"⟩
abbrev cX8_write : ByteArray := prog_10_method_55_code
def yX8_write : MethodName := ⟨RX8, "write", "()I"⟩
abbrev cX8_out : ByteArray := prog_10_method_56_code
def yX8_out : MethodName := ⟨RX8, "out", "(I)I"⟩
abbrev cX8_puts : ByteArray := prog_10_method_57_code
def yX8_puts : MethodName := ⟨RX8, "puts", "(I)V"⟩
abbrev cX8_feed : ByteArray := prog_10_method_58_code
def yX8_feed : MethodName := ⟨RX8, "feed", "(IIIII)I"⟩
abbrev cX8_end : ByteArray := prog_10_method_59_code
def yX8_end : MethodName := ⟨RX8, "end", "(I)I"⟩
abbrev cX8_take_ : ByteArray := prog_10_method_60_code
def yX8_take_ : MethodName := ⟨RX8, "take", "()I"⟩
abbrev cX8_raw : ByteArray := prog_10_method_61_code
def yX8_raw : MethodName := ⟨RX8, "raw", "()I"⟩
abbrev cX8_isBlank : ByteArray := prog_10_method_62_code
def yX8_isBlank : MethodName := ⟨RX8, "isBlank", "(I)Z"⟩
abbrev cX8_numberOf : ByteArray := prog_10_method_63_code
def yX8_numberOf : MethodName := ⟨RX8, "numberOf", "(I)I"⟩
abbrev cX8_readLetters : ByteArray := prog_10_method_64_code
def yX8_readLetters : MethodName := ⟨RX8, "readLetters", "()I"⟩
abbrev cX8_fails : ByteArray := prog_10_method_65_code
def yX8_fails : MethodName := ⟨RX8, "fails", "(II)I"⟩
abbrev cX8_adds : ByteArray := prog_10_method_66_code
def yX8_adds : MethodName := ⟨RX8, "adds", "(I)V"⟩
abbrev cX8_read : ByteArray := prog_10_method_67_code
def yX8_read : MethodName := ⟨RX8, "read", "()I"⟩
abbrev cX8_blanks : ByteArray := prog_10_method_68_code
def yX8_blanks : MethodName := ⟨RX8, "blanks", "()V"⟩
abbrev cX8_reading : ByteArray := prog_10_method_69_code
def yX8_reading : MethodName := ⟨RX8, "reading", "()I"⟩
abbrev cX8_laid : ByteArray := prog_10_method_70_code
def yX8_laid : MethodName := ⟨RX8, "laid", "(I)V"⟩
abbrev cX8_readItems : ByteArray := prog_10_method_71_code
def yX8_readItems : MethodName := ⟨RX8, "readItems", "(I)I"⟩
abbrev cX8_fault : ByteArray := prog_10_method_72_code
def yX8_fault : MethodName := ⟨RX8, "fault", "(I)I"⟩
abbrev cX8_isCopy : ByteArray := prog_10_method_73_code
def yX8_isCopy : MethodName := ⟨RX8, "isCopy", "(I)Z"⟩
abbrev cX8_keep : ByteArray := prog_10_method_74_code
def yX8_keep : MethodName := ⟨RX8, "keep", "(II)V"⟩
abbrev cX8_copy : ByteArray := prog_10_method_75_code
def yX8_copy : MethodName := ⟨RX8, "copy", "(I)Z"⟩
abbrev cX8_code : ByteArray := prog_10_method_76_code
def yX8_code : MethodName := ⟨RX8, "code", "(III)I"⟩
abbrev cX8_areKept : ByteArray := prog_10_method_77_code
def yX8_areKept : MethodName := ⟨RX8, "areKept", "(II)Z"⟩
abbrev cX8_differences : ByteArray := prog_10_method_78_code
def yX8_differences : MethodName := ⟨RX8, "differences", "(III)I"⟩
abbrev cX8_against : ByteArray := prog_10_method_79_code
def yX8_against : MethodName := ⟨RX8, "against", "(II)I"⟩
abbrev cX8_differs : ByteArray := prog_10_method_80_code
def yX8_differs : MethodName := ⟨RX8, "differs", "(IIII)I"⟩
abbrev cX8_makes : ByteArray := prog_10_method_81_code
def yX8_makes : MethodName := ⟨RX8, "makes", "(I)V"⟩
abbrev cX8_makesExtras : ByteArray := prog_10_method_82_code
def yX8_makesExtras : MethodName := ⟨RX8, "makesExtras", "(II)V"⟩
abbrev cX8_ideal : ByteArray := prog_10_method_83_code
def yX8_ideal : MethodName := ⟨RX8, "ideal", "(II)I"⟩
def RJ6 : String := "java/lang/Integer"
def TJ6 : u_T := fun k => match k with
  | _ => ("", "", "", false)
def tyJ6 : Nat → FieldType := fun k => match k with
  | _ => .int
abbrev wsJ60 : List Cond := u_ws RJ6 TJ6 0
theorem nmJ6 : ∀ a, a < 0 → ∀ b, b < 0 → a ≠ b → (TJ6 a).2.1 ≠ (TJ6 b).2.1 := by decide +kernel
theorem tyJ6_ok : ∀ k, k < 0 → parseFieldDescriptor (TJ6 k).2.2.1 = some (tyJ6 k) := by decide +kernel
abbrev cJ6_numberOfTrailingZeros_0f7a4 : ByteArray := prog_11_method_48_code
def yJ6_numberOfTrailingZeros_0f7a4 : MethodName := ⟨RJ6, "numberOfTrailingZeros", "(I)I"⟩
def RJ9 : String := "java/lang/Math"
def TJ9 : u_T := fun k => match k with
  | _ => ("", "", "", false)
def tyJ9 : Nat → FieldType := fun k => match k with
  | _ => .int
abbrev wsJ90 : List Cond := u_ws RJ9 TJ9 0
theorem nmJ9 : ∀ a, a < 0 → ∀ b, b < 0 → a ≠ b → (TJ9 a).2.1 ≠ (TJ9 b).2.1 := by decide +kernel
theorem tyJ9_ok : ∀ k, k < 0 → parseFieldDescriptor (TJ9 k).2.2.1 = some (tyJ9 k) := by decide +kernel
abbrev cJ9_abs_0f7a4 : ByteArray := prog_12_method_59_code
def yJ9_abs_0f7a4 : MethodName := ⟨RJ9, "abs", "(I)I"⟩
abbrev cJ9_max_7cf53 : ByteArray := prog_12_method_65_code
def yJ9_max_7cf53 : MethodName := ⟨RJ9, "max", "(II)I"⟩
abbrev cJ9_min_7cf53 : ByteArray := prog_12_method_69_code
def yJ9_min_7cf53 : MethodName := ⟨RJ9, "min", "(II)I"⟩
def RJ10 : String := "java/lang/System"
def TJ10 : u_T := fun k => match k with
  | _ => ("", "", "", false)
def tyJ10 : Nat → FieldType := fun k => match k with
  | _ => .int
abbrev wsJ100 : List Cond := u_ws RJ10 TJ10 0
theorem nmJ10 : ∀ a, a < 0 → ∀ b, b < 0 → a ≠ b → (TJ10 a).2.1 ≠ (TJ10 b).2.1 := by decide +kernel
theorem tyJ10_ok : ∀ k, k < 0 → parseFieldDescriptor (TJ10 k).2.2.1 = some (tyJ10 k) := by decide +kernel
def RL : String := "QuireDeskLaw"
abbrev cL_law : ByteArray := code
def yL_law : MethodName := ⟨RL, "law", "([I)Z"⟩
abbrev vwCl : List vw_C := [(RX0, TX0, 13), (RX1, TX1, 13), (RX2, TX2, 13), (RX3, TX3, 13), (RX4, TX4, 13), (RX5, TX5, 6), (RX6, TX6, 3), (RX7, TX7, 8), (RX8, TX8, 49)]
end
section
/-! worlds by numbers: a cell's number stands for its address; a static row stands as a float; see NOTES.md -/
def gtb : List Cond := lw_tbl.filter goodWord
theorem gin {ws : List Cond} (ps : List Nat) (hp : ws = ps.filterMap (fun i => lw_tbl[i]?)) (h : ws.all goodWord = true) : ∀ w ∈ ws, w ∈ gtb := by
  intro w hw
  have h1 := List.all_eq_true.mp h w hw
  have h2 := goodIn_r (big := lw_tbl) ws ps hp h w hw
  exact List.mem_filter.mpr ⟨h2.1, h1⟩
theorem gtb_good : ∀ w ∈ gtb, goodWord w = true := fun _ h => (List.mem_filter.mp h).2
def qb (b : Bool) : Int32 := if b then 1 else 0
def inb (i : Int32) (n : Nat) : Bool := decide (0 ≤ i) && decide (i.toNatClampNeg < n)
theorem inb_vp {i : Int32} {n : Nat} (h : inb i n = true) : vp_in i n := by
  simp only [inb, Bool.and_eq_true, decide_eq_true_eq] at h
  intro q
  rcases q with q | q
  · exact absurd q (Int32.not_lt.mpr h.1)
  · omega
def ck {α : Type} (b : Bool) (o : Option α) : Option α := if b then o else none
theorem ck_some {α : Type} {b : Bool} {o : Option α} {x : α} (h : ck b o = some x) : b = true ∧ o = some x := by
  unfold ck at h
  cases b with
  | true => exact ⟨rfl, h⟩
  | false => cases h
abbrev AC : Type := (Nat × vp_A) ⊕ (Nat × List Value)
/-- a value: a number of a cell becomes its address -/
def qv (sA ad : Nat → Nat) : Value → Value
  | .ref k => .ref (ad k)
  | .float j => .ref (sA j.toNat)
  | v => v
def qarr (ad : Nat → Nat) : vp_A → vp_A
  | (n, .inr (.inr (.inr (.inr f)))) => (n, .inr (.inr (.inr (.inr (fun j => (f j).map ad)))))
  | (n, .inl f) => (n, .inl f)
  | (n, .inr (.inl f)) => (n, .inr (.inl f))
  | (n, .inr (.inr (.inl f))) => (n, .inr (.inr (.inl f)))
  | (n, .inr (.inr (.inr (.inl f)))) => (n, .inr (.inr (.inr (.inl f))))
def qc (dA : Nat → ClassId) (sA ad : Nat → Nat) : AC → va_E
  | .inl (t, x) => .inl (dA t, qarr ad x)
  | .inr (ci, fs) => .inr (ci, fs.map (qv sA ad))
def qw (dA : Nat → ClassId) (sA ad : Nat → Nat) (Wd : List AC) : va_W := Wd.mapIdx (fun k c => (ad k, qc dA sA ad c))
theorem qw_get {dA : Nat → ClassId} {sA ad : Nat → Nat} {Wd : List AC} {k : Nat} : (qw dA sA ad Wd)[k]? = (Wd[k]?).map (fun c => (ad k, qc dA sA ad c)) := by
  unfold qw
  rw [List.getElem?_mapIdx]
theorem qw_at {dA : Nat → ClassId} {sA ad : Nat → Nat} {Wd : List AC} {k : Nat} {c : AC} (h : Wd[k]? = some c) : (qw dA sA ad Wd)[k]? = some (ad k, qc dA sA ad c) := by
  rw [qw_get, h]; rfl
theorem qw_set {dA : Nat → ClassId} {sA ad : Nat → Nat} {Wd : List AC} {k : Nat} {c : AC} : (qw dA sA ad Wd).set k (ad k, qc dA sA ad c) = qw dA sA ad (Wd.set k c) := by
  apply List.ext_getElem?
  intro i
  rw [List.getElem?_set, qw_get, qw_get, List.getElem?_set]
  by_cases h : k = i
  · subst h
    by_cases h2 : k < Wd.length
    · have h3 : k < (qw dA sA ad Wd).length := by simp [qw, h2]
      rw [if_pos rfl, if_pos rfl, if_pos h2, if_pos h3]; rfl
    · have h3 : ¬ k < (qw dA sA ad Wd).length := by simp [qw, h2]
      rw [if_pos rfl, if_pos rfl, if_neg h2, if_neg h3]; rfl
  · rw [if_neg h, if_neg h]
theorem qw_len {dA : Nat → ClassId} {sA ad : Nat → Nat} {Wd : List AC} : (qw dA sA ad Wd).length = Wd.length := by simp [qw]
def qtys (dA : Nat → ClassId) : List (ClassId × FieldType) := [(dA 0, .int), (dA 1, .long), (dA 2, .boolean), (dA 3, .object RX5), (dA 4, .object RX0)]
/-- locals -/
abbrev LV : Type := List (Nat × Value)
def qget : LV → Nat → Option Value
  | [], _ => none
  | q :: l, i => if q.1 = i then some q.2 else qget l i
theorem qget_mem : ∀ {lv : LV} {i : Nat} {v : Value}, qget lv i = some v → (i, v) ∈ lv
  | [], _, _, h => by cases h
  | q :: l, i, v, h => by
    unfold qget at h
    by_cases hq : q.1 = i
    · rw [if_pos hq] at h
      have : q.2 = v := Option.some.inj h
      subst hq; subst this
      exact List.mem_cons_self
    · rw [if_neg hq] at h
      exact List.mem_cons_of_mem _ (qget_mem h)
def qlv (sA ad : Nat → Nat) (lv : LV) : LV := lv.map fun q => (q.1, qv sA ad q.2)
def qset (lv : LV) (i : Nat) (v : Value) : LV := (i, v) :: lv.filter (fun q => !(q.1 == i) && !(q.1 + 1 == i && q.2.category == 2))
def qset2 (lv : LV) (i : Nat) (v : Value) : LV := (i, v) :: lv.filter (fun q => !(q.1 == i) && (!(q.1 == i + 1) && !(q.1 + 1 == i && q.2.category == 2)))
theorem qv_cat (sA ad : Nat → Nat) (v : Value) : (qv sA ad v).category = v.category := by cases v <;> rfl
theorem qlv_get {sA ad : Nat → Nat} {lv : LV} {ls : Array Slot} {nL i : Nat} {v : Value} (h : lv_has ls nL (qlv sA ad lv)) (hg : qget lv i = some v) : ls[i]? = some (.val (qv sA ad v)) :=
  h.2.2 (i, qv sA ad v) (List.mem_map.mpr ⟨(i, v), qget_mem hg, rfl⟩)
theorem qlv_set {sA ad : Nat → Nat} {lv : LV} {i : Nat} {v : Value} : (i, qv sA ad v) :: (qlv sA ad lv).filter (fun q => !(q.1 == i) && !(q.1 + 1 == i && q.2.category == 2)) = qlv sA ad (qset lv i v) := by
  unfold qset qlv
  rw [List.map_cons, List.filter_map]
  congr 2
  apply List.filter_congr
  intro q _
  simp only [Function.comp, qv_cat]
theorem qlv_set2 {sA ad : Nat → Nat} {lv : LV} {i : Nat} {v : Value} : (i, qv sA ad v) :: (qlv sA ad lv).filter (fun q => !(q.1 == i) && (!(q.1 == i + 1) && !(q.1 + 1 == i && q.2.category == 2))) = qlv sA ad (qset2 lv i v) := by
  unfold qset2 qlv
  rw [List.map_cons, List.filter_map]
  congr 2
  apply List.filter_congr
  intro q _
  simp only [Function.comp, qv_cat]
theorem qlv_sub {sA ad : Nat → Nat} {lv lv' : LV} {ls : Array Slot} {nL : Nat} (h : lv_has ls nL (qlv sA ad lv)) (hs : lv'.map (fun q => qget lv q.1) = lv'.map (fun q => some q.2)) : lv_has ls nL (qlv sA ad lv') := by
  refine ⟨h.1, h.2.1, fun q hq => ?_⟩
  obtain ⟨r, hr, rfl⟩ := List.mem_map.mp hq
  obtain ⟨k, hk⟩ := List.getElem?_of_mem hr
  have h1 : (lv'.map (fun q => qget lv q.1))[k]? = some (some r.2) := by rw [hs, List.getElem?_map, hk]; rfl
  rw [List.getElem?_map, hk] at h1
  exact qlv_get h (Option.some.inj h1)
/-- the nest's words, which are not among those that keep -/
def qnest : Cond → Bool
  | .fieldLinkNest .. => true
  | .methodLinkNest .. => true
  | _ => false
def ntb : List Cond := lw_tbl.filter qnest
theorem qnest_same {w : Cond} (hq : qnest w = true) {u U : State} (h : u.vm = U.vm) (hZ : va_Nw w u) : va_Nw w U := by
  cases w <;> first | (exact va_Nw.same rfl h hZ) | cases hq
theorem qnest_warm {w : Cond} (hq : qnest w = true) {s U : State} (hW : s.WarmedH U.vm) (hZ : va_Nw w s) : va_Nw w U := by
  cases w <;> first | (exact va_Nw.warmF hW hZ) | (exact va_Nw.warmM hW hZ) | cases hq
theorem ntb_nest {w : Cond} (h : w ∈ ntb) : qnest w = true := (List.mem_filter.mp h).2
theorem nin (i : Nat) {w : Cond} (hp : lw_tbl[i]? = some w) (h : qnest w = true) : w ∈ ntb := List.mem_filter.mpr ⟨List.mem_of_getElem? hp, h⟩
/-- statics: rows that nobody writes -/
def qSt1 (sA : Nat → Nat) (j : Nat) (n d : String) (ty : FieldType) (N : Nat) (f : Nat → Int32) (A : Nat → Prop) (U : State) (H : Heap) : Prop :=
  va_Z "QuireDesk" n d (.ref (sA j)) A U H ∧ va_T ty (sA j) N (fun k => .int (f k)) A U H
def s_mark (k : Nat) : Int32 := ([46, 8, 999, 9999, 9999, 9, 2] : List Int32).getD k 0
def s_low (k : Nat) : Int32 := ([0, 0, 1, 0, 1, 0] : List Int32).getD k 0
def s_top (k : Nat) : Int32 := ([0, 0, 15, 8, 39, 999] : List Int32).getD k 0
def s_abc (k : Nat) : Int32 := ([65, 66, 67, 68, 69, 70, 71, 72, 73, 75, 76, 77, 78, 79, 80, 81, 82, 83, 84, 86, 88, 89, 90] : List Int32).getD k 0
def qSt (sA : Nat → Nat) (A : Nat → Prop) (U : State) (H : Heap) : Prop :=
  qSt1 sA 0 "MARK_TOP" "[I" .int 7 s_mark A U H ∧ qSt1 sA 1 "RULE_LOW" "[I" .int 6 s_low A U H ∧ qSt1 sA 2 "RULE_TOP" "[I" .int 6 s_top A U H ∧ qSt1 sA 3 "ALPHABET" "[C" .char 23 s_abc A U H
theorem qSt1.moved {sA : Nat → Nat} {j : Nat} {n d : String} {ty : FieldType} {N : Nat} {f : Nat → Int32} {A : Nat → Prop} {u U : State} {H : Heap} (hvm : u.vm.Alike U.vm) (h : qSt1 sA j n d ty N f A u H) : qSt1 sA j n d ty N f A U H := ⟨va_Z.moved hvm h.1, h.2.moved hvm⟩
theorem qSt1.kept {sA : Nat → Nat} {j : Nat} {n d : String} {ty : FieldType} {N : Nat} {f : Nat → Int32} {A : Nat → Prop} {U : State} {H H1 : Heap} (h : qSt1 sA j n d ty N f A U H) (hq : ∀ a : Nat, a < H.size → ¬ A a → H1[a]? = H[a]?) : qSt1 sA j n d ty N f A U H1 := ⟨va_Z.kept h.1 hq, h.2.kept hq⟩
theorem qSt1.narrow {sA : Nat → Nat} {j : Nat} {n d : String} {ty : FieldType} {N : Nat} {f : Nat → Int32} {A B : Nat → Prop} {U : State} {H : Heap} (h : qSt1 sA j n d ty N f A U H) (hAB : ∀ q, B q → A q) : qSt1 sA j n d ty N f B U H := ⟨va_Z.narrow h.1 hAB, h.2.narrow hAB⟩
theorem qSt.moved {sA : Nat → Nat} {A : Nat → Prop} {u U : State} {H : Heap} (hvm : u.vm.Alike U.vm) (h : qSt sA A u H) : qSt sA A U H := ⟨h.1.moved hvm, h.2.1.moved hvm, h.2.2.1.moved hvm, h.2.2.2.moved hvm⟩
theorem qSt.kept {sA : Nat → Nat} {A : Nat → Prop} {U : State} {H H1 : Heap} (h : qSt sA A U H) (hq : ∀ a : Nat, a < H.size → ¬ A a → H1[a]? = H[a]?) : qSt sA A U H1 := ⟨h.1.kept hq, h.2.1.kept hq, h.2.2.1.kept hq, h.2.2.2.kept hq⟩
theorem qSt.narrow {sA : Nat → Nat} {A B : Nat → Prop} {U : State} {H : Heap} (h : qSt sA A U H) (hAB : ∀ q, B q → A q) : qSt sA B U H := ⟨h.1.narrow hAB, h.2.1.narrow hAB, h.2.2.1.narrow hAB, h.2.2.2.narrow hAB⟩
end
section
/-- where a method stands: program, launch, environment, room, start, method, arguments, frames below, method, code; class numbers, slots, array classes, statics' addresses, what may change -/
abbrev QX : Type := Program × Launch × Env × Room × State × MethodId × Array Value × List Frame × Method × Code × (Nat → ClassId) × (Nat → Nat → Nat) × (Nat → ClassId) × (Nat → Nat) × (Nat → Prop)
abbrev QX.p (X : QX) : Program := X.1
abbrev QX.l (X : QX) : Launch := X.2.1
abbrev QX.e (X : QX) : Env := X.2.2.1
abbrev QX.R (X : QX) : Room := X.2.2.2.1
abbrev QX.s (X : QX) : State := X.2.2.2.2.1
abbrev QX.m (X : QX) : MethodId := X.2.2.2.2.2.1
abbrev QX.args (X : QX) : Array Value := X.2.2.2.2.2.2.1
abbrev QX.below (X : QX) : List Frame := X.2.2.2.2.2.2.2.1
abbrev QX.meth (X : QX) : Method := X.2.2.2.2.2.2.2.2.1
abbrev QX.c (X : QX) : Code := X.2.2.2.2.2.2.2.2.2.1
abbrev QX.dC (X : QX) : Nat → ClassId := X.2.2.2.2.2.2.2.2.2.2.1
abbrev QX.dI (X : QX) : Nat → Nat → Nat := X.2.2.2.2.2.2.2.2.2.2.2.1
abbrev QX.dA (X : QX) : Nat → ClassId := X.2.2.2.2.2.2.2.2.2.2.2.2.1
abbrev QX.sA (X : QX) : Nat → Nat := X.2.2.2.2.2.2.2.2.2.2.2.2.2.1
abbrev QX.A (X : QX) : Nat → Prop := X.2.2.2.2.2.2.2.2.2.2.2.2.2.2
def qok (X : QX) (cc : ByteArray) (own : String) (nL : Nat) (ret : Option FieldType) (d : Nat) : Prop :=
  X.p.tables.exec = Jvm.exec ∧ X.c.code = cc ∧ X.meth.sig.returnType = ret ∧ X.c.maxLocals = nL ∧ X.s.vm.findClass own = some X.m.cls ∧ (∀ w ∈ gtb, w.before X.args X.s = true) ∧ (∀ w ∈ ntb, va_Nw w X.s) ∧ X.meth.locks = false ∧
  va_K (X.dC, X.dI) vwCl (qtys X.dA) X.s ∧ (∀ q, X.s.heap.size ≤ q → X.A q) ∧ qSt X.sA X.A X.s X.s.heap ∧ d ≤ X.R.frames ∧ 64 * d ≤ X.R.locals
/-- the goal: from here the machine comes to the end that o tells -/
def QG {α : Type} (X : QX) (nL : Nat) (Q : α → State → Prop) (o : Option α) (pc : Nat) (lv : LV) (st : List Value) (Wd : List AC) (ad : Nat → Nat) (cells slots : Nat) : Prop :=
  ∀ x, o = some x → ∀ (H : Heap) (locs : List Loc) (ls : Array Slot), va_P (X.dC, X.dI) vwCl (qw X.dA X.sA ad Wd) H → va_D X.A (qw X.dA X.sA ad Wd) → va_S X.A X.s.heap H locs → lv_has ls nL (qlv X.sA ad lv) →
    W X.p X.l X.e X.R X.s X.m X.args X.below X.meth X.c H locs cells slots (Q x) (F0 X.m pc ls (st.map (qv X.sA ad)))
def qdc (cc : ByteArray) (pc : Nat) (i : Instr) (npc : Nat) : Prop := decode cc pc = .ok (i, npc - pc) ∧ pc ≤ npc
section R1
variable {α : Type} {X : QX} {cc : ByteArray} {own : String} {nL : Nat} {ret : Option FieldType} {d : Nat} {Q : α → State → Prop} {o oT oF : Option α} {pc npc : Nat} {lv : LV} {st : List Value} {Wd : List AC} {ad : Nat → Nat} {cells slots : Nat}
theorem QG.nothing : QG X nL Q (none : Option α) pc lv st Wd ad cells slots := fun _ h => by cases h
theorem QG.chk {b : Bool} (g : b = true → QG X nL Q o pc lv st Wd ad cells slots) : QG X nL Q (ck b o) pc lv st Wd ad cells slots := fun x h => g (ck_some h).1 x (ck_some h).2
theorem QG.jmp {lv' : LV} (hs : lv'.map (fun q => qget lv q.1) = lv'.map (fun q => some q.2)) (g : QG X nL Q o pc lv' st Wd ad cells slots) : QG X nL Q o pc lv st Wd ad cells slots :=
  fun x h H locs ls hP hD hS hl => g x h H locs ls hP hD hS (qlv_sub hl hs)
theorem qdc1 {i : Instr} (h : qdc cc pc i (pc + 1)) : decode cc pc = .ok (i, 1) := by have := h.1; rwa [Nat.add_sub_cancel_left] at this
theorem qdcn {i : Instr} {n : Nat} (h : qdc cc pc i npc) (hn : npc = pc + n) : decode cc pc = .ok (i, n) := by subst hn; have := h.1; rwa [Nat.add_sub_cancel_left] at this
theorem QG.iconst {n : Int} {v : Int32} (hX : qok X cc own nL ret d) (hd : qdc cc pc (.iconst n) npc) (hn : npc = pc + 1) (hv : Int32.ofInt n = v) (g : QG X nL Q o npc lv (.int v :: st) Wd ad cells slots) : QG X nL Q o pc lv st Wd ad cells slots :=
  fun x h H locs ls hP hD hS hl => by subst hn; exact lv_iconst hX.1 hX.2.1 (qdcn hd rfl) hv (g x h H locs ls hP hD hS hl)
theorem QG.bipush {n : Int} {v : Int32} (hX : qok X cc own nL ret d) (hd : qdc cc pc (.bipush n) npc) (hn : npc = pc + 2) (hv : (Int8.ofInt n).toInt32 = v) (g : QG X nL Q o npc lv (.int v :: st) Wd ad cells slots) : QG X nL Q o pc lv st Wd ad cells slots :=
  fun x h H locs ls hP hD hS hl => by subst hn; exact lv_bipush hX.1 hX.2.1 (qdcn hd rfl) hv (g x h H locs ls hP hD hS hl)
theorem QG.sipush {n : Int} {v : Int32} (hX : qok X cc own nL ret d) (hd : qdc cc pc (.sipush n) npc) (hn : npc = pc + 3) (hv : (Int16.ofInt n).toInt32 = v) (g : QG X nL Q o npc lv (.int v :: st) Wd ad cells slots) : QG X nL Q o pc lv st Wd ad cells slots :=
  fun x h H locs ls hP hD hS hl => by subst hn; exact lv_sipush hX.1 hX.2.1 (qdcn hd rfl) hv (g x h H locs ls hP hD hS hl)
theorem QG.lconst {n : Fin 2} {v : Int64} (hX : qok X cc own nL ret d) (hd : qdc cc pc (.lconst n) npc) (hn : npc = pc + 1) (hv : Int64.ofNat (n : Nat) = v) (g : QG X nL Q o npc lv (.long v :: st) Wd ad cells slots) : QG X nL Q o pc lv st Wd ad cells slots :=
  fun x h H locs ls hP hD hS hl => by subst hn; exact lv_lconst hX.1 hX.2.1 (qdcn hd rfl) hv (g x h H locs ls hP hD hS hl)
theorem QG.ldc {idx : Nat} {v : Int32} (hX : qok X cc own nL ret d) (hw : Cond.constant own idx v ∈ gtb) (hd : qdc cc pc (.ldc idx) npc) (hn : npc = pc + 2) (g : QG X nL Q o npc lv (.int v :: st) Wd ad cells slots) : QG X nL Q o pc lv st Wd ad cells slots :=
  fun x h H locs ls hP hD hS hl => by subst hn; exact lv_ldc hX.1 hX.2.1 hX.2.2.2.2.1 (hX.2.2.2.2.2.1 _ hw) (qdcn hd rfl) (g x h H locs ls hP hD hS hl)
theorem QG.ldcw {idx : Nat} {v : Int32} (hX : qok X cc own nL ret d) (hw : Cond.constant own idx v ∈ gtb) (hd : qdc cc pc (.ldc_w idx) npc) (hn : npc = pc + 3) (g : QG X nL Q o npc lv (.int v :: st) Wd ad cells slots) : QG X nL Q o pc lv st Wd ad cells slots :=
  fun x h H locs ls hP hD hS hl => by subst hn; exact lv_ldcw hX.1 hX.2.1 hX.2.2.2.2.1 (hX.2.2.2.2.2.1 _ hw) (qdcn hd rfl) (g x h H locs ls hP hD hS hl)
theorem QG.ldc2 {idx : Nat} {v : Int64} (hX : qok X cc own nL ret d) (hw : Cond.constantLong own idx v ∈ gtb) (hd : qdc cc pc (.ldc2_w idx) npc) (hn : npc = pc + 3) (g : QG X nL Q o npc lv (.long v :: st) Wd ad cells slots) : QG X nL Q o pc lv st Wd ad cells slots :=
  fun x h H locs ls hP hD hS hl => by subst hn; exact lv_ldc2 hX.1 hX.2.1 hX.2.2.2.2.1 (hX.2.2.2.2.2.1 _ hw) (qdcn hd rfl) (g x h H locs ls hP hD hS hl)
theorem QG.nul (hX : qok X cc own nL ret d) (hd : qdc cc pc .aconst_null npc) (hn : npc = pc + 1) (g : QG X nL Q o npc lv (.null :: st) Wd ad cells slots) : QG X nL Q o pc lv st Wd ad cells slots :=
  fun x h H locs ls hP hD hS hl => by subst hn; exact lv_null hX.1 hX.2.1 (qdcn hd rfl) (g x h H locs ls hP hD hS hl)
theorem QG.iload_n {k : Fin 4} {y : Int32} (hX : qok X cc own nL ret d) (hd : qdc cc pc (.iload_n k) npc) (hn : npc = pc + 1) (hg : qget lv (k : Nat) = some (.int y)) (g : QG X nL Q o npc lv (.int y :: st) Wd ad cells slots) : QG X nL Q o pc lv st Wd ad cells slots :=
  fun x h H locs ls hP hD hS hl => by subst hn; exact lv_iload_n hX.1 hX.2.1 (qdcn hd rfl) rfl (qlv_get hl hg) (g x h H locs ls hP hD hS hl)
theorem QG.iload {k : Nat} {y : Int32} (hX : qok X cc own nL ret d) (hd : qdc cc pc (.iload k) npc) (hn : npc = pc + 2) (hg : qget lv k = some (.int y)) (g : QG X nL Q o npc lv (.int y :: st) Wd ad cells slots) : QG X nL Q o pc lv st Wd ad cells slots :=
  fun x h H locs ls hP hD hS hl => by subst hn; exact lv_iload hX.1 hX.2.1 (qdcn hd rfl) (qlv_get hl hg) (g x h H locs ls hP hD hS hl)
theorem QG.lload_n {k : Fin 4} {y : Int64} (hX : qok X cc own nL ret d) (hd : qdc cc pc (.lload_n k) npc) (hn : npc = pc + 1) (hg : qget lv (k : Nat) = some (.long y)) (g : QG X nL Q o npc lv (.long y :: st) Wd ad cells slots) : QG X nL Q o pc lv st Wd ad cells slots :=
  fun x h H locs ls hP hD hS hl => by subst hn; exact lv_lload_n hX.1 hX.2.1 (qdcn hd rfl) rfl (qlv_get hl hg) (g x h H locs ls hP hD hS hl)
theorem QG.lload {k : Nat} {y : Int64} (hX : qok X cc own nL ret d) (hd : qdc cc pc (.lload k) npc) (hn : npc = pc + 2) (hg : qget lv k = some (.long y)) (g : QG X nL Q o npc lv (.long y :: st) Wd ad cells slots) : QG X nL Q o pc lv st Wd ad cells slots :=
  fun x h H locs ls hP hD hS hl => by subst hn; exact lv_lload hX.1 hX.2.1 (qdcn hd rfl) (qlv_get hl hg) (g x h H locs ls hP hD hS hl)
theorem QG.aload_n {k : Fin 4} {y : Nat} (hX : qok X cc own nL ret d) (hd : qdc cc pc (.aload_n k) npc) (hn : npc = pc + 1) (hg : qget lv (k : Nat) = some (.ref y)) (g : QG X nL Q o npc lv (.ref y :: st) Wd ad cells slots) : QG X nL Q o pc lv st Wd ad cells slots :=
  fun x h H locs ls hP hD hS hl => by subst hn; exact lv_aload_n hX.1 hX.2.1 (qdcn hd rfl) rfl (qlv_get hl hg) (g x h H locs ls hP hD hS hl)
theorem QG.aload {k : Nat} {y : Nat} (hX : qok X cc own nL ret d) (hd : qdc cc pc (.aload k) npc) (hn : npc = pc + 2) (hg : qget lv k = some (.ref y)) (g : QG X nL Q o npc lv (.ref y :: st) Wd ad cells slots) : QG X nL Q o pc lv st Wd ad cells slots :=
  fun x h H locs ls hP hD hS hl => by subst hn; exact lv_aload hX.1 hX.2.1 (qdcn hd rfl) (qlv_get hl hg) (g x h H locs ls hP hD hS hl)
theorem QG.aload_ns {k : Fin 4} {y : UInt32} (hX : qok X cc own nL ret d) (hd : qdc cc pc (.aload_n k) npc) (hn : npc = pc + 1) (hg : qget lv (k : Nat) = some (.float y)) (g : QG X nL Q o npc lv (.float y :: st) Wd ad cells slots) : QG X nL Q o pc lv st Wd ad cells slots :=
  fun x h H locs ls hP hD hS hl => by subst hn; exact lv_aload_n hX.1 hX.2.1 (qdcn hd rfl) rfl (qlv_get hl hg) (g x h H locs ls hP hD hS hl)
theorem QG.aload_nN {k : Fin 4} (hX : qok X cc own nL ret d) (hd : qdc cc pc (.aload_n k) npc) (hn : npc = pc + 1) (hg : qget lv (k : Nat) = some .null) (g : QG X nL Q o npc lv (.null :: st) Wd ad cells slots) : QG X nL Q o pc lv st Wd ad cells slots :=
  fun x h H locs ls hP hD hS hl => by subst hn; exact lv_aload_nN hX.1 hX.2.1 (qdcn hd rfl) rfl (qlv_get hl hg) (g x h H locs ls hP hD hS hl)
theorem QG.aloadN {k : Nat} (hX : qok X cc own nL ret d) (hd : qdc cc pc (.aload k) npc) (hn : npc = pc + 2) (hg : qget lv k = some .null) (g : QG X nL Q o npc lv (.null :: st) Wd ad cells slots) : QG X nL Q o pc lv st Wd ad cells slots :=
  fun x h H locs ls hP hD hS hl => by subst hn; exact lv_aloadN hX.1 hX.2.1 (qdcn hd rfl) (qlv_get hl hg) (g x h H locs ls hP hD hS hl)
theorem QG.istore_n {k : Fin 4} {y : Int32} (hX : qok X cc own nL ret d) (hd : qdc cc pc (.istore_n k) npc) (hn : npc = pc + 1) (hk : (k : Nat) < nL) {lv' : LV} (hs : qset lv k (.int y) = lv') (g : QG X nL Q o npc lv' st Wd ad cells slots) : QG X nL Q o pc lv (.int y :: st) Wd ad cells slots :=
  fun x h H locs ls hP hD hS hl => by subst hn; subst hs; exact lv_istore_n hX.1 hX.2.1 (qdcn hd rfl) rfl hl hk (qlv_set (v := .int y)) fun ls' hl' => g x h H locs ls' hP hD hS hl'
theorem QG.istore {k : Nat} {y : Int32} (hX : qok X cc own nL ret d) (hd : qdc cc pc (.istore k) npc) (hn : npc = pc + 2) (hk : k < nL) {lv' : LV} (hs : qset lv k (.int y) = lv') (g : QG X nL Q o npc lv' st Wd ad cells slots) : QG X nL Q o pc lv (.int y :: st) Wd ad cells slots :=
  fun x h H locs ls hP hD hS hl => by subst hn; subst hs; exact lv_istore hX.1 hX.2.1 (qdcn hd rfl) hl hk (qlv_set (v := .int y)) fun ls' hl' => g x h H locs ls' hP hD hS hl'
theorem QG.lstore_n {k : Fin 4} {y : Int64} (hX : qok X cc own nL ret d) (hd : qdc cc pc (.lstore_n k) npc) (hn : npc = pc + 1) (hk : (k : Nat) + 1 < nL) {lv' : LV} (hs : qset2 lv k (.long y) = lv') (g : QG X nL Q o npc lv' st Wd ad cells slots) : QG X nL Q o pc lv (.long y :: st) Wd ad cells slots :=
  fun x h H locs ls hP hD hS hl => by subst hn; subst hs; exact lv_lstore_n hX.1 hX.2.1 (qdcn hd rfl) rfl hl hk (qlv_set2 (v := .long y)) fun ls' hl' => g x h H locs ls' hP hD hS hl'
theorem QG.lstore {k : Nat} {y : Int64} (hX : qok X cc own nL ret d) (hd : qdc cc pc (.lstore k) npc) (hn : npc = pc + 2) (hk : k + 1 < nL) {lv' : LV} (hs : qset2 lv k (.long y) = lv') (g : QG X nL Q o npc lv' st Wd ad cells slots) : QG X nL Q o pc lv (.long y :: st) Wd ad cells slots :=
  fun x h H locs ls hP hD hS hl => by subst hn; subst hs; exact lv_lstore hX.1 hX.2.1 (qdcn hd rfl) hl hk (qlv_set2 (v := .long y)) fun ls' hl' => g x h H locs ls' hP hD hS hl'
theorem QG.astore_n {k : Fin 4} {y : Nat} (hX : qok X cc own nL ret d) (hd : qdc cc pc (.astore_n k) npc) (hn : npc = pc + 1) (hk : (k : Nat) < nL) {lv' : LV} (hs : qset lv k (.ref y) = lv') (g : QG X nL Q o npc lv' st Wd ad cells slots) : QG X nL Q o pc lv (.ref y :: st) Wd ad cells slots :=
  fun x h H locs ls hP hD hS hl => by subst hn; subst hs; exact lv_astore_n hX.1 hX.2.1 (qdcn hd rfl) rfl hl hk (qlv_set (v := .ref y)) fun ls' hl' => g x h H locs ls' hP hD hS hl'
theorem QG.astore {k : Nat} {y : Nat} (hX : qok X cc own nL ret d) (hd : qdc cc pc (.astore k) npc) (hn : npc = pc + 2) (hk : k < nL) {lv' : LV} (hs : qset lv k (.ref y) = lv') (g : QG X nL Q o npc lv' st Wd ad cells slots) : QG X nL Q o pc lv (.ref y :: st) Wd ad cells slots :=
  fun x h H locs ls hP hD hS hl => by subst hn; subst hs; exact lv_astore hX.1 hX.2.1 (qdcn hd rfl) hl hk (qlv_set (v := .ref y)) fun ls' hl' => g x h H locs ls' hP hD hS hl'
theorem QG.astore_nN {k : Fin 4} (hX : qok X cc own nL ret d) (hd : qdc cc pc (.astore_n k) npc) (hn : npc = pc + 1) (hk : (k : Nat) < nL) {lv' : LV} (hs : qset lv k .null = lv') (g : QG X nL Q o npc lv' st Wd ad cells slots) : QG X nL Q o pc lv (.null :: st) Wd ad cells slots :=
  fun x h H locs ls hP hD hS hl => by subst hn; subst hs; exact lv_astore_nN hX.1 hX.2.1 (qdcn hd rfl) rfl hl hk (qlv_set (v := .null)) fun ls' hl' => g x h H locs ls' hP hD hS hl'
theorem QG.astoreN {k : Nat} (hX : qok X cc own nL ret d) (hd : qdc cc pc (.astore k) npc) (hn : npc = pc + 2) (hk : k < nL) {lv' : LV} (hs : qset lv k .null = lv') (g : QG X nL Q o npc lv' st Wd ad cells slots) : QG X nL Q o pc lv (.null :: st) Wd ad cells slots :=
  fun x h H locs ls hP hD hS hl => by subst hn; subst hs; exact lv_astoreN hX.1 hX.2.1 (qdcn hd rfl) hl hk (qlv_set (v := .null)) fun ls' hl' => g x h H locs ls' hP hD hS hl'
theorem QG.iinc {k : Nat} {n : Int} {y v : Int32} (hX : qok X cc own nL ret d) (hd : qdc cc pc (.iinc k n) npc) (hn : npc = pc + 3) (hk : k < nL) (hg : qget lv k = some (.int y)) (hv : Int32.ofInt n = v) {lv' : LV} (hs : qset lv k (.int (y + v)) = lv') (g : QG X nL Q o npc lv' st Wd ad cells slots) : QG X nL Q o pc lv st Wd ad cells slots :=
  fun x h H locs ls hP hD hS hl => by
    subst hn; subst hs; subst hv
    obtain ⟨j, hj⟩ := List.getElem?_of_mem (List.mem_map.mpr ⟨(k, .int y), qget_mem hg, rfl⟩ : (k, Value.int y) ∈ qlv X.sA ad lv)
    exact lv_iinc hX.1 hX.2.1 (qdcn hd rfl) hl hj rfl hk (qlv_set (v := .int (y + Int32.ofInt n))) fun ls' hl' => g x h H locs ls' hP hD hS hl'
theorem QG.iadd {y z : Int32} (hX : qok X cc own nL ret d) (hd : qdc cc pc .iadd npc) (hn : npc = pc + 1) (g : QG X nL Q o npc lv (.int (y + z) :: st) Wd ad cells slots) : QG X nL Q o pc lv (.int z :: .int y :: st) Wd ad cells slots :=
  fun x h H locs ls hP hD hS hl => by subst hn; exact lv_iadd hX.1 hX.2.1 (qdcn hd rfl) (g x h H locs ls hP hD hS hl)
theorem QG.isub {y z : Int32} (hX : qok X cc own nL ret d) (hd : qdc cc pc .isub npc) (hn : npc = pc + 1) (g : QG X nL Q o npc lv (.int (y - z) :: st) Wd ad cells slots) : QG X nL Q o pc lv (.int z :: .int y :: st) Wd ad cells slots :=
  fun x h H locs ls hP hD hS hl => by subst hn; exact lv_isub hX.1 hX.2.1 (qdcn hd rfl) (g x h H locs ls hP hD hS hl)
theorem QG.imul {y z : Int32} (hX : qok X cc own nL ret d) (hd : qdc cc pc .imul npc) (hn : npc = pc + 1) (g : QG X nL Q o npc lv (.int (y * z) :: st) Wd ad cells slots) : QG X nL Q o pc lv (.int z :: .int y :: st) Wd ad cells slots :=
  fun x h H locs ls hP hD hS hl => by subst hn; exact lv_imul hX.1 hX.2.1 (qdcn hd rfl) (g x h H locs ls hP hD hS hl)
theorem QG.iand {y z : Int32} (hX : qok X cc own nL ret d) (hd : qdc cc pc .iand npc) (hn : npc = pc + 1) (g : QG X nL Q o npc lv (.int (y &&& z) :: st) Wd ad cells slots) : QG X nL Q o pc lv (.int z :: .int y :: st) Wd ad cells slots :=
  fun x h H locs ls hP hD hS hl => by subst hn; exact lv_iand hX.1 hX.2.1 (qdcn hd rfl) (g x h H locs ls hP hD hS hl)
theorem QG.ior {y z : Int32} (hX : qok X cc own nL ret d) (hd : qdc cc pc .ior npc) (hn : npc = pc + 1) (g : QG X nL Q o npc lv (.int (y ||| z) :: st) Wd ad cells slots) : QG X nL Q o pc lv (.int z :: .int y :: st) Wd ad cells slots :=
  fun x h H locs ls hP hD hS hl => by subst hn; exact lv_ior hX.1 hX.2.1 (qdcn hd rfl) (g x h H locs ls hP hD hS hl)
theorem QG.ixor {y z : Int32} (hX : qok X cc own nL ret d) (hd : qdc cc pc .ixor npc) (hn : npc = pc + 1) (g : QG X nL Q o npc lv (.int (y ^^^ z) :: st) Wd ad cells slots) : QG X nL Q o pc lv (.int z :: .int y :: st) Wd ad cells slots :=
  fun x h H locs ls hP hD hS hl => by subst hn; exact lv_ixor hX.1 hX.2.1 (qdcn hd rfl) (g x h H locs ls hP hD hS hl)
theorem QG.ishl {y z : Int32} (hX : qok X cc own nL ret d) (hd : qdc cc pc .ishl npc) (hn : npc = pc + 1) (g : QG X nL Q o npc lv (.int (y <<< (z &&& 31)) :: st) Wd ad cells slots) : QG X nL Q o pc lv (.int z :: .int y :: st) Wd ad cells slots :=
  fun x h H locs ls hP hD hS hl => by subst hn; exact lv_ishl hX.1 hX.2.1 (qdcn hd rfl) (g x h H locs ls hP hD hS hl)
theorem QG.ishr {y z : Int32} (hX : qok X cc own nL ret d) (hd : qdc cc pc .ishr npc) (hn : npc = pc + 1) (g : QG X nL Q o npc lv (.int (y >>> (z &&& 31)) :: st) Wd ad cells slots) : QG X nL Q o pc lv (.int z :: .int y :: st) Wd ad cells slots :=
  fun x h H locs ls hP hD hS hl => by subst hn; exact lv_ishr hX.1 hX.2.1 (qdcn hd rfl) (g x h H locs ls hP hD hS hl)
theorem QG.ladd {y z : Int64} (hX : qok X cc own nL ret d) (hd : qdc cc pc .ladd npc) (hn : npc = pc + 1) (g : QG X nL Q o npc lv (.long (y + z) :: st) Wd ad cells slots) : QG X nL Q o pc lv (.long z :: .long y :: st) Wd ad cells slots :=
  fun x h H locs ls hP hD hS hl => by subst hn; exact lv_ladd hX.1 hX.2.1 (qdcn hd rfl) (g x h H locs ls hP hD hS hl)
theorem QG.lsub {y z : Int64} (hX : qok X cc own nL ret d) (hd : qdc cc pc .lsub npc) (hn : npc = pc + 1) (g : QG X nL Q o npc lv (.long (y - z) :: st) Wd ad cells slots) : QG X nL Q o pc lv (.long z :: .long y :: st) Wd ad cells slots :=
  fun x h H locs ls hP hD hS hl => by subst hn; exact lv_lsub hX.1 hX.2.1 (qdcn hd rfl) (g x h H locs ls hP hD hS hl)
theorem QG.lmul {y z : Int64} (hX : qok X cc own nL ret d) (hd : qdc cc pc .lmul npc) (hn : npc = pc + 1) (g : QG X nL Q o npc lv (.long (y * z) :: st) Wd ad cells slots) : QG X nL Q o pc lv (.long z :: .long y :: st) Wd ad cells slots :=
  fun x h H locs ls hP hD hS hl => by subst hn; exact lv_lmul hX.1 hX.2.1 (qdcn hd rfl) (g x h H locs ls hP hD hS hl)
theorem QG.land {y z : Int64} (hX : qok X cc own nL ret d) (hd : qdc cc pc .land npc) (hn : npc = pc + 1) (g : QG X nL Q o npc lv (.long (y &&& z) :: st) Wd ad cells slots) : QG X nL Q o pc lv (.long z :: .long y :: st) Wd ad cells slots :=
  fun x h H locs ls hP hD hS hl => by subst hn; exact lv_land hX.1 hX.2.1 (qdcn hd rfl) (g x h H locs ls hP hD hS hl)
theorem QG.lor {y z : Int64} (hX : qok X cc own nL ret d) (hd : qdc cc pc .lor npc) (hn : npc = pc + 1) (g : QG X nL Q o npc lv (.long (y ||| z) :: st) Wd ad cells slots) : QG X nL Q o pc lv (.long z :: .long y :: st) Wd ad cells slots :=
  fun x h H locs ls hP hD hS hl => by subst hn; exact lv_lor hX.1 hX.2.1 (qdcn hd rfl) (g x h H locs ls hP hD hS hl)
theorem QG.iushr {y z : Int32} (hX : qok X cc own nL ret d) (hd : qdc cc pc .iushr npc) (hn : npc = pc + 1) (g : QG X nL Q o npc lv (.int ((y.toUInt32 >>> (z.toUInt32 &&& Int32.toUInt32 31)).toInt32) :: st) Wd ad cells slots) : QG X nL Q o pc lv (.int z :: .int y :: st) Wd ad cells slots :=
  fun x h H locs ls hP hD hS hl => by subst hn; exact lv_iushr hX.1 hX.2.1 (qdcn hd rfl) rfl (g x h H locs ls hP hD hS hl)
theorem QG.lshl {y : Int64} {z : Int32} (hX : qok X cc own nL ret d) (hd : qdc cc pc .lshl npc) (hn : npc = pc + 1) (g : QG X nL Q o npc lv (.long (y <<< (z.toInt64 &&& 63)) :: st) Wd ad cells slots) : QG X nL Q o pc lv (.int z :: .long y :: st) Wd ad cells slots :=
  fun x h H locs ls hP hD hS hl => by subst hn; exact lv_lshl hX.1 hX.2.1 (qdcn hd rfl) rfl (g x h H locs ls hP hD hS hl)
theorem QG.ineg {y : Int32} (hX : qok X cc own nL ret d) (hd : qdc cc pc .ineg npc) (hn : npc = pc + 1) (g : QG X nL Q o npc lv (.int (-y) :: st) Wd ad cells slots) : QG X nL Q o pc lv (.int y :: st) Wd ad cells slots :=
  fun x h H locs ls hP hD hS hl => by subst hn; exact lv_ineg hX.1 hX.2.1 (qdcn hd rfl) (g x h H locs ls hP hD hS hl)
theorem QG.i2l {y : Int32} (hX : qok X cc own nL ret d) (hd : qdc cc pc .i2l npc) (hn : npc = pc + 1) (g : QG X nL Q o npc lv (.long y.toInt64 :: st) Wd ad cells slots) : QG X nL Q o pc lv (.int y :: st) Wd ad cells slots :=
  fun x h H locs ls hP hD hS hl => by subst hn; exact lv_i2l hX.1 hX.2.1 (qdcn hd rfl) rfl (g x h H locs ls hP hD hS hl)
theorem QG.lcmp {y z : Int64} (hX : qok X cc own nL ret d) (hd : qdc cc pc .lcmp npc) (hn : npc = pc + 1) (g : QG X nL Q o npc lv (.int (lg_cmp y z) :: st) Wd ad cells slots) : QG X nL Q o pc lv (.long z :: .long y :: st) Wd ad cells slots :=
  fun x h H locs ls hP hD hS hl => by subst hn; exact W.lcmp hX.1 hX.2.1 (qdcn hd rfl) (g x h H locs ls hP hD hS hl)
theorem QG.idiv {y z : Int32} (hX : qok X cc own nL ret d) (hd : qdc cc pc .idiv npc) (hn : npc = pc + 1) (g : QG X nL Q o npc lv (.int (y / z) :: st) Wd ad cells slots) : QG X nL Q (if z = 0 then none else o) pc lv (.int z :: .int y :: st) Wd ad cells slots :=
  fun x h H locs ls hP hD hS hl => by
    subst hn
    by_cases hz : z = 0
    · rw [if_pos hz] at h; cases h
    · rw [if_neg hz] at h
      exact lv_idiv hX.1 hX.2.1 (qdcn hd rfl) hz (g x h H locs ls hP hD hS hl)
theorem QG.irem {y z : Int32} (hX : qok X cc own nL ret d) (hd : qdc cc pc .irem npc) (hn : npc = pc + 1) (g : QG X nL Q o npc lv (.int (y - y / z * z) :: st) Wd ad cells slots) : QG X nL Q (if z = 0 then none else o) pc lv (.int z :: .int y :: st) Wd ad cells slots :=
  fun x h H locs ls hP hD hS hl => by
    subst hn
    by_cases hz : z = 0
    · rw [if_pos hz] at h; cases h
    · rw [if_neg hz] at h
      exact lv_irem hX.1 hX.2.1 (qdcn hd rfl) hz (g x h H locs ls hP hD hS hl)
theorem QG.idivK {y z : Int32} (hX : qok X cc own nL ret d) (hd : qdc cc pc .idiv npc) (hn : npc = pc + 1) (hz : ¬ z = 0) (g : QG X nL Q o npc lv (.int (y / z) :: st) Wd ad cells slots) : QG X nL Q o pc lv (.int z :: .int y :: st) Wd ad cells slots :=
  fun x h H locs ls hP hD hS hl => by subst hn; exact lv_idiv hX.1 hX.2.1 (qdcn hd rfl) hz (g x h H locs ls hP hD hS hl)
theorem QG.iremK {y z : Int32} (hX : qok X cc own nL ret d) (hd : qdc cc pc .irem npc) (hn : npc = pc + 1) (hz : ¬ z = 0) (g : QG X nL Q o npc lv (.int (y - y / z * z) :: st) Wd ad cells slots) : QG X nL Q o pc lv (.int z :: .int y :: st) Wd ad cells slots :=
  fun x h H locs ls hP hD hS hl => by subst hn; exact lv_irem hX.1 hX.2.1 (qdcn hd rfl) hz (g x h H locs ls hP hD hS hl)
theorem QG.dup {y : Value} (hX : qok X cc own nL ret d) (hd : qdc cc pc .dup npc) (hn : npc = pc + 1) (hc : y.category = 1) (g : QG X nL Q o npc lv (y :: y :: st) Wd ad cells slots) : QG X nL Q o pc lv (y :: st) Wd ad cells slots :=
  fun x h H locs ls hP hD hS hl => by subst hn; exact lv_dup hX.1 hX.2.1 (qdcn hd rfl) ((qv_cat X.sA ad y).trans hc) (g x h H locs ls hP hD hS hl)
theorem QG.pop {y : Value} (hX : qok X cc own nL ret d) (hd : qdc cc pc .pop npc) (hn : npc = pc + 1) (hc : y.category = 1) (g : QG X nL Q o npc lv st Wd ad cells slots) : QG X nL Q o pc lv (y :: st) Wd ad cells slots :=
  fun x h H locs ls hP hD hS hl => by subst hn; exact lv_pop hX.1 hX.2.1 (qdcn hd rfl) ((qv_cat X.sA ad y).trans hc) (g x h H locs ls hP hD hS hl)
theorem QG.dup2 {y z : Value} (hX : qok X cc own nL ret d) (hd : qdc cc pc .dup2 npc) (hn : npc = pc + 1) (hc : y.category = 1) (hz : z.category = 1) (g : QG X nL Q o npc lv (y :: z :: y :: z :: st) Wd ad cells slots) : QG X nL Q o pc lv (y :: z :: st) Wd ad cells slots :=
  fun x h H locs ls hP hD hS hl => by subst hn; exact lv_dup2_11 hX.1 hX.2.1 (qdcn hd rfl) ((qv_cat X.sA ad y).trans hc) ((qv_cat X.sA ad z).trans hz) (g x h H locs ls hP hD hS hl)
theorem QG.if_eq {y : Int32} {off : Int} {tgt : Nat} (hX : qok X cc own nL ret d) (hd : qdc cc pc (.ifCond .eq off) npc) (hn : npc = pc + 3) (ht : (pc : Int) + off = (tgt : Int)) (gT : QG X nL Q oT tgt lv st Wd ad cells slots) (gF : QG X nL Q oF npc lv st Wd ad cells slots) : QG X nL Q (if y = 0 then oT else oF) pc lv (.int y :: st) Wd ad cells slots :=
  fun x h H locs ls hP hD hS hl => by subst hn; exact lv_if_eq hX.1 hX.2.1 (qdcn hd rfl) ht (fun c => by rw [if_pos c] at h; exact gT x h H locs ls hP hD hS hl) (fun c => by rw [if_neg c] at h; exact gF x h H locs ls hP hD hS hl)
theorem QG.icmp_eq {y z : Int32} {off : Int} {tgt : Nat} (hX : qok X cc own nL ret d) (hd : qdc cc pc (.if_icmp .eq off) npc) (hn : npc = pc + 3) (ht : (pc : Int) + off = (tgt : Int)) (gT : QG X nL Q oT tgt lv st Wd ad cells slots) (gF : QG X nL Q oF npc lv st Wd ad cells slots) : QG X nL Q (if y = z then oT else oF) pc lv (.int z :: .int y :: st) Wd ad cells slots :=
  fun x h H locs ls hP hD hS hl => by subst hn; exact lv_icmp_eq hX.1 hX.2.1 (qdcn hd rfl) ht (fun c => by rw [if_pos c] at h; exact gT x h H locs ls hP hD hS hl) (fun c => by rw [if_neg c] at h; exact gF x h H locs ls hP hD hS hl)
theorem QG.if_ne {y : Int32} {off : Int} {tgt : Nat} (hX : qok X cc own nL ret d) (hd : qdc cc pc (.ifCond .ne off) npc) (hn : npc = pc + 3) (ht : (pc : Int) + off = (tgt : Int)) (gT : QG X nL Q oT tgt lv st Wd ad cells slots) (gF : QG X nL Q oF npc lv st Wd ad cells slots) : QG X nL Q (if y = 0 then oF else oT) pc lv (.int y :: st) Wd ad cells slots :=
  fun x h H locs ls hP hD hS hl => by subst hn; exact lv_if_ne hX.1 hX.2.1 (qdcn hd rfl) ht (fun c => by rw [if_neg c] at h; exact gT x h H locs ls hP hD hS hl) (fun c => by rw [if_pos c] at h; exact gF x h H locs ls hP hD hS hl)
theorem QG.icmp_ne {y z : Int32} {off : Int} {tgt : Nat} (hX : qok X cc own nL ret d) (hd : qdc cc pc (.if_icmp .ne off) npc) (hn : npc = pc + 3) (ht : (pc : Int) + off = (tgt : Int)) (gT : QG X nL Q oT tgt lv st Wd ad cells slots) (gF : QG X nL Q oF npc lv st Wd ad cells slots) : QG X nL Q (if y = z then oF else oT) pc lv (.int z :: .int y :: st) Wd ad cells slots :=
  fun x h H locs ls hP hD hS hl => by subst hn; exact lv_icmp_ne hX.1 hX.2.1 (qdcn hd rfl) ht (fun c => by rw [if_neg c] at h; exact gT x h H locs ls hP hD hS hl) (fun c => by rw [if_pos c] at h; exact gF x h H locs ls hP hD hS hl)
theorem QG.if_lt {y : Int32} {off : Int} {tgt : Nat} (hX : qok X cc own nL ret d) (hd : qdc cc pc (.ifCond .lt off) npc) (hn : npc = pc + 3) (ht : (pc : Int) + off = (tgt : Int)) (gT : QG X nL Q oT tgt lv st Wd ad cells slots) (gF : QG X nL Q oF npc lv st Wd ad cells slots) : QG X nL Q (if y < 0 then oT else oF) pc lv (.int y :: st) Wd ad cells slots :=
  fun x h H locs ls hP hD hS hl => by subst hn; exact lv_if_lt hX.1 hX.2.1 (qdcn hd rfl) ht (fun c => by rw [if_pos c] at h; exact gT x h H locs ls hP hD hS hl) (fun c => by rw [if_neg c] at h; exact gF x h H locs ls hP hD hS hl)
theorem QG.icmp_lt {y z : Int32} {off : Int} {tgt : Nat} (hX : qok X cc own nL ret d) (hd : qdc cc pc (.if_icmp .lt off) npc) (hn : npc = pc + 3) (ht : (pc : Int) + off = (tgt : Int)) (gT : QG X nL Q oT tgt lv st Wd ad cells slots) (gF : QG X nL Q oF npc lv st Wd ad cells slots) : QG X nL Q (if y < z then oT else oF) pc lv (.int z :: .int y :: st) Wd ad cells slots :=
  fun x h H locs ls hP hD hS hl => by subst hn; exact lv_icmp_lt hX.1 hX.2.1 (qdcn hd rfl) ht (fun c => by rw [if_pos c] at h; exact gT x h H locs ls hP hD hS hl) (fun c => by rw [if_neg c] at h; exact gF x h H locs ls hP hD hS hl)
theorem QG.if_ge {y : Int32} {off : Int} {tgt : Nat} (hX : qok X cc own nL ret d) (hd : qdc cc pc (.ifCond .ge off) npc) (hn : npc = pc + 3) (ht : (pc : Int) + off = (tgt : Int)) (gT : QG X nL Q oT tgt lv st Wd ad cells slots) (gF : QG X nL Q oF npc lv st Wd ad cells slots) : QG X nL Q (if 0 ≤ y then oT else oF) pc lv (.int y :: st) Wd ad cells slots :=
  fun x h H locs ls hP hD hS hl => by subst hn; exact lv_if_ge hX.1 hX.2.1 (qdcn hd rfl) ht (fun c => by rw [if_pos c] at h; exact gT x h H locs ls hP hD hS hl) (fun c => by rw [if_neg c] at h; exact gF x h H locs ls hP hD hS hl)
theorem QG.icmp_ge {y z : Int32} {off : Int} {tgt : Nat} (hX : qok X cc own nL ret d) (hd : qdc cc pc (.if_icmp .ge off) npc) (hn : npc = pc + 3) (ht : (pc : Int) + off = (tgt : Int)) (gT : QG X nL Q oT tgt lv st Wd ad cells slots) (gF : QG X nL Q oF npc lv st Wd ad cells slots) : QG X nL Q (if z ≤ y then oT else oF) pc lv (.int z :: .int y :: st) Wd ad cells slots :=
  fun x h H locs ls hP hD hS hl => by subst hn; exact lv_icmp_ge hX.1 hX.2.1 (qdcn hd rfl) ht (fun c => by rw [if_pos c] at h; exact gT x h H locs ls hP hD hS hl) (fun c => by rw [if_neg c] at h; exact gF x h H locs ls hP hD hS hl)
theorem QG.if_gt {y : Int32} {off : Int} {tgt : Nat} (hX : qok X cc own nL ret d) (hd : qdc cc pc (.ifCond .gt off) npc) (hn : npc = pc + 3) (ht : (pc : Int) + off = (tgt : Int)) (gT : QG X nL Q oT tgt lv st Wd ad cells slots) (gF : QG X nL Q oF npc lv st Wd ad cells slots) : QG X nL Q (if 0 < y then oT else oF) pc lv (.int y :: st) Wd ad cells slots :=
  fun x h H locs ls hP hD hS hl => by subst hn; exact lv_if_gt hX.1 hX.2.1 (qdcn hd rfl) ht (fun c => by rw [if_pos c] at h; exact gT x h H locs ls hP hD hS hl) (fun c => by rw [if_neg c] at h; exact gF x h H locs ls hP hD hS hl)
theorem QG.icmp_gt {y z : Int32} {off : Int} {tgt : Nat} (hX : qok X cc own nL ret d) (hd : qdc cc pc (.if_icmp .gt off) npc) (hn : npc = pc + 3) (ht : (pc : Int) + off = (tgt : Int)) (gT : QG X nL Q oT tgt lv st Wd ad cells slots) (gF : QG X nL Q oF npc lv st Wd ad cells slots) : QG X nL Q (if z < y then oT else oF) pc lv (.int z :: .int y :: st) Wd ad cells slots :=
  fun x h H locs ls hP hD hS hl => by subst hn; exact lv_icmp_gt hX.1 hX.2.1 (qdcn hd rfl) ht (fun c => by rw [if_pos c] at h; exact gT x h H locs ls hP hD hS hl) (fun c => by rw [if_neg c] at h; exact gF x h H locs ls hP hD hS hl)
theorem QG.if_le {y : Int32} {off : Int} {tgt : Nat} (hX : qok X cc own nL ret d) (hd : qdc cc pc (.ifCond .le off) npc) (hn : npc = pc + 3) (ht : (pc : Int) + off = (tgt : Int)) (gT : QG X nL Q oT tgt lv st Wd ad cells slots) (gF : QG X nL Q oF npc lv st Wd ad cells slots) : QG X nL Q (if y ≤ 0 then oT else oF) pc lv (.int y :: st) Wd ad cells slots :=
  fun x h H locs ls hP hD hS hl => by subst hn; exact lv_if_le hX.1 hX.2.1 (qdcn hd rfl) ht (fun c => by rw [if_pos c] at h; exact gT x h H locs ls hP hD hS hl) (fun c => by rw [if_neg c] at h; exact gF x h H locs ls hP hD hS hl)
theorem QG.icmp_le {y z : Int32} {off : Int} {tgt : Nat} (hX : qok X cc own nL ret d) (hd : qdc cc pc (.if_icmp .le off) npc) (hn : npc = pc + 3) (ht : (pc : Int) + off = (tgt : Int)) (gT : QG X nL Q oT tgt lv st Wd ad cells slots) (gF : QG X nL Q oF npc lv st Wd ad cells slots) : QG X nL Q (if y ≤ z then oT else oF) pc lv (.int z :: .int y :: st) Wd ad cells slots :=
  fun x h H locs ls hP hD hS hl => by subst hn; exact lv_icmp_le hX.1 hX.2.1 (qdcn hd rfl) ht (fun c => by rw [if_pos c] at h; exact gT x h H locs ls hP hD hS hl) (fun c => by rw [if_neg c] at h; exact gF x h H locs ls hP hD hS hl)
theorem QG.goto {off : Int} {tgt : Nat} (hX : qok X cc own nL ret d) (hd : qdc cc pc (.goto off) npc) (hn : npc = pc + 3) (ht : (pc : Int) + off = (tgt : Int)) (g : QG X nL Q o tgt lv st Wd ad cells slots) : QG X nL Q o pc lv st Wd ad cells slots :=
  fun x h H locs ls hP hD hS hl => by subst hn; exact lv_goto hX.1 hX.2.1 (qdcn hd rfl) ht (g x h H locs ls hP hD hS hl)
theorem QG.nonnull {y : Nat} {off : Int} {tgt : Nat} (hX : qok X cc own nL ret d) (hd : qdc cc pc (.ifnonnull off) npc) (hn : npc = pc + 3) (ht : (pc : Int) + off = (tgt : Int)) (g : QG X nL Q o tgt lv st Wd ad cells slots) : QG X nL Q o pc lv (.ref y :: st) Wd ad cells slots :=
  fun x h H locs ls hP hD hS hl => by subst hn; exact lv_ifnonnull hX.1 hX.2.1 (qdcn hd rfl) ht (g x h H locs ls hP hD hS hl)
theorem QG.isnull {y : Nat} {off : Int} (hX : qok X cc own nL ret d) (hd : qdc cc pc (.ifnull off) npc) (hn : npc = pc + 3) (g : QG X nL Q o npc lv st Wd ad cells slots) : QG X nL Q o pc lv (.ref y :: st) Wd ad cells slots :=
  fun x h H locs ls hP hD hS hl => by subst hn; exact lv_ifnull hX.1 hX.2.1 (qdcn hd rfl) (g x h H locs ls hP hD hS hl)
theorem QG.isnullN {off : Int} {tgt : Nat} (hX : qok X cc own nL ret d) (hd : qdc cc pc (.ifnull off) npc) (hn : npc = pc + 3) (ht : (pc : Int) + off = (tgt : Int)) (g : QG X nL Q o tgt lv st Wd ad cells slots) : QG X nL Q o pc lv (.null :: st) Wd ad cells slots :=
  fun x h H locs ls hP hD hS hl => by subst hn; exact lv_ifnullN hX.1 hX.2.1 (qdcn hd rfl) ht (g x h H locs ls hP hD hS hl)
theorem QG.nonnullN {off : Int} (hX : qok X cc own nL ret d) (hd : qdc cc pc (.ifnonnull off) npc) (hn : npc = pc + 3) (g : QG X nL Q o npc lv st Wd ad cells slots) : QG X nL Q o pc lv (.null :: st) Wd ad cells slots :=
  fun x h H locs ls hP hD hS hl => by subst hn; exact lv_ifnonnullN hX.1 hX.2.1 (qdcn hd rfl) (g x h H locs ls hP hD hS hl)
end R1
end
section
/-- field k of the number ci of the classes, by pool entry idx of own -/
def qfl (own : String) (idx ci k : Nat) : Prop := ∃ (C : String) (T : u_T) (N : Nat) (ty0 : Nat → FieldType), vwCl[ci]? = some (C, T, N) ∧ k < N ∧ Cond.fieldLink own idx (T k).1 (T k).2.1 (T k).2.2.1 ∈ gtb ∧ (∀ w ∈ u_ws C T N, w ∈ gtb) ∧ (∀ k, k < N → parseFieldDescriptor (T k).2.2.1 = some (ty0 k)) ∧ (∀ a, a < N → ∀ b, b < N → a ≠ b → (T a).2.1 ≠ (T b).2.1)
/-- that field isn't final, and is of type ty -/
def qfp (ci k : Nat) (ty : FieldType) : Bool := match vwCl[ci]? with
  | some (_, T, _) => decide ((T k).2.2.2 = false) && decide (parseFieldDescriptor (T k).2.2.1 = some ty)
  | none => false
def qfF (ci k : Nat) (ty : FieldType) (own : String) : Bool := match vwCl[ci]? with
  | some (_, T, _) => decide ((T k).2.2.2 = true) && decide (parseFieldDescriptor (T k).2.2.1 = some ty) && decide ((T k).1 = own)
  | none => false
theorem qb_nar (b : Bool) : narrow .boolean (.int (qb b)) = .int (qb b) := by cases b <;> decide +kernel
theorem qb_fit (b : Bool) : fits .boolean (.int (qb b)) = true := by cases b <;> decide +kernel
/-- a value that a field of type ty takes as it is -/
def qfit (ty : FieldType) (v : Value) : Prop := ∀ sA ad : Nat → Nat, narrow ty (qv sA ad v) = qv sA ad v ∧ fits ty (qv sA ad v) = true
theorem qfit_i (x : Int32) : qfit .int (.int x) := fun _ _ => ⟨rfl, rfl⟩
theorem qfit_z (b : Bool) : qfit .boolean (.int (qb b)) := fun _ _ => ⟨qb_nar b, qb_fit b⟩
theorem qfit_z1 : qfit .boolean (.int 1) := qfit_z true
theorem qfit_z0 : qfit .boolean (.int 0) := qfit_z false
theorem qfit_r (C : String) (k : Nat) : qfit (.object C) (.ref k) := fun _ _ => ⟨rfl, rfl⟩
theorem qfit_a (t : FieldType) (k : Nat) : qfit (.array t) (.ref k) := fun _ _ => ⟨rfl, rfl⟩
theorem qfit_n (C : String) : qfit (.object C) .null := fun _ _ => ⟨rfl, rfl⟩
section R2
variable {α : Type} {X : QX} {cc : ByteArray} {own : String} {nL : Nat} {ret : Option FieldType} {d : Nat} {Q : α → State → Prop} {o oT oF : Option α} {pc npc : Nat} {lv : LV} {st : List Value} {Wd : List AC} {ad : Nat → Nat} {cells slots : Nat}
theorem QG.getf {idx ci k a : Nat} {fs : List Value} {v : Value} (hX : qok X cc own nL ret d) (hf : qfl own idx ci k) (hd : qdc cc pc (.getfield idx) npc) (hn : npc = pc + 3) (ha : Wd[a]? = some (.inr (ci, fs))) (hv : fs[k]? = some v) (g : QG X nL Q o npc lv (v :: st) Wd ad cells slots) : QG X nL Q o pc lv (.ref a :: st) Wd ad cells slots :=
  fun x h H locs ls hP hD hS hl => by
    subst hn
    obtain ⟨C, T, N, ty0, h1, h2, h3, h4, h5, h6⟩ := hf
    refine va_get (D := (X.dC, X.dI)) (cl := vwCl) hX.1 hX.2.1 hX.2.2.2.2.2.1 h4 hX.2.2.2.2.1 hX.2.2.2.2.2.2.2.2.1 hP a (qw_at ha) h1 k h2 (hX.2.2.2.2.2.1 _ h3) (fun _ z => z) (v := qv X.sA ad v) ?_ (qdcn hd rfl) (g x h H locs ls hP hD hS hl)
    rw [List.getElem?_map, hv]; rfl
theorem QG.putf {idx ci k a : Nat} {fs : List Value} {v : Value} {ty : FieldType} (hX : qok X cc own nL ret d) (hf : qfl own idx ci k) (hp : qfp ci k ty = true) (hd : qdc cc pc (.putfield idx) npc) (hn : npc = pc + 3) (ha : Wd[a]? = some (.inr (ci, fs))) (hk : k < fs.length) (hfit : qfit ty v) {Wd' : List AC} (hw : Wd.set a (.inr (ci, fs.set k v)) = Wd') (g : QG X nL Q o npc lv st Wd' ad cells slots) : QG X nL Q o pc lv (v :: .ref a :: st) Wd ad cells slots :=
  fun x h H locs ls hP hD hS hl => by
    subst hn; subst hw
    obtain ⟨C, T, N, ty0, h1, h2, h3, h4, h5, h6⟩ := hf
    simp only [qfp, h1, Bool.and_eq_true, decide_eq_true_eq] at hp
    have e : ∀ y : Nat × va_E, y = (ad a, .inr (ci, (fs.map (qv X.sA ad)).set k (qv X.sA ad v))) → y = (ad a, qc X.dA X.sA ad (.inr (ci, fs.set k v))) := fun y hy => by rw [hy]; simp only [qc, List.map_set]
    refine va_put (D := (X.dC, X.dI)) (cl := vwCl) (ty := ty) (v := qv X.sA ad v) hX.1 hX.2.1 hX.2.2.2.2.2.1 h4 ty0 h5 h6 hX.2.2.2.2.1 hX.2.2.2.2.2.2.2.2.1 hP hD hS a (qw_at ha) h1 k h2 (hX.2.2.2.2.2.1 _ h3) (fun _ z => z) hp.1 hp.2 (hfit X.sA ad).1 (hfit X.sA ad).2 (by rw [List.length_map]; exact hk) (qdcn hd rfl) fun H1 locs1 hP1 hD1 hS1 => ?_
    rw [e _ rfl, qw_set] at hP1 hD1
    exact g x h H1 locs1 ls hP1 hD1 hS1 hl
theorem QG.iald {a n : Nat} {f : Nat → Int32} {i : Int32} (hX : qok X cc own nL ret d) (hd : qdc cc pc .iaload npc) (hn : npc = pc + 1) (ha : Wd[a]? = some (.inl (0, n, .inl f))) (g : QG X nL Q o npc lv (.int (f i.toNatClampNeg) :: st) Wd ad cells slots) : QG X nL Q (ck (inb i n) o) pc lv (.int i :: .ref a :: st) Wd ad cells slots :=
  QG.chk fun hi x h H locs ls hP hD hS hl => by
    subst hn
    exact va_iald (D := (X.dC, X.dI)) (cl := vwCl) hX.1 hX.2.1 hX.2.2.2.2.2.2.2.2.1 hP a 0 (qw_at ha) rfl (inb_vp hi) (qdcn hd rfl) (g x h H locs ls hP hD hS hl)
theorem QG.zald {a n : Nat} {f : Nat → Int32} {i : Int32} (hX : qok X cc own nL ret d) (hd : qdc cc pc .baload npc) (hn : npc = pc + 1) (ha : Wd[a]? = some (.inl (2, n, .inl f))) (g : QG X nL Q o npc lv (.int (f i.toNatClampNeg) :: st) Wd ad cells slots) : QG X nL Q (ck (inb i n) o) pc lv (.int i :: .ref a :: st) Wd ad cells slots :=
  QG.chk fun hi x h H locs ls hP hD hS hl => by
    subst hn
    exact va_zald (D := (X.dC, X.dI)) (cl := vwCl) hX.1 hX.2.1 hX.2.2.2.2.2.2.2.2.1 hP a 2 (qw_at ha) rfl (inb_vp hi) (qdcn hd rfl) (g x h H locs ls hP hD hS hl)
theorem QG.lald {a n : Nat} {f : Nat → Int64} {i : Int32} (hX : qok X cc own nL ret d) (hd : qdc cc pc .laload npc) (hn : npc = pc + 1) (ha : Wd[a]? = some (.inl (1, n, .inr (.inl f)))) (g : QG X nL Q o npc lv (.long (f i.toNatClampNeg) :: st) Wd ad cells slots) : QG X nL Q (ck (inb i n) o) pc lv (.int i :: .ref a :: st) Wd ad cells slots :=
  QG.chk fun hi x h H locs ls hP hD hS hl => by
    subst hn
    exact va_lald (D := (X.dC, X.dI)) (cl := vwCl) hX.1 hX.2.1 hX.2.2.2.2.2.2.2.2.1 hP a 1 (qw_at ha) rfl (inb_vp hi) (qdcn hd rfl) (g x h H locs ls hP hD hS hl)
theorem QG.iast {a n : Nat} {f : Nat → Int32} {i y : Int32} (hX : qok X cc own nL ret d) (hd : qdc cc pc .iastore npc) (hn : npc = pc + 1) (ha : Wd[a]? = some (.inl (0, n, .inl f))) {Wd' : List AC} (hw : Wd.set a (.inl (0, n, .inl (upd f i.toNatClampNeg y))) = Wd') (g : QG X nL Q o npc lv st Wd' ad cells slots) : QG X nL Q (ck (inb i n) o) pc lv (.int y :: .int i :: .ref a :: st) Wd ad cells slots :=
  QG.chk fun hi x h H locs ls hP hD hS hl => by
    subst hn; subst hw
    refine va_iast (D := (X.dC, X.dI)) (cl := vwCl) hX.1 hX.2.1 hX.2.2.2.2.2.2.2.2.1 hP hD hS a 0 (qw_at ha) rfl (inb_vp hi) (qdcn hd rfl) fun H1 locs1 hP1 hD1 hS1 => ?_
    rw [show (ad a, (Sum.inl (X.dA 0, n, .inl (upd f i.toNatClampNeg y)) : va_E)) = (ad a, qc X.dA X.sA ad (.inl (0, n, .inl (upd f i.toNatClampNeg y)))) from rfl, qw_set] at hP1 hD1
    exact g x h H1 locs1 ls hP1 hD1 hS1 hl
theorem QG.zast {a n : Nat} {f : Nat → Int32} {i y : Int32} (hX : qok X cc own nL ret d) (hd : qdc cc pc .bastore npc) (hn : npc = pc + 1) (ha : Wd[a]? = some (.inl (2, n, .inl f))) (hy : vp_nar .boolean y = y) {Wd' : List AC} (hw : Wd.set a (.inl (2, n, .inl (upd f i.toNatClampNeg y))) = Wd') (g : QG X nL Q o npc lv st Wd' ad cells slots) : QG X nL Q (ck (inb i n) o) pc lv (.int y :: .int i :: .ref a :: st) Wd ad cells slots :=
  QG.chk fun hi x h H locs ls hP hD hS hl => by
    subst hn; subst hw
    refine va_zast (D := (X.dC, X.dI)) (cl := vwCl) hX.1 hX.2.1 hX.2.2.2.2.2.2.2.2.1 hP hD hS a 2 (qw_at ha) rfl (inb_vp hi) (qdcn hd rfl) fun H1 locs1 hP1 hD1 hS1 => ?_
    rw [hy, show (ad a, (Sum.inl (X.dA 2, n, .inl (upd f i.toNatClampNeg y)) : va_E)) = (ad a, qc X.dA X.sA ad (.inl (2, n, .inl (upd f i.toNatClampNeg y)))) from rfl, qw_set] at hP1 hD1
    exact g x h H1 locs1 ls hP1 hD1 hS1 hl
theorem QG.last {a n : Nat} {f : Nat → Int64} {i : Int32} {y : Int64} (hX : qok X cc own nL ret d) (hd : qdc cc pc .lastore npc) (hn : npc = pc + 1) (ha : Wd[a]? = some (.inl (1, n, .inr (.inl f)))) {Wd' : List AC} (hw : Wd.set a (.inl (1, n, .inr (.inl (vp_updL f i.toNatClampNeg y)))) = Wd') (g : QG X nL Q o npc lv st Wd' ad cells slots) : QG X nL Q (ck (inb i n) o) pc lv (.long y :: .int i :: .ref a :: st) Wd ad cells slots :=
  QG.chk fun hi x h H locs ls hP hD hS hl => by
    subst hn; subst hw
    refine va_last (D := (X.dC, X.dI)) (cl := vwCl) hX.1 hX.2.1 hX.2.2.2.2.2.2.2.2.1 hP hD hS a 1 (qw_at ha) rfl (inb_vp hi) (qdcn hd rfl) fun H1 locs1 hP1 hD1 hS1 => ?_
    rw [show (ad a, (Sum.inl (X.dA 1, n, .inr (.inl (vp_updL f i.toNatClampNeg y))) : va_E)) = (ad a, qc X.dA X.sA ad (.inl (1, n, .inr (.inl (vp_updL f i.toNatClampNeg y))))) from rfl, qw_set] at hP1 hD1
    exact g x h H1 locs1 ls hP1 hD1 hS1 hl
theorem qv_rf (sA ad : Nat → Nat) (r : Option Nat) : qv sA ad (va_rf r) = va_rf (r.map ad) := by cases r <;> rfl
theorem QG.aald {a n t : Nat} {f : Nat → Option Nat} {i : Int32} {v : Value} {C : String} (hX : qok X cc own nL ret d) (hd : qdc cc pc .aaload npc) (hn : npc = pc + 1) (ha : Wd[a]? = some (.inl (t, n, .inr (.inr (.inr (.inr f)))))) (ht : (t = 3 ∧ C = RX5) ∨ (t = 4 ∧ C = RX0)) (hi : vp_in i n) (hv : va_rf (f i.toNatClampNeg) = v) (g : QG X nL Q o npc lv (v :: st) Wd ad cells slots) : QG X nL Q o pc lv (.int i :: .ref a :: st) Wd ad cells slots :=
  fun x h H locs ls hP hD hS hl => by
    subst hn; subst hv
    refine va_aldq (D := (X.dC, X.dI)) (cl := vwCl) (C := C) hX.1 hX.2.1 hX.2.2.2.2.2.2.2.2.1 hP a t (qw_at ha) (by rcases ht with ⟨rfl, rfl⟩ | ⟨rfl, rfl⟩ <;> rfl) hi (qdcn hd rfl) ?_
    have g1 := g x h H locs ls hP hD hS hl
    rw [List.map_cons, qv_rf] at g1
    exact g1
theorem QG.alen {a n t : Nat} {v : Int32} {y : vp_A} {ty : FieldType} (hX : qok X cc own nL ret d) (hd : qdc cc pc .arraylength npc) (hn : npc = pc + 1) (ha : Wd[a]? = some (.inl (t, y))) (ht : (qtys X.dA)[t]? = some (X.dA t, ty)) (hy : ∃ f, y = (n, .inl f)) (hv : Int32.ofNat n = v) (g : QG X nL Q o npc lv (.int v :: st) Wd ad cells slots) : QG X nL Q o pc lv (.ref a :: st) Wd ad cells slots :=
  fun x h H locs ls hP hD hS hl => by
    subst hn
    obtain ⟨f, rfl⟩ := hy
    exact va_alen (D := (X.dC, X.dI)) (cl := vwCl) hX.1 hX.2.1 hX.2.2.2.2.2.2.2.2.1 hP a t (qw_at ha) ht hv (qdcn hd rfl) (g x h H locs ls hP hD hS hl)
/-- a static row: read by its nest -/
theorem QG.gets {n dd host : String} {idx j : Nat} {ty : FieldType} {N : Nat} {f : Nat → Int32} (hX : qok X cc own nL ret d) (hs : ∀ A U H, qSt X.sA A U H → qSt1 X.sA j n dd ty N f A U H) (hw : Cond.fieldLinkNest own idx "QuireDesk" n dd host ∈ ntb) (hj : (UInt32.ofNat j).toNat = j) (hd : qdc cc pc (.getstatic idx) npc) (hn : npc = pc + 3) (g : QG X nL Q o npc lv (.float (UInt32.ofNat j) :: st) Wd ad cells slots) : QG X nL Q o pc lv st Wd ad cells slots :=
  fun x h H locs ls hP hD hS hl => by
    subst hn
    have g1 := g x h H locs ls hP hD hS hl
    rw [List.map_cons, show qv X.sA ad (.float (UInt32.ofNat j)) = .ref (X.sA j) by show Value.ref (X.sA (UInt32.ofNat j).toNat) = _; rw [hj]] at g1
    exact va_getsN hX.1 hX.2.1 (hs _ _ _ hX.2.2.2.2.2.2.2.2.2.2.1).1 hS hX.2.2.2.2.1 (va_Nw.use rfl (hX.2.2.2.2.2.2.1 _ hw)) (fun _ z => z) (qdcn hd rfl) g1
theorem QG.sld {n dd : String} {j : Nat} {N : Nat} {f : Nat → Int32} {i : Int32} (hX : qok X cc own nL ret d) (hs : ∀ A U H, qSt X.sA A U H → qSt1 X.sA j n dd .int N f A U H) (hj : (UInt32.ofNat j).toNat = j) (hd : qdc cc pc .iaload npc) (hn : npc = pc + 1) (g : QG X nL Q o npc lv (.int (f i.toNatClampNeg) :: st) Wd ad cells slots) : QG X nL Q (ck (inb i N) o) pc lv (.int i :: .float (UInt32.ofNat j) :: st) Wd ad cells slots :=
  QG.chk fun hi x h H locs ls hP hD hS hl => by
    subst hn
    have g1 := g x h H locs ls hP hD hS hl
    rw [List.map_cons, List.map_cons, show qv X.sA ad (.float (UInt32.ofNat j)) = .ref (X.sA j) by show Value.ref (X.sA (UInt32.ofNat j).toNat) = _; rw [hj]]
    exact va_ti hX.1 hX.2.1 (hs _ _ _ hX.2.2.2.2.2.2.2.2.2.2.1).2 hS (inb_vp hi) rfl (qdcn hd rfl) g1
theorem QG.cld {n dd : String} {j : Nat} {N : Nat} {f : Nat → Int32} {i : Int32} (hX : qok X cc own nL ret d) (hs : ∀ A U H, qSt X.sA A U H → qSt1 X.sA j n dd .char N f A U H) (hj : (UInt32.ofNat j).toNat = j) (hd : qdc cc pc .caload npc) (hn : npc = pc + 1) (g : QG X nL Q o npc lv (.int (f i.toNatClampNeg) :: st) Wd ad cells slots) : QG X nL Q (ck (inb i N) o) pc lv (.int i :: .float (UInt32.ofNat j) :: st) Wd ad cells slots :=
  QG.chk fun hi x h H locs ls hP hD hS hl => by
    subst hn
    have g1 := g x h H locs ls hP hD hS hl
    rw [List.map_cons, List.map_cons, show qv X.sA ad (.float (UInt32.ofNat j)) = .ref (X.sA j) by show Value.ref (X.sA (UInt32.ofNat j).toNat) = _; rw [hj]]
    exact va_tc hX.1 hX.2.1 (hs _ _ _ hX.2.2.2.2.2.2.2.2.2.2.1).2 hS (inb_vp hi) rfl (qdcn hd rfl) g1
/-- switches -/
theorem QG.tswOut {dflt lo hi : Int} {offs : Array Int} {y : Int32} {tgt : Nat} (hX : qok X cc own nL ret d) (hd : qdc cc pc (.tableswitch dflt lo hi offs) npc) (hh : y.toInt < lo ∨ hi < y.toInt) (ht : (pc : Int) + dflt = (tgt : Int)) (g : QG X nL Q o tgt lv st Wd ad cells slots) : QG X nL Q o pc lv (.int y :: st) Wd ad cells slots :=
  fun x h H locs ls hP hD hS hl => lv_tableOut hX.1 hX.2.1 hd.1 hh ht (g x h H locs ls hP hD hS hl)
theorem QG.tswIn {dflt lo hi : Int} {offs : Array Int} {y : Int32} {off : Int} {tgt : Nat} (hX : qok X cc own nL ret d) (hd : qdc cc pc (.tableswitch dflt lo hi offs) npc) (h1 : ¬ y.toInt < lo) (h2 : ¬ hi < y.toInt) (ho : offs[(y.toInt - lo).toNat]? = some off) (ht : (pc : Int) + off = (tgt : Int)) (g : QG X nL Q o tgt lv st Wd ad cells slots) : QG X nL Q o pc lv (.int y :: st) Wd ad cells slots :=
  fun x h H locs ls hP hD hS hl => lv_tableIn hX.1 hX.2.1 hd.1 h1 h2 ho ht (g x h H locs ls hP hD hS hl)
theorem QG.lsw {dflt : Int} {ps : Array (Int × Int)} {y : Int32} {off : Int} {tgt : Nat} (hX : qok X cc own nL ret d) (hd : qdc cc pc (.lookupswitch dflt ps) npc) (hp : (ps.toList.zip (ps.toList.drop 1)).all (fun (a, next) => a.1 < next.1) = true) (ho : Op.lookupswitch.offset ps.toList dflt y.toInt = off) (ht : (pc : Int) + off = (tgt : Int)) (g : QG X nL Q o tgt lv st Wd ad cells slots) : QG X nL Q o pc lv (.int y :: st) Wd ad cells slots :=
  fun x h H locs ls hP hD hS hl => lv_lookup hX.1 hX.2.1 hd.1 hp ho ht (g x h H locs ls hP hD hS hl)
theorem QG.ite {c : Prop} {hc : Decidable c} (gT : c → QG X nL Q oT pc lv st Wd ad cells slots) (gF : ¬ c → QG X nL Q oF pc lv st Wd ad cells slots) : QG X nL Q (if c then oT else oF) pc lv st Wd ad cells slots :=
  fun x h => by
    by_cases q : c
    · rw [if_pos q] at h; exact gT q x h
    · rw [if_neg q] at h; exact gF q x h
end R2
end
section
def qPre (dC : Nat → ClassId) (dI : Nat → Nat → Nat) (dA : Nat → ClassId) (sA ad : Nat → Nat) (Wd : List AC) (A : Nat → Prop) (U : State) : Prop :=
  va_P (dC, dI) vwCl (qw dA sA ad Wd) U.heap ∧ va_K (dC, dI) vwCl (qtys dA) U ∧ va_D (fun _ => True) (qw dA sA ad Wd) ∧ (∀ w ∈ ntb, va_Nw w U) ∧ qSt sA A U U.heap
def qPost (dC : Nat → ClassId) (dI : Nat → Nat → Nat) (dA : Nat → ClassId) (sA ad : Nat → Nat) (n : Nat) (A : Nat → Prop) (r : Option Value × List AC) (oc : Outcome) (t : State) : Prop :=
  ∃ ad' : Nat → Nat, (∀ k, (k < n ∨ r.2.length ≤ k) → ad' k = ad k) ∧ oc = .returned (r.1.map (qv sA ad')) ∧ va_P (dC, dI) vwCl (qw dA sA ad' r.2) t.heap ∧ va_K (dC, dI) vwCl (qtys dA) t ∧ va_D A (qw dA sA ad' r.2)
/-- a method's contract: on a world of these cells and these arguments it comes to what o tells -/
def QM {α : Type} (l : Launch) (y : MethodName) (cc : ByteArray) (nL : Nat) (ret : Option FieldType) (d mc ms : Nat) (Pd : (Nat → Nat) → Prop) (av : List Value) (Wd : List AC) (o : Option α) (post : α → Option Value × List AC) : Prop :=
  ∀ x, o = some x → ∀ (dC : Nat → ClassId) (dI : Nat → Nat → Nat) (dA : Nat → ClassId) (sA ad : Nat → Nat) (sz : Nat), Pd ad →
    Met l y (Cond.code y cc nL ret :: gtb) ({ frames := d, cells := mc, slots := ms, locals := 64 * d }) (va_Pc (av.map (qv sA ad)) (fun U => U.heap.size = sz ∧ qPre dC dI dA sA ad Wd (va_A (qw dA sA ad Wd) sz) U))
      (fun _ st oc t => qPost dC dI dA sA ad Wd.length (va_A (qw dA sA ad Wd) sz) (post x) oc t ∧ va_F (va_A (qw dA sA ad Wd) sz) st t) mc ms (va_A (qw dA sA ad Wd) sz)
def qQ {α : Type} (X : QX) (ad : Nat → Nat) (n : Nat) (post : α → Option Value × List AC) (mc ms : Nat) : α → State → Prop := fun x =>
  MQ X.below (fun _ st oc t => qPost X.dC X.dI X.dA X.sA ad n X.A (post x) oc t ∧ va_F X.A st t) X.args X.s mc ms X.A
theorem qlv_args (sA ad : Nat → Nat) : ∀ (av : List Value) (i : Nat), lv_args i (av.map (qv sA ad)) = qlv sA ad (lv_args i av)
  | [], _ => rfl
  | v :: vs, i => by
    show (i, qv sA ad v) :: lv_args (if (qv sA ad v).category = 2 then i + 2 else i + 1) (vs.map (qv sA ad)) = _
    rw [qv_cat, qlv_args sA ad vs]
    rfl
theorem qsl_len (sA ad : Nat → Nat) : ∀ av : List Value, (lg_sl (av.map (qv sA ad))).length = (lg_sl av).length
  | [] => rfl
  | v :: vs => by
    have h := qsl_len sA ad vs
    unfold lg_sl at h ⊢
    rw [List.map_cons, List.flatMap_cons, List.flatMap_cons, List.length_append, List.length_append, h, qv_cat]
    split <;> rfl
theorem QM.of {α : Type} {l : Launch} {y : MethodName} {cc : ByteArray} {nL : Nat} {ret : Option FieldType} {d mc ms : Nat} {Pd : (Nat → Nat) → Prop} {av : List Value} {Wd : List AC} {o : Option α} {post : α → Option Value × List AC} (hy : plainName y.cls = true) (hlen : (lg_sl av).length ≤ nL)
    (body : ∀ (X : QX) (ad : Nat → Nat), qok X cc y.cls nL ret d → Pd ad → X.l = l → X.R = { frames := d, cells := mc, slots := ms, locals := 64 * d } → X.meth.name = y.name → QG X nL (qQ X ad Wd.length post mc ms) o 0 (lv_args 0 av) [] Wd ad 0 0) : QM l y cc nL ret d mc ms Pd av Wd o post := by
  intro x hx dC dI dA sA ad sz hpd
  refine Met.ofW (cc := cc) (maxL := nL) (ret := ret) hy rfl ?_
  intro p e s m args below meth c s₁ B hml hv
  obtain ⟨rfl, hsz, hP, hK, hD0, hN, hSt⟩ := hv
  subst hsz
  have hts := atoms_spec (ws := Cond.code y cc nL ret :: gtb) B.pre
  have hD := hD0.self (sz := s.heap.size)
  have hl := lv_entry (av.map (qv sA ad)) (n := nL) (by rw [qsl_len]; exact hlen)
  rw [qlv_args] at hl
  rw [lg_entry_eq]
  have hb := body (p, l, e, { frames := d, cells := mc, slots := ms, locals := 64 * d }, s, m, (av.map (qv sA ad)).toArray, below, meth, c, dC, dI, dA, sA, va_A (qw dA sA ad Wd) s.heap.size) ad
    ⟨B.exec, B.bytes, B.returns, hml, findClass_of_methodNamed B.named, fun w h => hts w (List.mem_cons_of_mem _ h), hN, B.notSynchronized, hK, fun q h => Or.inr h, hSt, Nat.le_refl _, Nat.le_refl _⟩ hpd rfl rfl (name_of_methodNamed B.named B.method).1
  exact hb x hx s.heap [] _ hP hD va_S.rf hl
section R3
variable {α : Type} {X : QX} {cc : ByteArray} {own : String} {nL : Nat} {ret : Option FieldType} {d : Nat} {Q : α → State → Prop} {o oT oF : Option α} {pc npc : Nat} {lv : LV} {st : List Value} {Wd : List AC} {ad : Nat → Nat} {cells slots : Nat}
theorem QG.iret {ad0 : Nat → Nat} {n : Nat} {post : α → Option Value × List AC} {x : α} {y : Int32} (hX : qok X cc own nL (some .int) d) (hd : qdc cc pc .ireturn npc) (hn : npc = pc + 1) (hp : post x = (some (.int y), Wd)) (ha : ∀ k, (k < n ∨ Wd.length ≤ k) → ad k = ad0 k) : QG X nL (qQ X ad0 n post cells slots) (some x) pc lv [.int y] Wd ad cells slots :=
  fun x' hx H locs ls hP hD hS hl => by
    subst hn; cases hx
    exact W.iret hX.1 hX.2.1 hX.2.2.1 (fun t ht hW => ⟨⟨ad, by rw [hp]; exact ha, by rw [hp]; rfl, by rw [hp, ht]; exact hP, va_K.moved hW.alike hX.2.2.2.2.2.2.2.2.1, by rw [hp]; exact hD⟩, hS.F ht⟩) hS.2.2 (qdcn hd rfl) hX.2.2.2.2.2.2.2.1
theorem QG.zret {ad0 : Nat → Nat} {n : Nat} {post : α → Option Value × List AC} {x : α} {y : Int32} (hX : qok X cc own nL (some .boolean) d) (hd : qdc cc pc .ireturn npc) (hn : npc = pc + 1) (hy : narrow .boolean (.int y) = .int y) (hp : post x = (some (.int y), Wd)) (ha : ∀ k, (k < n ∨ Wd.length ≤ k) → ad k = ad0 k) : QG X nL (qQ X ad0 n post cells slots) (some x) pc lv [.int y] Wd ad cells slots :=
  fun x' hx H locs ls hP hD hS hl => by
    subst hn; cases hx
    exact W.zret hX.1 hX.2.1 hX.2.2.1 hy (fun t ht hW => ⟨⟨ad, by rw [hp]; exact ha, by rw [hp]; rfl, by rw [hp, ht]; exact hP, va_K.moved hW.alike hX.2.2.2.2.2.2.2.2.1, by rw [hp]; exact hD⟩, hS.F ht⟩) hS.2.2 (qdcn hd rfl) hX.2.2.2.2.2.2.2.1
theorem QG.lret {ad0 : Nat → Nat} {n : Nat} {post : α → Option Value × List AC} {x : α} {y : Int64} (hX : qok X cc own nL (some .long) d) (hd : qdc cc pc .lreturn npc) (hn : npc = pc + 1) (hp : post x = (some (.long y), Wd)) (ha : ∀ k, (k < n ∨ Wd.length ≤ k) → ad k = ad0 k) : QG X nL (qQ X ad0 n post cells slots) (some x) pc lv [.long y] Wd ad cells slots :=
  fun x' hx H locs ls hP hD hS hl => by
    subst hn; cases hx
    exact W.lret hX.1 hX.2.1 hX.2.2.1 (fun t ht hW => ⟨⟨ad, by rw [hp]; exact ha, by rw [hp]; rfl, by rw [hp, ht]; exact hP, va_K.moved hW.alike hX.2.2.2.2.2.2.2.2.1, by rw [hp]; exact hD⟩, hS.F ht⟩) hS.2.2 (qdcn hd rfl) hX.2.2.2.2.2.2.2.1
theorem QG.vret {ad0 : Nat → Nat} {n : Nat} {post : α → Option Value × List AC} {x : α} (hX : qok X cc own nL none d) (hd : qdc cc pc .return_ npc) (hn : npc = pc + 1) (hp : post x = (none, Wd)) (ha : ∀ k, (k < n ∨ Wd.length ≤ k) → ad k = ad0 k) : QG X nL (qQ X ad0 n post cells slots) (some x) pc lv [] Wd ad cells slots :=
  fun x' hx H locs ls hP hD hS hl => by
    subst hn; cases hx
    exact W.vret hX.1 hX.2.1 hX.2.2.1 (fun t ht hW => ⟨⟨ad, by rw [hp]; exact ha, by rw [hp]; rfl, by rw [hp, ht]; exact hP, va_K.moved hW.alike hX.2.2.2.2.2.2.2.2.1, by rw [hp]; exact hD⟩, hS.F ht⟩) hS.2.2 (qdcn hd rfl) hX.2.2.2.2.2.2.2.1
theorem QG.aret {ad0 : Nat → Nat} {n : Nat} {post : α → Option Value × List AC} {x : α} {v : Value} {C : String} (hX : qok X cc own nL (some (.object C)) d) (hd : qdc cc pc .areturn npc) (hn : npc = pc + 1) (hv : v = .null ∨ ∃ a, v = .ref a) (hp : post x = (some v, Wd)) (ha : ∀ k, (k < n ∨ Wd.length ≤ k) → ad k = ad0 k) : QG X nL (qQ X ad0 n post cells slots) (some x) pc lv [v] Wd ad cells slots :=
  fun x' hx H locs ls hP hD hS hl => by
    subst hn; cases hx
    refine W.aret (rt := .object C) hX.1 hX.2.1 hX.2.2.1 (Or.inl ⟨C, rfl⟩) ?_ (fun t ht hW => ⟨⟨ad, by rw [hp]; exact ha, by rw [hp]; rfl, by rw [hp, ht]; exact hP, va_K.moved hW.alike hX.2.2.2.2.2.2.2.2.1, by rw [hp]; exact hD⟩, hS.F ht⟩) hS.2.2 (qdcn hd rfl) hX.2.2.2.2.2.2.2.1
    rcases hv with rfl | ⟨a, rfl⟩
    · exact Or.inl rfl
    · exact Or.inr ⟨_, rfl⟩
end R3
/-! a callee's world among the caller's: its k-th cell is the caller's cell φ k -/
def qf (φ : List Nat) (k : Nat) : Nat := match φ[k]? with
  | some i => i
  | none => k - φ.length
def qrv (φ : List Nat) : Value → Value
  | .ref k => .ref (qf φ k)
  | v => v
def qrc (φ : List Nat) : AC → AC
  | .inl (t, x) => .inl (t, qarr (qf φ) x)
  | .inr (ci, fs) => .inr (ci, fs.map (qrv φ))
theorem qv_ren (sA ad : Nat → Nat) (φ : List Nat) (v : Value) : qv sA ad (qrv φ v) = qv sA (fun k => ad (qf φ k)) v := by cases v <;> rfl
theorem qc_ren (dA : Nat → ClassId) (sA ad : Nat → Nat) (φ : List Nat) (c : AC) : qc dA sA ad (qrc φ c) = qc dA sA (fun k => ad (qf φ k)) c := by
  rcases c with ⟨t, n, f | f | f | f | f⟩ | ⟨ci, fs⟩
  · rfl
  · rfl
  · rfl
  · rfl
  · simp only [qrc, qc, qarr, Option.map_map]
    rfl
  · simp only [qrc, qc, List.map_map]
    congr 2
    apply List.map_congr_left
    intro v _
    exact qv_ren sA ad φ v
def qput : List AC → List Nat → List AC → List AC
  | Wd, i :: is, c :: cs => qput (Wd.set i c) is cs
  | Wd, _, _ => Wd
theorem qput_len : ∀ (φ : List Nat) (Wd cs : List AC), (qput Wd φ cs).length = Wd.length
  | [], Wd, cs => by cases cs <;> rfl
  | i :: is, Wd, [] => rfl
  | i :: is, Wd, c :: cs => by show (qput (Wd.set i c) is cs).length = _; rw [qput_len is, List.length_set]
theorem qput_out : ∀ (φ : List Nat) (Wd cs : List AC) (j : Nat), j ∉ φ → (qput Wd φ cs)[j]? = Wd[j]?
  | [], Wd, cs, j, _ => by cases cs <;> rfl
  | i :: is, Wd, [], j, _ => rfl
  | i :: is, Wd, c :: cs, j, h => by
    show (qput (Wd.set i c) is cs)[j]? = _
    rw [qput_out is _ _ j (fun q => h (List.mem_cons_of_mem _ q)), List.getElem?_set_ne (fun q => h (by rw [q]; exact List.mem_cons_self))]
theorem qput_in : ∀ (φ : List Nat) (Wd cs : List AC) (k i : Nat) (c : AC), va_nd φ = true → (∀ j ∈ φ, j < Wd.length) → φ[k]? = some i → cs[k]? = some c → (qput Wd φ cs)[i]? = some c
  | [], Wd, cs, k, i, c, _, _, h, _ => by simp at h
  | a :: is, Wd, [], k, i, c, _, _, _, h => by simp at h
  | a :: is, Wd, b :: cs, k, i, c, hn, hl, h1, h2 => by
    simp only [va_nd, Bool.and_eq_true, decide_eq_true_eq] at hn
    show (qput (Wd.set a b) is cs)[i]? = _
    cases k with
    | zero =>
      rw [List.getElem?_cons_zero] at h1 h2
      cases h1; cases h2
      rw [qput_out is _ _ _ hn.1, List.getElem?_set_self (hl _ List.mem_cons_self)]
    | succ k =>
      rw [List.getElem?_cons_succ] at h1 h2
      exact qput_in is _ cs k i c hn.2 (fun j hj => by rw [List.length_set]; exact hl j (List.mem_cons_of_mem _ hj)) h1 h2
theorem qD_len {dA : Nat → ClassId} {sA ad : Nat → Nat} {Wd Wd' : List AC} {A : Nat → Prop} (h : va_D A (qw dA sA ad Wd)) (hl : Wd'.length = Wd.length) : va_D A (qw dA sA ad Wd') := by
  have key : ∀ (k : Nat) (q : Nat × va_E), (qw dA sA ad Wd')[k]? = some q → q.1 = ad k ∧ ∃ r, (qw dA sA ad Wd)[k]? = some (ad k, r) := by
    intro k q hk
    rw [qw_get] at hk
    obtain ⟨c, hc, rfl⟩ := Option.map_eq_some_iff.mp hk
    have hk2 : k < Wd.length := by rw [← hl]; exact (List.getElem?_eq_some_iff.mp hc).1
    refine ⟨rfl, qc dA sA ad Wd[k], ?_⟩
    rw [qw_get, List.getElem?_eq_getElem hk2]; rfl
  refine ⟨fun i j p q hi hj e => ?_, fun k q hk => ?_⟩
  · obtain ⟨e1, r1, h1⟩ := key i p hi
    obtain ⟨e2, r2, h2⟩ := key j q hj
    exact h.1 i j _ _ h1 h2 (by rw [← e1, ← e2]; exact e)
  · obtain ⟨e1, r1, h1⟩ := key k q hk
    rw [e1]
    exact h.2 k _ h1
theorem qsub_at {Wd Ws : List AC} {φ : List Nat} (hsub : φ.map (fun i => Wd[i]?) = Ws.map (fun c => some (qrc φ c))) {k : Nat} {c : AC} (hc : Ws[k]? = some c) : ∃ i, φ[k]? = some i ∧ Wd[i]? = some (qrc φ c) := by
  have h1 : (φ.map (fun i => Wd[i]?))[k]? = some (some (qrc φ c)) := by rw [hsub, List.getElem?_map, hc]; rfl
  rw [List.getElem?_map] at h1
  cases hi : φ[k]? with
  | none => rw [hi] at h1; cases h1
  | some i => rw [hi] at h1; exact ⟨i, rfl, Option.some.inj h1⟩
theorem qf_at {φ : List Nat} {k i : Nat} (h : φ[k]? = some i) : qf φ k = i := by unfold qf; rw [h]
theorem qsub_w {dA : Nat → ClassId} {sA ad : Nat → Nat} {Wd Ws : List AC} {φ : List Nat} (hsub : φ.map (fun i => Wd[i]?) = Ws.map (fun c => some (qrc φ c))) : φ.map (fun i => (qw dA sA ad Wd)[i]?) = (qw dA sA (fun k => ad (qf φ k)) Ws).map some := by
  apply List.ext_getElem?
  intro k
  have hlen : φ.length = Ws.length := by have := congrArg List.length hsub; simpa using this
  rw [List.getElem?_map, List.getElem?_map, qw_get]
  cases hc : Ws[k]? with
  | none =>
    have : φ[k]? = none := List.getElem?_eq_none (by rw [hlen]; exact List.getElem?_eq_none_iff.mp hc)
    rw [this]; rfl
  | some c =>
    obtain ⟨i, h1, h2⟩ := qsub_at hsub hc
    rw [h1]
    show some ((qw dA sA ad Wd)[i]?) = some (some (ad (qf φ k), qc dA sA (fun k => ad (qf φ k)) c))
    rw [qw_at h2, qf_at h1, qc_ren]
end
section
theorem gtb_goodIn {ws : List Cond} (h : ∀ w ∈ ws, w ∈ gtb) : GoodIn gtb ws := fun w hw => ⟨h w hw, good_of_word (gtb_good w (h w hw))⟩
theorem qpre_blind {av : List Value} {sz : Nat} {dC : Nat → ClassId} {dI : Nat → Nat → Nat} {dA : Nat → ClassId} {sA ad : Nat → Nat} {Wd : List AC} {A : Nat → Prop} : FrameBlind (va_Pc av (fun U => U.heap.size = sz ∧ qPre dC dI dA sA ad Wd A U)) :=
  fun a U g mk h => ⟨h.1, h.2.1, h.2.2.1, va_K.moved (u := U) (U := U.calling g mk a) (Vm.Alike.refl U.vm) h.2.2.2.1, h.2.2.2.2.1, fun w hw => qnest_same (u := U) (U := U.calling g mk a) (ntb_nest hw) rfl (h.2.2.2.2.2.1 w hw), qSt.moved (u := U) (U := U.calling g mk a) (Vm.Alike.refl U.vm) h.2.2.2.2.2.2⟩
theorem qsub_i {ws w : va_W} {φ : List Nat} (hs : φ.map (fun i => ws[i]?) = w.map some) {k : Nat} {q : Nat × va_E} (hq : w[k]? = some q) : ∃ i, φ[k]? = some i ∧ ws[i]? = some q := by
  have h1 : (φ.map (fun i => ws[i]?))[k]? = some (some q) := by rw [hs, List.getElem?_map, hq]; rfl
  rw [List.getElem?_map] at h1
  cases hi : φ[k]? with
  | none => rw [hi] at h1; cases h1
  | some i => rw [hi] at h1; exact ⟨i, rfl, Option.some.inj h1⟩
section R4
variable {α : Type} {X : QX} {cc : ByteArray} {own : String} {nL : Nat} {ret : Option FieldType} {d : Nat} {Q : α → State → Prop} {o oT oF : Option α} {pc npc : Nat} {lv : LV} {st : List Value} {Wd : List AC} {ad : Nat → Nat} {cells slots : Nat}
theorem qpre_at (hX : qok X cc own nL ret d) {φ : List Nat} {Ws : List AC} (hsub : φ.map (fun i => Wd[i]?) = Ws.map (fun c => some (qrc φ c))) (hnd : va_nd φ = true) {H : Heap} {locs : List Loc} (hP : va_P (X.dC, X.dI) vwCl (qw X.dA X.sA ad Wd) H) (hD : va_D X.A (qw X.dA X.sA ad Wd)) (hS : va_S X.A X.s.heap H locs) {U : State} (hU : U.heap = H) (hW : X.s.WarmedH U.vm) :
    U.heap.size = H.size ∧ qPre X.dC X.dI X.dA X.sA (fun k => ad (qf φ k)) Ws (va_A (qw X.dA X.sA (fun k => ad (qf φ k)) Ws) H.size) U := by
  have hs := qsub_w (dA := X.dA) (sA := X.sA) (ad := ad) hsub
  refine ⟨by rw [hU], ?_, va_K.moved hW.alike hX.2.2.2.2.2.2.2.2.1, (hD.sub φ hnd hs).weaken (fun _ _ _ _ => trivial), fun w hw => qnest_warm (ntb_nest hw) hW (hX.2.2.2.2.2.2.1 w hw), ?_⟩
  · rw [hU]
    intro k q hk
    obtain ⟨i, h1, h2⟩ := qsub_i hs hk
    exact hP i q h2
  · rw [hU]
    exact ((hX.2.2.2.2.2.2.2.2.2.2.1.kept (H1 := H) hS.2.1).narrow (va_free hD hS hX.2.2.2.2.2.2.2.2.2.1 φ hs)).moved hW.alike
theorem qrun_ret (hX : qok X cc own nL ret d) {φ : List Nat} {Ws : List AC} (hsub : φ.map (fun i => Wd[i]?) = Ws.map (fun c => some (qrc φ c))) (hnd : va_nd φ = true) {r : Option Value × List AC} (hrl : r.2.length = Ws.length) {H : Heap} {locs : List Loc} {ls : Array Slot} {st0 rest : List Value} {Q1 : State → Prop}
    (hP : va_P (X.dC, X.dI) vwCl (qw X.dA X.sA ad Wd) H) (hD : va_D X.A (qw X.dA X.sA ad Wd)) (hS : va_S X.A X.s.heap H locs)
    (hr : va_Run X.p X.l X.e X.R X.s X.m X.args X.below X.meth X.c H locs cells slots 0 0 (F0 X.m pc ls st0) rest (fun st oc t => qPost X.dC X.dI X.dA X.sA (fun k => ad (qf φ k)) Ws.length (va_A (qw X.dA X.sA (fun k => ad (qf φ k)) Ws) H.size) r oc t ∧ va_F (va_A (qw X.dA X.sA (fun k => ad (qf φ k)) Ws) H.size) st t) (va_A (qw X.dA X.sA (fun k => ad (qf φ k)) Ws) H.size))
    (kk : ∀ (H1 : Heap) (locs1 : List Loc), va_P (X.dC, X.dI) vwCl (qw X.dA X.sA ad (qput Wd φ (r.2.map (qrc φ)))) H1 → va_D X.A (qw X.dA X.sA ad (qput Wd φ (r.2.map (qrc φ)))) → va_S X.A X.s.heap H1 locs1 → W X.p X.l X.e X.R X.s X.m X.args X.below X.meth X.c H1 locs1 cells slots Q1 (F0 X.m (pc + 3) ls ((r.1.map (qrv φ)).toList.map (qv X.sA ad) ++ rest))) :
    W X.p X.l X.e X.R X.s X.m X.args X.below X.meth X.c H locs cells slots Q1 (F0 X.m pc ls st0) := by
  have hs := qsub_w (dA := X.dA) (sA := X.sA) (ad := ad) hsub
  have hlen : φ.length = Ws.length := by have := congrArg List.length hsub; simpa using this
  have hF := va_free hD hS hX.2.2.2.2.2.2.2.2.2.1 φ hs
  have hin : ∀ j ∈ φ, j < Wd.length := by
    intro j hj
    obtain ⟨k, hk⟩ := List.getElem?_of_mem hj
    have hk2 : k < Ws.length := by rw [← hlen]; exact (List.getElem?_eq_some_iff.mp hk).1
    obtain ⟨i, h1, h2⟩ := qsub_at hsub (List.getElem?_eq_getElem hk2)
    rw [hk] at h1
    cases h1
    exact (List.getElem?_eq_some_iff.mp h2).1
  intro T hT XX
  obtain ⟨v, st₀, t, T', L, h0, X', hL, e1, e2, ⟨⟨ad', hag, hv, hP1, hK1, hD1⟩, hz, hk⟩, stp⟩ := hr T hT XX
  have had : ad' = fun k => ad (qf φ k) := funext fun k => hag k (by omega)
  subst had
  have hv2 : v = r.1.map (qv X.sA (fun k => ad (qf φ k))) := Outcome.returned.inj hv
  rw [h0] at hz hk
  have hS1 : va_S X.A X.s.heap T'.heap (locs ++ L) := ⟨Nat.le_trans hS.1 (by rw [e1]; exact hz), fun q h1 h2 => by rw [e1, hk q (Nat.lt_of_lt_of_le h1 hS.1) (fun z => h2 (hF q z))]; exact hS.2.1 q h1 h2, fun q hq => by
      rcases List.mem_append.mp hq with h | h
      · exact hS.2.2 q h
      · exact hF _ (hL q h)⟩
  have hP2 : va_P (X.dC, X.dI) vwCl (qw X.dA X.sA ad (qput Wd φ (r.2.map (qrc φ)))) T'.heap := by
    intro j q hq
    rw [qw_get] at hq
    obtain ⟨c, hc, rfl⟩ := Option.map_eq_some_iff.mp hq
    by_cases hj : j ∈ φ
    · obtain ⟨k, hkj⟩ := List.getElem?_of_mem hj
      have hk2 : k < r.2.length := by rw [hrl, ← hlen]; exact (List.getElem?_eq_some_iff.mp hkj).1
      have hin1 := qput_in φ Wd (r.2.map (qrc φ)) k j (qrc φ r.2[k]) hnd hin hkj (by rw [List.getElem?_map, List.getElem?_eq_getElem hk2]; rfl)
      rw [hin1] at hc
      cases hc
      have h9 := hP1 k _ (qw_at (dA := X.dA) (sA := X.sA) (ad := fun k => ad (qf φ k)) (List.getElem?_eq_getElem hk2))
      rw [qc_ren, e1]
      rw [qf_at hkj] at h9
      exact h9
    · rw [qput_out φ _ _ j hj] at hc
      have h9 := hP j _ (qw_at (dA := X.dA) (sA := X.sA) (ad := ad) hc)
      refine h9.kept ?_
      rw [e1]
      refine hk _ h9.lt fun z => ?_
      rcases z with ⟨k, ee, h⟩ | h
      · obtain ⟨i, h1, h2⟩ := qsub_i hs h
        have hij := hD.1 i j _ _ h2 (qw_at (dA := X.dA) (sA := X.sA) (ad := ad) hc) rfl
        subst hij
        exact hj (List.mem_of_getElem? h1)
      · exact absurd h9.lt (Nat.not_lt.mpr h)
  have hD2 : va_D X.A (qw X.dA X.sA ad (qput Wd φ (r.2.map (qrc φ)))) := qD_len hD (qput_len φ Wd _)
  obtain ⟨t2, a1, b1⟩ := kk T'.heap (locs ++ L) hP2 hD2 hS1 T' rfl X'
  refine ⟨t2, stp t2 ?_, b1⟩
  have hstk : v.toList ++ rest = (r.1.map (qrv φ)).toList.map (qv X.sA ad) ++ rest := by
    rw [hv2]
    cases r.1 with
    | none => rfl
    | some z => show [qv X.sA (fun k => ad (qf φ k)) z] ++ rest = [qv X.sA ad (qrv φ z)] ++ rest; rw [qv_ren]
  rw [hstk]
  exact a1
/-- the words of a call -/
def qcV (own : String) (idx : Nat) (y : MethodName) (cc : ByteArray) (nL : Nat) (ret : Option FieldType) (n : Nat) : Prop :=
  (∀ w ∈ ([.methodLink own idx y, .instanceMethod y, .selects y.cls y y, .initialized y.cls, .code y cc nL ret] : List Cond), w ∈ gtb) ∧ y.cls ≠ "java/lang/invoke/MethodHandle" ∧ y.cls ≠ "java/lang/invoke/VarHandle" ∧ (parseMethodDescriptor y.desc).map (fun d => d.parameters.length) = some n
def qcS (own : String) (idx : Nat) (y : MethodName) (cc : ByteArray) (nL : Nat) (ret : Option FieldType) (n : Nat) : Prop :=
  (∀ w ∈ ([.methodLink own idx y, .static y, .initialized y.cls, .code y cc nL ret] : List Cond), w ∈ gtb) ∧ y.cls ≠ "java/lang/invoke/MethodHandle" ∧ y.cls ≠ "java/lang/invoke/VarHandle" ∧ (parseMethodDescriptor y.desc).map (fun d => d.parameters.length) = some n
def qcN (own : String) (idx : Nat) (y : MethodName) (cc : ByteArray) (nL : Nat) (ret : Option FieldType) (n : Nat) : Prop :=
  (∀ w ∈ ([.static y, .initialized y.cls, .code y cc nL ret] : List Cond), w ∈ gtb) ∧ Cond.methodLinkNest own idx y "QuireDesk" ∈ ntb ∧ y.cls ≠ "java/lang/invoke/MethodHandle" ∧ y.cls ≠ "java/lang/invoke/VarHandle" ∧ (parseMethodDescriptor y.desc).map (fun d => d.parameters.length) = some n
theorem qstk {sA : Nat → Nat} {φ : List Nat} {As rest : List Value} : ((As.map (qrv φ)).reverse ++ rest).map (qv sA ad) = (As.map (qv sA (fun k => ad (qf φ k)))).reverse ++ rest.map (qv sA ad) := by
  rw [List.map_append, List.map_reverse, List.map_map]
  congr 2
  apply List.map_congr_left
  intro v _
  exact qv_ren sA ad φ v
theorem qcats {sA : Nat → Nat} {rest : List Value} : ((rest.map (qv sA ad)).map (fun v => v.category)).sum = (rest.map (fun v => v.category)).sum := by
  rw [List.map_map]
  congr 1
  apply List.map_congr_left
  intro v _
  exact qv_cat sA ad v
theorem QG.callV {β : Type} {y : MethodName} {cc' : ByteArray} {nL' : Nat} {ret' : Option FieldType} {d' n idx a ci : Nat} {Pd : (Nat → Nat) → Prop} {As rest fs : List Value} {Ws : List AC} {o' : Option β} {post' : β → Option Value × List AC} {g : β → Option α} (φ : List Nat) (hX : qok X cc own nL ret d) (hw : qcV own idx y cc' nL' ret' n) (hM : QM X.l y cc' nL' ret' d' 0 0 Pd (.ref a :: As) Ws o' post') (hpd : Pd (fun k => ad (qf φ k))) (hdd : d' + 1 ≤ d) (hnl : nL' ≤ 45) (hd : qdc cc pc (.invokevirtual idx) npc) (hn : npc = pc + 3) (hcs : cells ≤ X.R.cells ∧ slots ≤ X.R.slots) (hlen : As.length = n)
    (hrc : Ws[a]? = some (.inr (ci, fs))) (hci : (vwCl[ci]?).map (fun q => q.1) = some y.cls) (hst : st = (As.map (qrv φ)).reverse ++ .ref (qf φ a) :: rest) (hrest : (rest.map (fun v => v.category)).sum ≤ 8) (hsub : φ.map (fun i => Wd[i]?) = Ws.map (fun c => some (qrc φ c))) (hnd : va_nd φ = true) (hrl : ∀ x, (post' x).2.length = Ws.length)
    (k : ∀ x, QG X nL Q (g x) npc lv (((post' x).1.map (qrv φ)).toList ++ rest) (qput Wd φ ((post' x).2.map (qrc φ))) ad cells slots) : QG X nL Q (o'.bind g) pc lv st Wd ad cells slots :=
  fun x h H locs ls hP hD hS hl => by
    subst hn; subst hst
    obtain ⟨u, hu, hg⟩ := Option.bind_eq_some_iff.mp h
    have hs := qsub_w (dA := X.dA) (sA := X.sA) (ad := ad) hsub
    obtain ⟨q, hq, hqc⟩ := Option.map_eq_some_iff.mp hci
    have hPs : va_P (X.dC, X.dI) vwCl (qw X.dA X.sA (fun k => ad (qf φ k)) Ws) H := fun k q hk => by
      obtain ⟨i, h1, h2⟩ := qsub_i hs hk
      exact hP i q h2
    have hT : GoodIn gtb (wsV own idx y.cls y (Cond.code y cc' nL' ret' :: gtb)) := by
      refine gtb_goodIn fun w hw' => ?_
      rcases List.mem_append.mp hw' with h1 | h1
      · exact hw.1 w (by simp only [List.mem_cons, List.not_mem_nil, or_false] at h1 ⊢; rcases h1 with h1 | h1 | h1 | h1 <;> simp [h1])
      · rcases List.mem_cons.mp h1 with h1 | h1
        · exact hw.1 w (by simp [h1])
        · exact h1
    rw [show (As.map (qrv φ)).reverse ++ .ref (qf φ a) :: rest = ((As.map (qrv φ)).reverse ++ (.ref (qf φ a) :: rest)) from rfl, qstk]
    refine qrun_ret hX hsub hnd (hrl u) hP hD hS
      (va_runV (As := As.map (qv X.sA (fun k => ad (qf φ k)))) (b := ad (qf φ a)) (rest := rest.map (qv X.sA ad)) ⟨hX.1, hX.2.1, hX.2.2.2.1, hX.2.2.2.2.1, hX.2.2.2.2.2.1⟩ (hM u hu X.dC X.dI X.dA X.sA (fun k => ad (qf φ k)) H.size hpd)
        (cwV n hX.2.2.2.2.2.1 hT rfl rfl rfl ⟨rfl, hw.2⟩ ⟨Nat.le_trans hdd hX.2.2.2.2.2.2.2.2.2.2.2.1, ?_⟩)
        ⟨qpre_blind, ?_, fun U hU hW => ⟨rfl, qpre_at hX hsub hnd hP hD hS hU hW⟩⟩ rfl (by rw [List.length_map]; exact hlen) (hl.1.trans rfl) rfl (lv_room (by rw [qcats]; exact hrest)) (qdcn hd rfl) ⟨hcs.1, hcs.2⟩)
      (fun H1 locs1 hP1 hD1 hS1 => ?_)
    · have := hX.2.2.2.2.2.2.2.2.2.2.2.2
      show 8 + (nL' + 11) + 64 * d' ≤ X.R.locals
      omega
    · have h9 := va_recv hX.2.2.2.2.2.2.2.2.1 hPs hq (qw_at (dA := X.dA) (sA := X.sA) (ad := fun k => ad (qf φ k)) hrc)
      rw [hqc] at h9
      exact h9
    · have := k u x hg H1 locs1 ls hP1 hD1 hS1 hl
      rw [List.map_append] at this
      exact this
theorem QG.callS {β : Type} {y : MethodName} {cc' : ByteArray} {nL' : Nat} {ret' : Option FieldType} {d' n idx : Nat} {Pd : (Nat → Nat) → Prop} {As rest : List Value} {Ws : List AC} {o' : Option β} {post' : β → Option Value × List AC} {g : β → Option α} (φ : List Nat) (hX : qok X cc own nL ret d) (hw : qcS own idx y cc' nL' ret' n) (hM : QM X.l y cc' nL' ret' d' 0 0 Pd As Ws o' post') (hpd : Pd (fun k => ad (qf φ k))) (hdd : d' + 1 ≤ d) (hnl : nL' ≤ 45) (hd : qdc cc pc (.invokestatic idx) npc) (hn : npc = pc + 3) (hcs : cells ≤ X.R.cells ∧ slots ≤ X.R.slots) (hlen : As.length = n)
    (hst : st = (As.map (qrv φ)).reverse ++ rest) (hrest : (rest.map (fun v => v.category)).sum ≤ 8) (hsub : φ.map (fun i => Wd[i]?) = Ws.map (fun c => some (qrc φ c))) (hnd : va_nd φ = true) (hrl : ∀ x, (post' x).2.length = Ws.length)
    (k : ∀ x, QG X nL Q (g x) npc lv (((post' x).1.map (qrv φ)).toList ++ rest) (qput Wd φ ((post' x).2.map (qrc φ))) ad cells slots) : QG X nL Q (o'.bind g) pc lv st Wd ad cells slots :=
  fun x h H locs ls hP hD hS hl => by
    subst hn; subst hst
    obtain ⟨u, hu, hg⟩ := Option.bind_eq_some_iff.mp h
    have hT : GoodIn gtb (va_wsS own idx y (Cond.code y cc' nL' ret' :: gtb)) := by
      refine gtb_goodIn fun w hw' => ?_
      rcases List.mem_append.mp hw' with h1 | h1
      · exact hw.1 w (by simp only [List.mem_cons, List.not_mem_nil, or_false] at h1 ⊢; rcases h1 with h1 | h1 | h1 <;> simp [h1])
      · rcases List.mem_cons.mp h1 with h1 | h1
        · exact hw.1 w (by simp [h1])
        · exact h1
    rw [qstk]
    refine qrun_ret hX hsub hnd (hrl u) hP hD hS
      (va_runS (As := As.map (qv X.sA (fun k => ad (qf φ k)))) (rest := rest.map (qv X.sA ad)) ⟨hX.1, hX.2.1, hX.2.2.2.1, hX.2.2.2.2.1, hX.2.2.2.2.2.1⟩ (hM u hu X.dC X.dI X.dA X.sA (fun k => ad (qf φ k)) H.size hpd)
        (va_cwS n hX.2.2.2.2.2.1 hT rfl rfl rfl hw.2 ⟨Nat.le_trans hdd hX.2.2.2.2.2.2.2.2.2.2.2.1, ?_⟩)
        ⟨qpre_blind, fun U hU hW => ⟨rfl, qpre_at hX hsub hnd hP hD hS hU hW⟩⟩ rfl (by rw [List.length_map]; exact hlen) (hl.1.trans rfl) rfl (lv_room (by rw [qcats]; exact hrest)) (qdcn hd rfl) ⟨hcs.1, hcs.2⟩)
      (fun H1 locs1 hP1 hD1 hS1 => ?_)
    · have := hX.2.2.2.2.2.2.2.2.2.2.2.2
      show 8 + (nL' + 11) + 64 * d' ≤ X.R.locals
      omega
    · have := k u x hg H1 locs1 ls hP1 hD1 hS1 hl
      rw [List.map_append] at this
      exact this
theorem QG.callN {β : Type} {y : MethodName} {cc' : ByteArray} {nL' : Nat} {ret' : Option FieldType} {d' n idx : Nat} {Pd : (Nat → Nat) → Prop} {As rest : List Value} {Ws : List AC} {o' : Option β} {post' : β → Option Value × List AC} {g : β → Option α} (φ : List Nat) (hX : qok X cc own nL ret d) (hw : qcN own idx y cc' nL' ret' n) (hM : QM X.l y cc' nL' ret' d' 0 0 Pd As Ws o' post') (hpd : Pd (fun k => ad (qf φ k))) (hdd : d' + 1 ≤ d) (hnl : nL' ≤ 45) (hd : qdc cc pc (.invokestatic idx) npc) (hn : npc = pc + 3) (hcs : cells ≤ X.R.cells ∧ slots ≤ X.R.slots) (hlen : As.length = n)
    (hst : st = (As.map (qrv φ)).reverse ++ rest) (hrest : (rest.map (fun v => v.category)).sum ≤ 8) (hsub : φ.map (fun i => Wd[i]?) = Ws.map (fun c => some (qrc φ c))) (hnd : va_nd φ = true) (hrl : ∀ x, (post' x).2.length = Ws.length)
    (k : ∀ x, QG X nL Q (g x) npc lv (((post' x).1.map (qrv φ)).toList ++ rest) (qput Wd φ ((post' x).2.map (qrc φ))) ad cells slots) : QG X nL Q (o'.bind g) pc lv st Wd ad cells slots :=
  fun x h H locs ls hP hD hS hl => by
    subst hn; subst hst
    obtain ⟨u, hu, hg⟩ := Option.bind_eq_some_iff.mp h
    have hT : GoodIn gtb (Cond.code y cc' nL' ret' :: gtb) := by
      refine gtb_goodIn fun w h1 => ?_
      rcases List.mem_cons.mp h1 with h1 | h1
      · exact hw.1 w (by simp [h1])
      · exact h1
    rw [qstk]
    refine qrun_ret hX hsub hnd (hrl u) hP hD hS
      (va_runSN (As := As.map (qv X.sA (fun k => ad (qf φ k)))) (rest := rest.map (qv X.sA ad)) ⟨hX.1, hX.2.1, hX.2.2.2.1, hX.2.2.2.2.1, hX.2.2.2.2.2.1⟩ (hM u hu X.dC X.dI X.dA X.sA (fun k => ad (qf φ k)) H.size hpd)
        ⟨va_cnB n hX.2.2.2.2.2.1 hT rfl rfl rfl (hX.2.2.2.2.2.2.1 _ hw.2.1) (hX.2.2.2.2.2.1 _ (hw.1 _ (by simp))) hw.2.2 ⟨Nat.le_trans hdd hX.2.2.2.2.2.2.2.2.2.2.2.1, ?_⟩, hX.2.2.2.2.2.1 _ (hw.1 _ (by simp)), trivial⟩
        ⟨qpre_blind, fun U hU hW => ⟨rfl, qpre_at hX hsub hnd hP hD hS hU hW⟩⟩ rfl (by rw [List.length_map]; exact hlen) (hl.1.trans rfl) rfl (lv_room (by rw [qcats]; exact hrest)) (qdcn hd rfl) ⟨hcs.1, hcs.2⟩)
      (fun H1 locs1 hP1 hD1 hS1 => ?_)
    · have := hX.2.2.2.2.2.2.2.2.2.2.2.2
      show 8 + (nL' + 11) + 64 * d' ≤ X.R.locals
      omega
    · have := k u x hg H1 locs1 ls hP1 hD1 hS1 hl
      rw [List.map_append] at this
      exact this
end R4
end
section
section R5
variable {α : Type} {X : QX} {cc : ByteArray} {own : String} {nL : Nat} {ret : Option FieldType} {d : Nat} {Q : α → State → Prop} {o oT oF : Option α} {pc npc : Nat} {lv : LV} {st : List Value} {Wd : List AC} {ad : Nat → Nat} {cells slots : Nat}
theorem qfree0 (hX : qok X cc own nL ret d) {H : Heap} {locs : List Loc} (hD : va_D X.A (qw X.dA X.sA ad Wd)) (hS : va_S X.A X.s.heap H locs) : ∀ q, va_A (qw X.dA X.sA ad Wd) H.size q → X.A q := by
  intro q h
  rcases h with ⟨k, e, h⟩ | h
  · exact hD.2 k _ h
  · exact hX.2.2.2.2.2.2.2.2.2.1 q (Nat.le_trans hS.1 h)
theorem qpre_at0 (hX : qok X cc own nL ret d) {H : Heap} {locs : List Loc} (hP : va_P (X.dC, X.dI) vwCl (qw X.dA X.sA ad Wd) H) (hD : va_D X.A (qw X.dA X.sA ad Wd)) (hS : va_S X.A X.s.heap H locs) {U : State} (hU : U.heap = H) (hW : X.s.WarmedH U.vm) :
    U.heap.size = H.size ∧ qPre X.dC X.dI X.dA X.sA ad Wd (va_A (qw X.dA X.sA ad Wd) H.size) U := by
  refine ⟨by rw [hU], by rw [hU]; exact hP, va_K.moved hW.alike hX.2.2.2.2.2.2.2.2.1, hD.weaken (fun _ _ _ _ => trivial), fun w hw => qnest_warm (ntb_nest hw) hW (hX.2.2.2.2.2.2.1 w hw), ?_⟩
  rw [hU]
  exact ((hX.2.2.2.2.2.2.2.2.2.2.1.kept (H1 := H) hS.2.1).narrow (qfree0 hX hD hS)).moved hW.alike
theorem qrun_ret0 (hX : qok X cc own nL ret d) {r : Option Value × List AC} (hrl : r.2.length = Wd.length) {H : Heap} {locs : List Loc} {ls : Array Slot} {st0 rest : List Value} {Q1 : State → Prop}
    (hD : va_D X.A (qw X.dA X.sA ad Wd)) (hS : va_S X.A X.s.heap H locs)
    (hr : va_Run X.p X.l X.e X.R X.s X.m X.args X.below X.meth X.c H locs cells slots 0 0 (F0 X.m pc ls st0) rest (fun st oc t => qPost X.dC X.dI X.dA X.sA ad Wd.length (va_A (qw X.dA X.sA ad Wd) H.size) r oc t ∧ va_F (va_A (qw X.dA X.sA ad Wd) H.size) st t) (va_A (qw X.dA X.sA ad Wd) H.size))
    (kk : ∀ (H1 : Heap) (locs1 : List Loc), va_P (X.dC, X.dI) vwCl (qw X.dA X.sA ad r.2) H1 → va_D X.A (qw X.dA X.sA ad r.2) → va_S X.A X.s.heap H1 locs1 → W X.p X.l X.e X.R X.s X.m X.args X.below X.meth X.c H1 locs1 cells slots Q1 (F0 X.m (pc + 3) ls (r.1.toList.map (qv X.sA ad) ++ rest))) :
    W X.p X.l X.e X.R X.s X.m X.args X.below X.meth X.c H locs cells slots Q1 (F0 X.m pc ls st0) := by
  have hF := qfree0 hX hD hS
  intro T hT XX
  obtain ⟨v, st₀, t, T', L, h0, X', hL, e1, e2, ⟨⟨ad', hag, hv, hP1, hK1, hD1⟩, hz, hk⟩, stp⟩ := hr T hT XX
  have had : ad' = ad := funext fun k => hag k (by omega)
  subst had
  have hv2 : v = r.1.map (qv X.sA ad') := Outcome.returned.inj hv
  rw [h0] at hz hk
  have hS1 : va_S X.A X.s.heap T'.heap (locs ++ L) := ⟨Nat.le_trans hS.1 (by rw [e1]; exact hz), fun q h1 h2 => by rw [e1, hk q (Nat.lt_of_lt_of_le h1 hS.1) (fun z => h2 (hF q z))]; exact hS.2.1 q h1 h2, fun q hq => by
      rcases List.mem_append.mp hq with h | h
      · exact hS.2.2 q h
      · exact hF _ (hL q h)⟩
  obtain ⟨t2, a1, b1⟩ := kk T'.heap (locs ++ L) (by rw [e1]; exact hP1) (hD1.weaken (fun k q _ h => hF q.1 h)) hS1 T' rfl X'
  refine ⟨t2, stp t2 ?_, b1⟩
  have hstk : v.toList ++ rest = r.1.toList.map (qv X.sA ad') ++ rest := by
    rw [hv2]
    cases r.1 <;> rfl
  rw [hstk]
  exact a1
theorem QG.callV0 {β : Type} {y : MethodName} {cc' : ByteArray} {nL' : Nat} {ret' : Option FieldType} {d' n idx a ci : Nat} {Pd : (Nat → Nat) → Prop} {As rest fs : List Value} {o' : Option β} {post' : β → Option Value × List AC} {g : β → Option α} (hX : qok X cc own nL ret d) (hw : qcV own idx y cc' nL' ret' n) (hM : QM X.l y cc' nL' ret' d' 0 0 Pd (.ref a :: As) Wd o' post') (hpd : Pd ad) (hdd : d' + 1 ≤ d) (hnl : nL' ≤ 45) (hd : qdc cc pc (.invokevirtual idx) npc) (hn : npc = pc + 3) (hcs : cells ≤ X.R.cells ∧ slots ≤ X.R.slots) (hlen : As.length = n)
    (hrc : Wd[a]? = some (.inr (ci, fs))) (hci : (vwCl[ci]?).map (fun q => q.1) = some y.cls) (hst : st = As.reverse ++ .ref a :: rest) (hrest : (rest.map (fun v => v.category)).sum ≤ 8) (hrl : ∀ x, (post' x).2.length = Wd.length)
    (k : ∀ x, QG X nL Q (g x) npc lv ((post' x).1.toList ++ rest) (post' x).2 ad cells slots) : QG X nL Q (o'.bind g) pc lv st Wd ad cells slots :=
  fun x h H locs ls hP hD hS hl => by
    subst hn; subst hst
    obtain ⟨u, hu, hg⟩ := Option.bind_eq_some_iff.mp h
    obtain ⟨q, hq, hqc⟩ := Option.map_eq_some_iff.mp hci
    have hT : GoodIn gtb (wsV own idx y.cls y (Cond.code y cc' nL' ret' :: gtb)) := by
      refine gtb_goodIn fun w hw' => ?_
      rcases List.mem_append.mp hw' with h1 | h1
      · exact hw.1 w (by simp only [List.mem_cons, List.not_mem_nil, or_false] at h1 ⊢; rcases h1 with h1 | h1 | h1 | h1 <;> simp [h1])
      · rcases List.mem_cons.mp h1 with h1 | h1
        · exact hw.1 w (by simp [h1])
        · exact h1
    rw [List.map_append, List.map_reverse]
    refine qrun_ret0 hX (hrl u) hD hS
      (va_runV (As := As.map (qv X.sA ad)) (b := ad a) (rest := rest.map (qv X.sA ad)) ⟨hX.1, hX.2.1, hX.2.2.2.1, hX.2.2.2.2.1, hX.2.2.2.2.2.1⟩ (hM u hu X.dC X.dI X.dA X.sA ad H.size hpd)
        (cwV n hX.2.2.2.2.2.1 hT rfl rfl rfl ⟨rfl, hw.2⟩ ⟨Nat.le_trans hdd hX.2.2.2.2.2.2.2.2.2.2.2.1, ?_⟩)
        ⟨qpre_blind, ?_, fun U hU hW => ⟨rfl, qpre_at0 hX hP hD hS hU hW⟩⟩ rfl (by rw [List.length_map]; exact hlen) (hl.1.trans rfl) rfl (lv_room (by rw [qcats]; exact hrest)) (qdcn hd rfl) ⟨hcs.1, hcs.2⟩)
      (fun H1 locs1 hP1 hD1 hS1 => ?_)
    · have := hX.2.2.2.2.2.2.2.2.2.2.2.2
      show 8 + (nL' + 11) + 64 * d' ≤ X.R.locals
      omega
    · have h9 := va_recv hX.2.2.2.2.2.2.2.2.1 hP hq (qw_at (dA := X.dA) (sA := X.sA) (ad := ad) hrc)
      rw [hqc] at h9
      exact h9
    · have := k u x hg H1 locs1 ls hP1 hD1 hS1 hl
      rw [List.map_append] at this
      exact this
def qcM (own : String) (idx : Nat) (y : MethodName) (b : ByteArray) (n : Nat) : Prop := ∀ w ∈ ([.methodLink own idx y, .static y, .initialized "java/lang/Math", .code y b n (some .int)] : List Cond), w ∈ gtb
theorem QG.mmax {y z : Int32} {idx : Nat} (hX : qok X cc own nL ret d) (hw : qcM own idx Lib.Math.max.name Lib.Math.max.code 2) (hdd : 1 ≤ d) (hd : qdc cc pc (.invokestatic idx) npc) (hn : npc = pc + 3) (hcs : cells ≤ X.R.cells ∧ slots ≤ X.R.slots) (hrest : (st.map (fun v => v.category)).sum ≤ 8) (g : QG X nL Q o npc lv (.int (if y < z then z else y) :: st) Wd ad cells slots) : QG X nL Q o pc lv (.int z :: .int y :: st) Wd ad cells slots :=
  fun x h H locs ls hP hD hS hl => by
    subst hn
    have h1 := hX.2.2.2.2.2.2.2.2.2.2.2
    exact va_mmax hX.1 hX.2.1 (hX.2.2.2.1.trans hl.1.symm) hX.2.2.2.2.1 (hX.2.2.2.2.2.1 _ (hw _ (by simp))) (hX.2.2.2.2.2.1 _ (hw _ (by simp))) (hX.2.2.2.2.2.1 _ (hw _ (by simp))) (hX.2.2.2.2.2.1 _ (hw _ (by simp))) (by omega) (by rw [qcats]; omega) hcs.1 hcs.2 (qdcn hd rfl) (g x h H locs ls hP hD hS hl)
theorem QG.mmin {y z : Int32} {idx : Nat} (hX : qok X cc own nL ret d) (hw : qcM own idx Lib.Math.min.name Lib.Math.min.code 2) (hdd : 1 ≤ d) (hd : qdc cc pc (.invokestatic idx) npc) (hn : npc = pc + 3) (hcs : cells ≤ X.R.cells ∧ slots ≤ X.R.slots) (hrest : (st.map (fun v => v.category)).sum ≤ 8) (g : QG X nL Q o npc lv (.int (if z < y then z else y) :: st) Wd ad cells slots) : QG X nL Q o pc lv (.int z :: .int y :: st) Wd ad cells slots :=
  fun x h H locs ls hP hD hS hl => by
    subst hn
    have h1 := hX.2.2.2.2.2.2.2.2.2.2.2
    exact va_mmin hX.1 hX.2.1 (hX.2.2.2.1.trans hl.1.symm) hX.2.2.2.2.1 (hX.2.2.2.2.2.1 _ (hw _ (by simp))) (hX.2.2.2.2.2.1 _ (hw _ (by simp))) (hX.2.2.2.2.2.1 _ (hw _ (by simp))) (hX.2.2.2.2.2.1 _ (hw _ (by simp))) (by omega) (by rw [qcats]; omega) hcs.1 hcs.2 (qdcn hd rfl) (g x h H locs ls hP hD hS hl)
theorem QG.mabs {y : Int32} {idx : Nat} (hX : qok X cc own nL ret d) (hw : qcM own idx Lib.Math.abs.name Lib.Math.abs.code 1) (hdd : 1 ≤ d) (hd : qdc cc pc (.invokestatic idx) npc) (hn : npc = pc + 3) (hcs : cells ≤ X.R.cells ∧ slots ≤ X.R.slots) (hrest : (st.map (fun v => v.category)).sum ≤ 8) (g : QG X nL Q o npc lv (.int (if 0 ≤ y then y else 0 - y) :: st) Wd ad cells slots) : QG X nL Q o pc lv (.int y :: st) Wd ad cells slots :=
  fun x h H locs ls hP hD hS hl => by
    subst hn
    have h1 := hX.2.2.2.2.2.2.2.2.2.2.2
    exact va_mabs hX.1 hX.2.1 (hX.2.2.2.1.trans hl.1.symm) hX.2.2.2.2.1 (hX.2.2.2.2.2.1 _ (hw _ (by simp))) (hX.2.2.2.2.2.1 _ (hw _ (by simp))) (hX.2.2.2.2.2.1 _ (hw _ (by simp))) (hX.2.2.2.2.2.1 _ (hw _ (by simp))) (by omega) (by rw [qcats]; omega) hcs.1 hcs.2 (qdcn hd rfl) (g x h H locs ls hP hD hS hl)
def cpok (sp dp n : Int32) (n0 n1 : Nat) : Bool := decide (0 ≤ sp) && decide (0 ≤ dp) && decide (0 ≤ n) && decide (sp.toNatClampNeg + n.toNatClampNeg ≤ n0) && decide (dp.toNatClampNeg + n.toNatClampNeg ≤ n1)
def qcA (own : String) (idx : Nat) : Prop := ∀ w ∈ ([.methodLink own idx arraycopyName, .native arraycopyName, .static arraycopyName, .initialized "java/lang/System"] : List Cond), w ∈ gtb
theorem QG.acopy {idx a0 a1 n0 n1 : Nat} {f f1 : Nat → Int32} {sp dp n : Int32} (hX : qok X cc own nL ret d) (hw : qcA own idx) (hdd : 1 ≤ d) (hd : qdc cc pc (.invokestatic idx) npc) (hn : npc = pc + 3) (hrest : (st.map (fun v => v.category)).sum ≤ 8) (h0 : Wd[a0]? = some (.inl (0, n0, .inl f))) (h1 : Wd[a1]? = some (.inl (0, n1, .inl f1))) {Wd' : List AC} (hw' : Wd.set a1 (.inl (0, n1, .inl (va_cpy f f1 sp.toNatClampNeg dp.toNatClampNeg n.toNatClampNeg))) = Wd') (g : QG X nL Q o npc lv st Wd' ad cells slots) : QG X nL Q (ck (cpok sp dp n n0 n1) o) pc lv (.int n :: .int dp :: .ref a1 :: .int sp :: .ref a0 :: st) Wd ad cells slots :=
  QG.chk fun hi x h H locs ls hP hD hS hl => by
    subst hn; subst hw'
    have hR := hX.2.2.2.2.2.2.2.2.2.2.2
    simp only [cpok, Bool.and_eq_true, decide_eq_true_eq] at hi
    refine va_copyi (D := (X.dC, X.dI)) (cl := vwCl) (ty := .int) hX.1 hX.2.1 (hX.2.2.2.1.trans hl.1.symm) hX.2.2.2.2.1 (hX.2.2.2.2.2.1 _ (hw _ (by simp))) (hX.2.2.2.2.2.1 _ (hw _ (by simp))) (hX.2.2.2.2.2.1 _ (hw _ (by simp))) (hX.2.2.2.2.2.1 _ (hw _ (by simp))) hX.2.2.2.2.2.2.2.2.1 hP hD hS a0 a1 0 0 (qw_at h0) (qw_at h1) rfl rfl rfl (Int32.not_lt.mpr hi.1.1.1.1) (Int32.not_lt.mpr hi.1.1.1.2) (Int32.not_lt.mpr hi.1.1.2) hi.1.2 hi.2 (fun _ _ => rfl) (by omega) ?_ (qdcn hd rfl) fun H1 locs1 hP1 hD1 hS1 => ?_
    · rw [qcats]
      have : nativeFrameWords "java/lang/System" "arraycopy" 5 + 11 ≤ 50 := by decide +kernel
      omega
    · rw [show (ad a1, (Sum.inl (X.dA 0, n1, .inl (va_cpy f f1 sp.toNatClampNeg dp.toNatClampNeg n.toNatClampNeg)) : va_E)) = (ad a1, qc X.dA X.sA ad (.inl (0, n1, .inl (va_cpy f f1 sp.toNatClampNeg dp.toNatClampNeg n.toNatClampNeg)))) from rfl, qw_set] at hP1 hD1
      exact g x h H1 locs1 ls hP1 hD1 hS1 hl
theorem QG.acmp_ne {z : Option Nat} {r : Nat} {b : Bool} {off : Int} {tgt : Nat} (hX : qok X cc own nL ret d) (hd : qdc cc pc (.if_acmp .ne off) npc) (hn : npc = pc + 3) (ht : (pc : Int) + off = (tgt : Int)) (h1 : b = true → z.map ad = some (ad r)) (h2 : b = false → z.map ad ≠ some (ad r)) (gT : QG X nL Q oT tgt lv st Wd ad cells slots) (gF : QG X nL Q oF npc lv st Wd ad cells slots) : QG X nL Q (if b = true then oF else oT) pc lv (va_rf z :: .ref r :: st) Wd ad cells slots :=
  fun x h H locs ls hP hD hS hl => by
    subst hn
    rw [List.map_cons, List.map_cons, qv_rf]
    refine lv_acmp_ne (rx := some (ad r)) (ry := z.map ad) hX.1 hX.2.1 (qdcn hd rfl) ht (fun c => ?_) (fun c => ?_)
    · cases b with
      | true => exact absurd (h1 rfl).symm c
      | false => exact gT x h H locs ls hP hD hS hl
    · cases b with
      | true => exact gF x h H locs ls hP hD hS hl
      | false => exact absurd c.symm (h2 rfl)
end R5
def qtab (cc : ByteArray) (l : List (Nat × Instr × Nat)) : Bool := l.all (fun e => decide (decode cc e.1 = .ok (e.2.1, e.2.2 - e.1)) && decide (e.1 ≤ e.2.2))
theorem qd {cc : ByteArray} {l : List (Nat × Instr × Nat)} (h : qtab cc l = true) (k : Nat) {pc npc : Nat} {i : Instr} (he : l[k]? = some (pc, i, npc)) : qdc cc pc i npc := by
  have h1 := List.all_eq_true.mp h _ (List.mem_of_getElem? he)
  simp only [Bool.and_eq_true, decide_eq_true_eq] at h1
  exact h1
def FU : Nat := 1048576
end
section
def F_X7_isHanging (p0 : Int32) : Option (Bool) :=
  if p0 = 1 then
    some true
  else
    if p0 = 2 then
      some true
    else
      some false
def F_X7_together (p0 : Int32) (p1 : Int32) : Option (Int32) :=
  if p0 = (-1) then
    some p1
  else
    if p0 = p1 then
      some p1
    else
      if p1 = (-1) then
        some p0
      else
        some (-2)
def F_X7_isGhost (p0 : Int32) (p1 : Int32) (p2 : Int32) : Option (Bool) :=
  if ((p0 >>> ((p1 - p2) &&& 31)) &&& 1) = 0 then
    some false
  else
    some true
def F_X5_has (r_count : Int32) (p0 : Int32) : Option (Bool) :=
  if p0 < 0 then
    some false
  else
    if r_count ≤ p0 then
      some false
    else
      some true
def F_X5_shift (r_kinds : Nat → Int32) (r_whole : Nat → Int32) (r_marks : Nat → Int32) (p0 : Int32) (p1 : Int32) : Option ((Nat → Int32) × (Nat → Int32) × (Nat → Int32)) :=
  ck (inb p0 30) <|
  ck (inb p1 30) <|
  ck (inb p0 30) <|
  ck (inb p1 30) <|
  ck (cpok (p0 * 7) (p1 * 7) 7 210 210) <|
  some (upd r_kinds p1.toNatClampNeg (r_kinds p0.toNatClampNeg), upd r_whole p1.toNatClampNeg (r_whole p0.toNatClampNeg), va_cpy r_marks r_marks (p0 * 7).toNatClampNeg (p1 * 7).toNatClampNeg (7 : Int32).toNatClampNeg)
def F_X5_insert_b74 : Nat → (Nat → Int32) → (Nat → Int32) → (Nat → Int32) → Int32 → Int32 → Int32 → Option (Int32 × (Nat → Int32) × (Nat → Int32) × (Nat → Int32) × Int32 × Bool)
  | 0, _, _, _, _, _, _ => none
  | n + 1, r_kinds, r_whole, r_marks, r_count, x1, x3 =>
    if 7 ≤ x3 then
      some (r_count + 1, r_kinds, r_whole, r_marks, r_count + 1, true)
    else
      ck (inb ((x1 * 7) + x3) 210) <|
      F_X5_insert_b74 n r_kinds r_whole (upd r_marks ((x1 * 7) + x3).toNatClampNeg 0) r_count x1 (x3 + 1)
def F_X5_insert_b38 : Nat → (Nat → Int32) → (Nat → Int32) → (Nat → Int32) → Int32 → Int32 → Int32 → Int32 → Option (Int32 × (Nat → Int32) × (Nat → Int32) × (Nat → Int32) × Int32 × Bool)
  | 0, _, _, _, _, _, _, _ => none
  | n + 1, r_kinds, r_whole, r_marks, r_count, x1, x2, x3 =>
    if x3 ≤ x1 then
      ck (inb x1 30) <|
      ck (inb x1 30) <|
      F_X5_insert_b74 FU (upd r_kinds x1.toNatClampNeg x2) (upd r_whole x1.toNatClampNeg 7) r_marks r_count x1 0
    else
      (F_X5_shift r_kinds r_whole r_marks (x3 - 1) x3).bind fun c48 =>
      F_X5_insert_b38 n c48.1 c48.2.1 c48.2.2 r_count x1 x2 (x3 + (-1))
def F_X5_insert (r_kinds : Nat → Int32) (r_whole : Nat → Int32) (r_marks : Nat → Int32) (r_count : Int32) (r_changed : Bool) (p0 : Int32) (p1 : Int32) : Option (Int32 × (Nat → Int32) × (Nat → Int32) × (Nat → Int32) × Int32 × Bool) :=
  if p0 < 0 then
    some ((-1), r_kinds, r_whole, r_marks, r_count, r_changed)
  else
    if r_count < p0 then
      some ((-1), r_kinds, r_whole, r_marks, r_count, r_changed)
    else
      if 30 ≤ r_count then
        some ((-1), r_kinds, r_whole, r_marks, r_count, r_changed)
      else
        if p1 < 1 then
          some ((-1), r_kinds, r_whole, r_marks, r_count, r_changed)
        else
          if p1 ≤ 5 then
            F_X5_insert_b38 FU r_kinds r_whole r_marks r_count p0 p1 r_count
          else
            some ((-1), r_kinds, r_whole, r_marks, r_count, r_changed)
def F_X5_remove_b14 : Nat → (Nat → Int32) → (Nat → Int32) → (Nat → Int32) → Int32 → Int32 → Option (Int32 × (Nat → Int32) × (Nat → Int32) × (Nat → Int32) × Int32 × Bool)
  | 0, _, _, _, _, _ => none
  | n + 1, r_kinds, r_whole, r_marks, r_count, x2 =>
    if r_count ≤ x2 then
      some (r_count - 1, r_kinds, r_whole, r_marks, r_count - 1, true)
    else
      (F_X5_shift r_kinds r_whole r_marks x2 (x2 - 1)).bind fun c27 =>
      F_X5_remove_b14 n c27.1 c27.2.1 c27.2.2 r_count (x2 + 1)
def F_X5_remove (r_kinds : Nat → Int32) (r_whole : Nat → Int32) (r_marks : Nat → Int32) (r_count : Int32) (r_changed : Bool) (p0 : Int32) : Option (Int32 × (Nat → Int32) × (Nat → Int32) × (Nat → Int32) × Int32 × Bool) :=
  (F_X5_has r_count p0).bind fun c2 =>
  if (qb c2) = 0 then
    some ((-1), r_kinds, r_whole, r_marks, r_count, r_changed)
  else
    F_X5_remove_b14 FU r_kinds r_whole r_marks r_count (p0 + 1)
def F_X5_setMark (r_whole : Nat → Int32) (r_marks : Nat → Int32) (r_count : Int32) (r_changed : Bool) (p0 : Int32) (p1 : Int32) (p2 : Int32) : Option (Bool × (Nat → Int32) × Bool) :=
  (F_X5_has r_count p0).bind fun c2 =>
  if (qb c2) = 0 then
    some (false, r_marks, r_changed)
  else
    if p1 < 0 then
      some (false, r_marks, r_changed)
    else
      ck (inb p0 30) <|
      if (r_whole p0.toNatClampNeg) ≤ p1 then
        some (false, r_marks, r_changed)
      else
        if p1 < 7 then
          if p2 < 0 then
            some (false, r_marks, r_changed)
          else
            ck (inb p1 7) <|
            if p2 ≤ (s_mark p1.toNatClampNeg) then
              ck (inb ((p0 * 7) + p1) 210) <|
              some (true, upd r_marks ((p0 * 7) + p1).toNatClampNeg p2, true)
            else
              some (false, r_marks, r_changed)
        else
          some (false, r_marks, r_changed)
def F_X5_tearTo_b16 : Nat → (Nat → Int32) → (Nat → Int32) → Int32 → Int32 → Int32 → Option (Int32 × (Nat → Int32) × (Nat → Int32) × Bool)
  | 0, _, _, _, _, _ => none
  | n + 1, r_whole, r_marks, x1, x2, x3 =>
    if 7 ≤ x3 then
      ck (inb x1 30) <|
      ck (inb x1 30) <|
      ck (inb x1 30) <|
      some ((upd r_whole x1.toNatClampNeg (if x2 < (r_whole x1.toNatClampNeg) then x2 else (r_whole x1.toNatClampNeg))) x1.toNatClampNeg, upd r_whole x1.toNatClampNeg (if x2 < (r_whole x1.toNatClampNeg) then x2 else (r_whole x1.toNatClampNeg)), r_marks, true)
    else
      ck (inb ((x1 * 7) + x3) 210) <|
      F_X5_tearTo_b16 n r_whole (upd r_marks ((x1 * 7) + x3).toNatClampNeg 0) x1 x2 (x3 + 1)
def F_X5_tearTo (r_whole : Nat → Int32) (r_marks : Nat → Int32) (r_count : Int32) (r_changed : Bool) (p0 : Int32) (p1 : Int32) : Option (Int32 × (Nat → Int32) × (Nat → Int32) × Bool) :=
  (F_X5_has r_count p0).bind fun c2 =>
  if (qb c2) = 0 then
    some ((-1), r_whole, r_marks, r_changed)
  else
    if 0 ≤ p1 then
      F_X5_tearTo_b16 FU r_whole r_marks p0 p1 p1
    else
      some ((-1), r_whole, r_marks, r_changed)
def F_X5_kindOf (r_kinds : Nat → Int32) (r_count : Int32) (p0 : Int32) : Option (Int32) :=
  (F_X5_has r_count p0).bind fun c2 =>
  if (qb c2) = 0 then
    some (-1)
  else
    ck (inb p0 30) <|
    some (r_kinds p0.toNatClampNeg)
def F_X5_markOf (r_marks : Nat → Int32) (r_count : Int32) (p0 : Int32) (p1 : Int32) : Option (Int32) :=
  (F_X5_has r_count p0).bind fun c2 =>
  if (qb c2) = 0 then
    some (-1)
  else
    if p1 < 0 then
      some (-1)
    else
      if 7 ≤ p1 then
        some (-1)
      else
        ck (inb ((p0 * 7) + p1) 210) <|
        some (r_marks ((p0 * 7) + p1).toNatClampNeg)
def F_X5_hanging_b27 (r_kinds : Nat → Int32) (r_count : Int32) (k4 : Int32 → Int32 → Option (Int32)) (x1 : Int32) (x2 : Int32) : Option (Int32) :=
  k4 x1 (x2 + 1)
def F_X5_hanging_b4 (r_kinds : Nat → Int32) (r_count : Int32) : Nat → Int32 → Int32 → Option (Int32)
  | 0, _, _ => none
  | n + 1, x1, x2 =>
    if r_count ≤ x2 then
      some x1
    else
      ck (inb x2 30) <|
      (F_X7_isHanging (r_kinds x2.toNatClampNeg)).bind fun c18 =>
      if (qb c18) = 0 then
        F_X5_hanging_b27 r_kinds r_count (fun x1 x2 => F_X5_hanging_b4 r_kinds r_count n x1 x2) x1 x2
      else
        F_X5_hanging_b27 r_kinds r_count (fun x1 x2 => F_X5_hanging_b4 r_kinds r_count n x1 x2) (x1 + 1) x2
def F_X5_hanging (r_kinds : Nat → Int32) (r_count : Int32) : Option (Int32) :=
  F_X5_hanging_b4 r_kinds r_count FU 0 0
def F_X5_ruleOf (r_rules : Nat → Int32) (p0 : Int32) : Option (Int32) :=
  if p0 < 2 then
    some (-1)
  else
    if 5 < p0 then
      some (-1)
    else
      ck (inb p0 6) <|
      some (r_rules p0.toNatClampNeg)
def F_X5_setRule (r_rules : Nat → Int32) (r_changed : Bool) (p0 : Int32) (p1 : Int32) : Option (Bool × (Nat → Int32) × Bool) :=
  if p0 < 2 then
    some (false, r_rules, r_changed)
  else
    if 5 < p0 then
      some (false, r_rules, r_changed)
    else
      ck (inb p0 6) <|
      if p1 < (s_low p0.toNatClampNeg) then
        some (false, r_rules, r_changed)
      else
        ck (inb p0 6) <|
        if p1 ≤ (s_top p0.toNatClampNeg) then
          ck (inb p0 6) <|
          some (true, upd r_rules p0.toNatClampNeg p1, true)
        else
          some (false, r_rules, r_changed)
def F_X5_hangs (r_kinds : Nat → Int32) (r_count : Int32) (p0 : Int32) : Option (Bool) :=
  (F_X5_has r_count p0).bind fun c2 =>
  if (qb c2) = 0 then
    some false
  else
    ck (inb p0 30) <|
    (F_X7_isHanging (r_kinds p0.toNatClampNeg)).bind fun c14 =>
    if (qb c14) = 0 then
      some false
    else
      some true
def F_X5_isCancelled (r_kinds : Nat → Int32) (r_count : Int32) (p0 : Int32) : Option (Bool) :=
  (F_X5_has r_count p0).bind fun c2 =>
  if (qb c2) = 0 then
    some false
  else
    (F_X5_has r_count (p0 + 1)).bind fun c12 =>
    if (qb c12) = 0 then
      some false
    else
      ck (inb p0 30) <|
      if (r_kinds p0.toNatClampNeg) = 2 then
        ck (inb (p0 + 1) 30) <|
        if (r_kinds (p0 + 1).toNatClampNeg) = 4 then
          some true
        else
          some false
      else
        some false
end
section
theorem ki_m1 : Int32.ofInt (-1) = (-1) := by decide +kernel
theorem ki_0 : Int32.ofInt 0 = 0 := by decide +kernel
theorem ki_1 : Int32.ofInt 1 = 1 := by decide +kernel
theorem ki_2 : Int32.ofInt 2 = 2 := by decide +kernel
theorem ki_4 : Int32.ofInt 4 = 4 := by decide +kernel
theorem ki_5 : Int32.ofInt 5 = 5 := by decide +kernel
theorem kb_m2 : (Int8.ofInt (-2)).toInt32 = (-2) := by decide +kernel
theorem kb_7 : (Int8.ofInt 7).toInt32 = 7 := by decide +kernel
theorem kb_30 : (Int8.ofInt 30).toInt32 = 30 := by decide +kernel
theorem gnX5 : ∀ w ∈ u_ws RX5 TX5 6, w ∈ gtb := gin [415, 417, 419, 421, 423, 425] (by decide +kernel) (by decide +kernel)
theorem fl_X5_9 : qfl RX5 9 5 0 := ⟨RX5, TX5, 6, tyX5, rfl, by decide, gin (ws := [Cond.fieldLink RX5 9 (TX5 0).1 (TX5 0).2.1 (TX5 0).2.2.1]) [401] (by decide +kernel) (by decide +kernel) _ List.mem_cons_self, gnX5, tyX5_ok, nmX5⟩
theorem fl_X5_15 : qfl RX5 15 5 1 := ⟨RX5, TX5, 6, tyX5, rfl, by decide, gin (ws := [Cond.fieldLink RX5 15 (TX5 1).1 (TX5 1).2.1 (TX5 1).2.2.1]) [403] (by decide +kernel) (by decide +kernel) _ List.mem_cons_self, gnX5, tyX5_ok, nmX5⟩
theorem fl_X5_18 : qfl RX5 18 5 2 := ⟨RX5, TX5, 6, tyX5, rfl, by decide, gin (ws := [Cond.fieldLink RX5 18 (TX5 2).1 (TX5 2).2.1 (TX5 2).2.2.1]) [404] (by decide +kernel) (by decide +kernel) _ List.mem_cons_self, gnX5, tyX5_ok, nmX5⟩
theorem fl_X5_21 : qfl RX5 21 5 3 := ⟨RX5, TX5, 6, tyX5, rfl, by decide, gin (ws := [Cond.fieldLink RX5 21 (TX5 3).1 (TX5 3).2.1 (TX5 3).2.2.1]) [405] (by decide +kernel) (by decide +kernel) _ List.mem_cons_self, gnX5, tyX5_ok, nmX5⟩
theorem fl_X5_24 : qfl RX5 24 5 4 := ⟨RX5, TX5, 6, tyX5, rfl, by decide, gin (ws := [Cond.fieldLink RX5 24 (TX5 4).1 (TX5 4).2.1 (TX5 4).2.2.1]) [408] (by decide +kernel) (by decide +kernel) _ List.mem_cons_self, gnX5, tyX5_ok, nmX5⟩
theorem fl_X5_28 : qfl RX5 28 5 5 := ⟨RX5, TX5, 6, tyX5, rfl, by decide, gin (ws := [Cond.fieldLink RX5 28 (TX5 5).1 (TX5 5).2.1 (TX5 5).2.2.1]) [413] (by decide +kernel) (by decide +kernel) _ List.mem_cons_self, gnX5, tyX5_ok, nmX5⟩
theorem fp_5_4 : qfp 5 4 .int = true := by decide +kernel
theorem fp_5_5 : qfp 5 5 .boolean = true := by decide +kernel
theorem kn_X5_46 : Cond.fieldLinkNest RX5 46 "QuireDesk" "MARK_TOP" "[I" "QuireDesk" ∈ ntb := nin 492 (by decide +kernel) rfl
theorem kn_X5_58 : Cond.fieldLinkNest RX5 58 "QuireDesk" "RULE_LOW" "[I" "QuireDesk" ∈ ntb := nin 541 (by decide +kernel) rfl
theorem kn_X5_61 : Cond.fieldLinkNest RX5 61 "QuireDesk" "RULE_TOP" "[I" "QuireDesk" ∈ ntb := nin 543 (by decide +kernel) rfl
theorem cw_X5_32 : qcV RX5 32 yX5_shift cX5_shift 3 none 2 := ⟨gin [465, 467, 1, 103, 468] (by decide +kernel) (by decide +kernel), by decide +kernel, by decide +kernel, by decide +kernel⟩
theorem cw_X5_36 : qcV RX5 36 yX5_has cX5_has 2 (some .boolean) 1 := ⟨gin [480, 481, 482, 103, 483] (by decide +kernel) (by decide +kernel), by decide +kernel, by decide +kernel, by decide +kernel⟩
theorem cw_X5_40 : qcA RX5 40 := gin [469, 471, 470, 105] (by decide +kernel) (by decide +kernel)
theorem cw_X5_49 : qcM RX5 49 Lib.Math.min.name Lib.Math.min.code 2 := gin [502, 503, 106, 504] (by decide +kernel) (by decide +kernel)
theorem cw_X5_55 : qcN RX5 55 yX7_isHanging cX7_isHanging 1 (some .boolean) 1 := ⟨gin [527, 96, 528] (by decide +kernel) (by decide +kernel), nin 526 (by decide +kernel) rfl, by decide +kernel, by decide +kernel, by decide +kernel⟩
theorem sw_ne {y : Int32} (n : Int) (c : Int32) (hc : c.toInt = n) (h : ¬ y = c) : y.toInt ≠ n := fun e => h (Int32.toInt_inj.mp (e.trans hc.symm))
end
section
def T_X7_isHanging : List (Nat × Instr × Nat) := [(0, .iload_n 0, 1), (1, .iconst 1, 2), (2, .if_icmp .eq 8, 5), (5, .iload_n 0, 6), (6, .iconst 2, 7), (7, .if_icmp .ne 7, 10), (10, .iconst 1, 11), (11, .goto 4, 14), (14, .iconst 0, 15), (15, .ireturn, 16)]
theorem K_X7_isHanging : qtab cX7_isHanging T_X7_isHanging = true := by decide +kernel
def T_X7_together : List (Nat × Instr × Nat) := [(0, .iload_n 0, 1), (1, .iconst (-1), 2), (2, .if_icmp .eq 8, 5), (5, .iload_n 0, 6), (6, .iload_n 1, 7), (7, .if_icmp .ne 5, 10), (10, .iload_n 1, 11), (11, .ireturn, 12), (12, .iload_n 1, 13), (13, .iconst (-1), 14), (14, .if_icmp .ne 7, 17), (17, .iload_n 0, 18), (18, .goto 5, 21), (21, .bipush (-2), 23), (23, .ireturn, 24)]
theorem K_X7_together : qtab cX7_together T_X7_together = true := by decide +kernel
def T_X7_isGhost : List (Nat × Instr × Nat) := [(0, .iload_n 0, 1), (1, .iload_n 1, 2), (2, .iload_n 2, 3), (3, .isub, 4), (4, .ishr, 5), (5, .iconst 1, 6), (6, .iand, 7), (7, .ifCond .eq 7, 10), (10, .iconst 1, 11), (11, .goto 4, 14), (14, .iconst 0, 15), (15, .ireturn, 16)]
theorem K_X7_isGhost : qtab cX7_isGhost T_X7_isGhost = true := by decide +kernel
def T_X5_has : List (Nat × Instr × Nat) := [(0, .iload_n 1, 1), (1, .ifCond .lt 15, 4), (4, .iload_n 1, 5), (5, .aload_n 0, 6), (6, .getfield 24, 9), (9, .if_icmp .ge 7, 12), (12, .iconst 1, 13), (13, .goto 4, 16), (16, .iconst 0, 17), (17, .ireturn, 18)]
theorem K_X5_has : qtab cX5_has T_X5_has = true := by decide +kernel
def T_X5_shift : List (Nat × Instr × Nat) := [(0, .aload_n 0, 1), (1, .getfield 9, 4), (4, .iload_n 2, 5), (5, .aload_n 0, 6), (6, .getfield 9, 9), (9, .iload_n 1, 10), (10, .iaload, 11), (11, .iastore, 12), (12, .aload_n 0, 13), (13, .getfield 15, 16), (16, .iload_n 2, 17), (17, .aload_n 0, 18), (18, .getfield 15, 21), (21, .iload_n 1, 22), (22, .iaload, 23), (23, .iastore, 24), (24, .aload_n 0, 25), (25, .getfield 18, 28), (28, .iload_n 1, 29), (29, .bipush 7, 31), (31, .imul, 32), (32, .aload_n 0, 33), (33, .getfield 18, 36), (36, .iload_n 2, 37), (37, .bipush 7, 39), (39, .imul, 40), (40, .bipush 7, 42), (42, .invokestatic 40, 45), (45, .return_, 46)]
theorem K_X5_shift : qtab cX5_shift T_X5_shift = true := by decide +kernel
def T_X5_insert : List (Nat × Instr × Nat) := [(0, .iload_n 1, 1), (1, .ifCond .lt 30, 4), (4, .iload_n 1, 5), (5, .aload_n 0, 6), (6, .getfield 24, 9), (9, .if_icmp .gt 22, 12), (12, .aload_n 0, 13), (13, .getfield 24, 16), (16, .bipush 30, 18), (18, .if_icmp .ge 13, 21), (21, .iload_n 2, 22), (22, .iconst 1, 23), (23, .if_icmp .lt 8, 26), (26, .iload_n 2, 27), (27, .iconst 5, 28), (28, .if_icmp .le 5, 31), (31, .iconst (-1), 32), (32, .ireturn, 33), (33, .aload_n 0, 34), (34, .getfield 24, 37), (37, .istore_n 3, 38), (38, .iload_n 3, 39), (39, .iload_n 1, 40), (40, .if_icmp .le 17, 43), (43, .aload_n 0, 44), (44, .iload_n 3, 45), (45, .iconst 1, 46), (46, .isub, 47), (47, .iload_n 3, 48), (48, .invokevirtual 32, 51), (51, .iinc 3 (-1), 54), (54, .goto (-16), 57), (57, .aload_n 0, 58), (58, .getfield 9, 61), (61, .iload_n 1, 62), (62, .iload_n 2, 63), (63, .iastore, 64), (64, .aload_n 0, 65), (65, .getfield 15, 68), (68, .iload_n 1, 69), (69, .bipush 7, 71), (71, .iastore, 72), (72, .iconst 0, 73), (73, .istore_n 3, 74), (74, .iload_n 3, 75), (75, .bipush 7, 77), (77, .if_icmp .ge 21, 80), (80, .aload_n 0, 81), (81, .getfield 18, 84), (84, .iload_n 1, 85), (85, .bipush 7, 87), (87, .imul, 88), (88, .iload_n 3, 89), (89, .iadd, 90), (90, .iconst 0, 91), (91, .iastore, 92), (92, .iinc 3 1, 95), (95, .goto (-21), 98), (98, .aload_n 0, 99), (99, .dup, 100), (100, .getfield 24, 103), (103, .iconst 1, 104), (104, .iadd, 105), (105, .putfield 24, 108), (108, .aload_n 0, 109), (109, .iconst 1, 110), (110, .putfield 28, 113), (113, .aload_n 0, 114), (114, .getfield 24, 117), (117, .ireturn, 118)]
theorem K_X5_insert : qtab cX5_insert T_X5_insert = true := by decide +kernel
def T_X5_remove : List (Nat × Instr × Nat) := [(0, .aload_n 0, 1), (1, .iload_n 1, 2), (2, .invokevirtual 36, 5), (5, .ifCond .ne 5, 8), (8, .iconst (-1), 9), (9, .ireturn, 10), (10, .iload_n 1, 11), (11, .iconst 1, 12), (12, .iadd, 13), (13, .istore_n 2, 14), (14, .iload_n 2, 15), (15, .aload_n 0, 16), (16, .getfield 24, 19), (19, .if_icmp .ge 17, 22), (22, .aload_n 0, 23), (23, .iload_n 2, 24), (24, .iload_n 2, 25), (25, .iconst 1, 26), (26, .isub, 27), (27, .invokevirtual 32, 30), (30, .iinc 2 1, 33), (33, .goto (-19), 36), (36, .aload_n 0, 37), (37, .dup, 38), (38, .getfield 24, 41), (41, .iconst 1, 42), (42, .isub, 43), (43, .putfield 24, 46), (46, .aload_n 0, 47), (47, .iconst 1, 48), (48, .putfield 28, 51), (51, .aload_n 0, 52), (52, .getfield 24, 55), (55, .ireturn, 56)]
theorem K_X5_remove : qtab cX5_remove T_X5_remove = true := by decide +kernel
def T_X5_setMark : List (Nat × Instr × Nat) := [(0, .aload_n 0, 1), (1, .iload_n 1, 2), (2, .invokevirtual 36, 5), (5, .ifCond .eq 23, 8), (8, .iload_n 2, 9), (9, .ifCond .lt 19, 12), (12, .iload_n 2, 13), (13, .aload_n 0, 14), (14, .getfield 15, 17), (17, .iload_n 1, 18), (18, .iaload, 19), (19, .if_icmp .ge 9, 22), (22, .iload_n 2, 23), (23, .bipush 7, 25), (25, .if_icmp .lt 5, 28), (28, .iconst 0, 29), (29, .ireturn, 30), (30, .iload_n 3, 31), (31, .ifCond .lt 12, 34), (34, .iload_n 3, 35), (35, .getstatic 46, 38), (38, .iload_n 2, 39), (39, .iaload, 40), (40, .if_icmp .le 5, 43), (43, .iconst 0, 44), (44, .ireturn, 45), (45, .aload_n 0, 46), (46, .getfield 18, 49), (49, .iload_n 1, 50), (50, .bipush 7, 52), (52, .imul, 53), (53, .iload_n 2, 54), (54, .iadd, 55), (55, .iload_n 3, 56), (56, .iastore, 57), (57, .aload_n 0, 58), (58, .iconst 1, 59), (59, .putfield 28, 62), (62, .iconst 1, 63), (63, .ireturn, 64)]
theorem K_X5_setMark : qtab cX5_setMark T_X5_setMark = true := by decide +kernel
def T_X5_tearTo : List (Nat × Instr × Nat) := [(0, .aload_n 0, 1), (1, .iload_n 1, 2), (2, .invokevirtual 36, 5), (5, .ifCond .eq 7, 8), (8, .iload_n 2, 9), (9, .ifCond .ge 5, 12), (12, .iconst (-1), 13), (13, .ireturn, 14), (14, .iload_n 2, 15), (15, .istore_n 3, 16), (16, .iload_n 3, 17), (17, .bipush 7, 19), (19, .if_icmp .ge 21, 22), (22, .aload_n 0, 23), (23, .getfield 18, 26), (26, .iload_n 1, 27), (27, .bipush 7, 29), (29, .imul, 30), (30, .iload_n 3, 31), (31, .iadd, 32), (32, .iconst 0, 33), (33, .iastore, 34), (34, .iinc 3 1, 37), (37, .goto (-21), 40), (40, .aload_n 0, 41), (41, .getfield 15, 44), (44, .iload_n 1, 45), (45, .aload_n 0, 46), (46, .getfield 15, 49), (49, .iload_n 1, 50), (50, .iaload, 51), (51, .iload_n 2, 52), (52, .invokestatic 49, 55), (55, .iastore, 56), (56, .aload_n 0, 57), (57, .iconst 1, 58), (58, .putfield 28, 61), (61, .aload_n 0, 62), (62, .getfield 15, 65), (65, .iload_n 1, 66), (66, .iaload, 67), (67, .ireturn, 68)]
theorem K_X5_tearTo : qtab cX5_tearTo T_X5_tearTo = true := by decide +kernel
def T_X5_kindOf : List (Nat × Instr × Nat) := [(0, .aload_n 0, 1), (1, .iload_n 1, 2), (2, .invokevirtual 36, 5), (5, .ifCond .eq 12, 8), (8, .aload_n 0, 9), (9, .getfield 9, 12), (12, .iload_n 1, 13), (13, .iaload, 14), (14, .goto 4, 17), (17, .iconst (-1), 18), (18, .ireturn, 19)]
theorem K_X5_kindOf : qtab cX5_kindOf T_X5_kindOf = true := by decide +kernel
def T_X5_markOf : List (Nat × Instr × Nat) := [(0, .aload_n 0, 1), (1, .iload_n 1, 2), (2, .invokevirtual 36, 5), (5, .ifCond .eq 27, 8), (8, .iload_n 2, 9), (9, .ifCond .lt 23, 12), (12, .iload_n 2, 13), (13, .bipush 7, 15), (15, .if_icmp .ge 17, 18), (18, .aload_n 0, 19), (19, .getfield 18, 22), (22, .iload_n 1, 23), (23, .bipush 7, 25), (25, .imul, 26), (26, .iload_n 2, 27), (27, .iadd, 28), (28, .iaload, 29), (29, .goto 4, 32), (32, .iconst (-1), 33), (33, .ireturn, 34)]
theorem K_X5_markOf : qtab cX5_markOf T_X5_markOf = true := by decide +kernel
def T_X5_hanging : List (Nat × Instr × Nat) := [(0, .iconst 0, 1), (1, .istore_n 1, 2), (2, .iconst 0, 3), (3, .istore_n 2, 4), (4, .iload_n 2, 5), (5, .aload_n 0, 6), (6, .getfield 24, 9), (9, .if_icmp .ge 24, 12), (12, .aload_n 0, 13), (13, .getfield 9, 16), (16, .iload_n 2, 17), (17, .iaload, 18), (18, .invokestatic 55, 21), (21, .ifCond .eq 6, 24), (24, .iinc 1 1, 27), (27, .iinc 2 1, 30), (30, .goto (-26), 33), (33, .iload_n 1, 34), (34, .ireturn, 35)]
theorem K_X5_hanging : qtab cX5_hanging T_X5_hanging = true := by decide +kernel
def T_X5_ruleOf : List (Nat × Instr × Nat) := [(0, .iload_n 1, 1), (1, .iconst 2, 2), (2, .if_icmp .lt 17, 5), (5, .iload_n 1, 6), (6, .iconst 5, 7), (7, .if_icmp .gt 12, 10), (10, .aload_n 0, 11), (11, .getfield 21, 14), (14, .iload_n 1, 15), (15, .iaload, 16), (16, .goto 4, 19), (19, .iconst (-1), 20), (20, .ireturn, 21)]
theorem K_X5_ruleOf : qtab cX5_ruleOf T_X5_ruleOf = true := by decide +kernel
def T_X5_setRule : List (Nat × Instr × Nat) := [(0, .iload_n 1, 1), (1, .iconst 2, 2), (2, .if_icmp .lt 26, 5), (5, .iload_n 1, 6), (6, .iconst 5, 7), (7, .if_icmp .gt 21, 10), (10, .iload_n 2, 11), (11, .getstatic 58, 14), (14, .iload_n 1, 15), (15, .iaload, 16), (16, .if_icmp .lt 12, 19), (19, .iload_n 2, 20), (20, .getstatic 61, 23), (23, .iload_n 1, 24), (24, .iaload, 25), (25, .if_icmp .le 5, 28), (28, .iconst 0, 29), (29, .ireturn, 30), (30, .aload_n 0, 31), (31, .getfield 21, 34), (34, .iload_n 1, 35), (35, .iload_n 2, 36), (36, .iastore, 37), (37, .aload_n 0, 38), (38, .iconst 1, 39), (39, .putfield 28, 42), (42, .iconst 1, 43), (43, .ireturn, 44)]
theorem K_X5_setRule : qtab cX5_setRule T_X5_setRule = true := by decide +kernel
def T_X5_hangs : List (Nat × Instr × Nat) := [(0, .aload_n 0, 1), (1, .iload_n 1, 2), (2, .invokevirtual 36, 5), (5, .ifCond .eq 19, 8), (8, .aload_n 0, 9), (9, .getfield 9, 12), (12, .iload_n 1, 13), (13, .iaload, 14), (14, .invokestatic 55, 17), (17, .ifCond .eq 7, 20), (20, .iconst 1, 21), (21, .goto 4, 24), (24, .iconst 0, 25), (25, .ireturn, 26)]
theorem K_X5_hangs : qtab cX5_hangs T_X5_hangs = true := by decide +kernel
def T_X5_isCancelled : List (Nat × Instr × Nat) := [(0, .aload_n 0, 1), (1, .iload_n 1, 2), (2, .invokevirtual 36, 5), (5, .ifCond .eq 39, 8), (8, .aload_n 0, 9), (9, .iload_n 1, 10), (10, .iconst 1, 11), (11, .iadd, 12), (12, .invokevirtual 36, 15), (15, .ifCond .eq 29, 18), (18, .aload_n 0, 19), (19, .getfield 9, 22), (22, .iload_n 1, 23), (23, .iaload, 24), (24, .iconst 2, 25), (25, .if_icmp .ne 19, 28), (28, .aload_n 0, 29), (29, .getfield 9, 32), (32, .iload_n 1, 33), (33, .iconst 1, 34), (34, .iadd, 35), (35, .iaload, 36), (36, .iconst 4, 37), (37, .if_icmp .ne 7, 40), (40, .iconst 1, 41), (41, .goto 4, 44), (44, .iconst 0, 45), (45, .ireturn, 46)]
theorem K_X5_isCancelled : qtab cX5_isCancelled T_X5_isCancelled = true := by decide +kernel
end
section
def P_X7_isHanging : Bool → Option Value × List AC := fun z => (some (.int (qb z)), [])
set_option maxRecDepth 100000 in
theorem M_X7_isHanging (l : Launch) (p0 : Int32) : QM l yX7_isHanging cX7_isHanging 1 (some .boolean) 0 0 0 (fun _ => True) [.int p0] [] (F_X7_isHanging p0) (P_X7_isHanging) := by
  refine QM.of (by decide +kernel) (Nat.le_of_ble_eq_true rfl) ?_
  intro X ad hX _ _ _ _
  refine QG.iload_n hX (qd K_X7_isHanging 0 rfl) rfl rfl ?_
  refine QG.iconst hX (qd K_X7_isHanging 1 rfl) rfl ki_1 ?_
  refine QG.icmp_eq (tgt := 10) hX (qd K_X7_isHanging 2 rfl) rfl (by decide) ?_ ?_
  · refine QG.iconst hX (qd K_X7_isHanging 6 rfl) rfl ki_1 ?_
    refine QG.goto (tgt := 15) hX (qd K_X7_isHanging 7 rfl) rfl (by decide) ?_
    exact QG.zret hX (qd K_X7_isHanging 9 rfl) rfl (qb_nar true) rfl (fun _ _ => rfl)
  · refine QG.iload_n hX (qd K_X7_isHanging 3 rfl) rfl rfl ?_
    refine QG.iconst hX (qd K_X7_isHanging 4 rfl) rfl ki_2 ?_
    refine QG.icmp_ne (tgt := 14) hX (qd K_X7_isHanging 5 rfl) rfl (by decide) ?_ ?_
    · refine QG.iconst hX (qd K_X7_isHanging 8 rfl) rfl ki_0 ?_
      exact QG.zret hX (qd K_X7_isHanging 9 rfl) rfl (qb_nar false) rfl (fun _ _ => rfl)
    · refine QG.iconst hX (qd K_X7_isHanging 6 rfl) rfl ki_1 ?_
      refine QG.goto (tgt := 15) hX (qd K_X7_isHanging 7 rfl) rfl (by decide) ?_
      exact QG.zret hX (qd K_X7_isHanging 9 rfl) rfl (qb_nar true) rfl (fun _ _ => rfl)

def P_X7_together : Int32 → Option Value × List AC := fun z => (some (.int z), [])
set_option maxRecDepth 100000 in
theorem M_X7_together (l : Launch) (p0 : Int32) (p1 : Int32) : QM l yX7_together cX7_together 2 (some .int) 0 0 0 (fun _ => True) [.int p0, .int p1] [] (F_X7_together p0 p1) (P_X7_together) := by
  refine QM.of (by decide +kernel) (Nat.le_of_ble_eq_true rfl) ?_
  intro X ad hX _ _ _ _
  refine QG.iload_n hX (qd K_X7_together 0 rfl) rfl rfl ?_
  refine QG.iconst hX (qd K_X7_together 1 rfl) rfl ki_m1 ?_
  refine QG.icmp_eq (tgt := 10) hX (qd K_X7_together 2 rfl) rfl (by decide) ?_ ?_
  · refine QG.iload_n hX (qd K_X7_together 6 rfl) rfl rfl ?_
    exact QG.iret hX (qd K_X7_together 7 rfl) rfl rfl (fun _ _ => rfl)
  · refine QG.iload_n hX (qd K_X7_together 3 rfl) rfl rfl ?_
    refine QG.iload_n hX (qd K_X7_together 4 rfl) rfl rfl ?_
    refine QG.icmp_ne (tgt := 12) hX (qd K_X7_together 5 rfl) rfl (by decide) ?_ ?_
    · refine QG.iload_n hX (qd K_X7_together 8 rfl) rfl rfl ?_
      refine QG.iconst hX (qd K_X7_together 9 rfl) rfl ki_m1 ?_
      refine QG.icmp_ne (tgt := 21) hX (qd K_X7_together 10 rfl) rfl (by decide) ?_ ?_
      · refine QG.bipush hX (qd K_X7_together 13 rfl) rfl kb_m2 ?_
        exact QG.iret hX (qd K_X7_together 14 rfl) rfl rfl (fun _ _ => rfl)
      · refine QG.iload_n hX (qd K_X7_together 11 rfl) rfl rfl ?_
        refine QG.goto (tgt := 23) hX (qd K_X7_together 12 rfl) rfl (by decide) ?_
        exact QG.iret hX (qd K_X7_together 14 rfl) rfl rfl (fun _ _ => rfl)
    · refine QG.iload_n hX (qd K_X7_together 6 rfl) rfl rfl ?_
      exact QG.iret hX (qd K_X7_together 7 rfl) rfl rfl (fun _ _ => rfl)

def P_X7_isGhost : Bool → Option Value × List AC := fun z => (some (.int (qb z)), [])
set_option maxRecDepth 100000 in
theorem M_X7_isGhost (l : Launch) (p0 : Int32) (p1 : Int32) (p2 : Int32) : QM l yX7_isGhost cX7_isGhost 3 (some .boolean) 0 0 0 (fun _ => True) [.int p0, .int p1, .int p2] [] (F_X7_isGhost p0 p1 p2) (P_X7_isGhost) := by
  refine QM.of (by decide +kernel) (Nat.le_of_ble_eq_true rfl) ?_
  intro X ad hX _ _ _ _
  refine QG.iload_n hX (qd K_X7_isGhost 0 rfl) rfl rfl ?_
  refine QG.iload_n hX (qd K_X7_isGhost 1 rfl) rfl rfl ?_
  refine QG.iload_n hX (qd K_X7_isGhost 2 rfl) rfl rfl ?_
  refine QG.isub hX (qd K_X7_isGhost 3 rfl) rfl ?_
  refine QG.ishr hX (qd K_X7_isGhost 4 rfl) rfl ?_
  refine QG.iconst hX (qd K_X7_isGhost 5 rfl) rfl ki_1 ?_
  refine QG.iand hX (qd K_X7_isGhost 6 rfl) rfl ?_
  refine QG.if_eq (tgt := 14) hX (qd K_X7_isGhost 7 rfl) rfl (by decide) ?_ ?_
  · refine QG.iconst hX (qd K_X7_isGhost 10 rfl) rfl ki_0 ?_
    exact QG.zret hX (qd K_X7_isGhost 11 rfl) rfl (qb_nar false) rfl (fun _ _ => rfl)
  · refine QG.iconst hX (qd K_X7_isGhost 8 rfl) rfl ki_1 ?_
    refine QG.goto (tgt := 15) hX (qd K_X7_isGhost 9 rfl) rfl (by decide) ?_
    exact QG.zret hX (qd K_X7_isGhost 11 rfl) rfl (qb_nar true) rfl (fun _ _ => rfl)

def P_X5_has (r_kinds : Nat → Int32) (r_whole : Nat → Int32) (r_marks : Nat → Int32) (r_rules : Nat → Int32) (r_count : Int32) (r_changed : Bool) : Bool → Option Value × List AC := fun z => (some (.int (qb z)), [.inr (5, [.ref 1, .ref 2, .ref 3, .ref 4, .int r_count, .int (qb r_changed)]), .inl (0, 30, .inl r_kinds), .inl (0, 30, .inl r_whole), .inl (0, 210, .inl r_marks), .inl (0, 6, .inl r_rules)])
set_option maxRecDepth 100000 in
theorem M_X5_has (l : Launch) (r_kinds : Nat → Int32) (r_whole : Nat → Int32) (r_marks : Nat → Int32) (r_rules : Nat → Int32) (r_count : Int32) (r_changed : Bool) (p0 : Int32) : QM l yX5_has cX5_has 2 (some .boolean) 0 0 0 (fun _ => True) [.ref 0, .int p0] [.inr (5, [.ref 1, .ref 2, .ref 3, .ref 4, .int r_count, .int (qb r_changed)]), .inl (0, 30, .inl r_kinds), .inl (0, 30, .inl r_whole), .inl (0, 210, .inl r_marks), .inl (0, 6, .inl r_rules)] (F_X5_has r_count p0) (P_X5_has r_kinds r_whole r_marks r_rules r_count r_changed) := by
  refine QM.of (by decide +kernel) (Nat.le_of_ble_eq_true rfl) ?_
  intro X ad hX _ _ _ _
  refine QG.iload_n hX (qd K_X5_has 0 rfl) rfl rfl ?_
  refine QG.if_lt (tgt := 16) hX (qd K_X5_has 1 rfl) rfl (by decide) ?_ ?_
  · refine QG.iconst hX (qd K_X5_has 8 rfl) rfl ki_0 ?_
    exact QG.zret hX (qd K_X5_has 9 rfl) rfl (qb_nar false) rfl (fun _ _ => rfl)
  · refine QG.iload_n hX (qd K_X5_has 2 rfl) rfl rfl ?_
    refine QG.aload_n hX (qd K_X5_has 3 rfl) rfl rfl ?_
    refine QG.getf hX fl_X5_24 (qd K_X5_has 4 rfl) rfl rfl rfl ?_
    refine QG.icmp_ge (tgt := 16) hX (qd K_X5_has 5 rfl) rfl (by decide) ?_ ?_
    · refine QG.iconst hX (qd K_X5_has 8 rfl) rfl ki_0 ?_
      exact QG.zret hX (qd K_X5_has 9 rfl) rfl (qb_nar false) rfl (fun _ _ => rfl)
    · refine QG.iconst hX (qd K_X5_has 6 rfl) rfl ki_1 ?_
      refine QG.goto (tgt := 17) hX (qd K_X5_has 7 rfl) rfl (by decide) ?_
      exact QG.zret hX (qd K_X5_has 9 rfl) rfl (qb_nar true) rfl (fun _ _ => rfl)

def P_X5_shift (r_rules : Nat → Int32) (r_count : Int32) (r_changed : Bool) : (Nat → Int32) × (Nat → Int32) × (Nat → Int32) → Option Value × List AC := fun z => (none, [.inr (5, [.ref 1, .ref 2, .ref 3, .ref 4, .int r_count, .int (qb r_changed)]), .inl (0, 30, .inl z.1), .inl (0, 30, .inl z.2.1), .inl (0, 210, .inl z.2.2), .inl (0, 6, .inl r_rules)])
set_option maxRecDepth 100000 in
theorem M_X5_shift (l : Launch) (r_kinds : Nat → Int32) (r_whole : Nat → Int32) (r_marks : Nat → Int32) (r_rules : Nat → Int32) (r_count : Int32) (r_changed : Bool) (p0 : Int32) (p1 : Int32) : QM l yX5_shift cX5_shift 3 none 1 0 0 (fun _ => True) [.ref 0, .int p0, .int p1] [.inr (5, [.ref 1, .ref 2, .ref 3, .ref 4, .int r_count, .int (qb r_changed)]), .inl (0, 30, .inl r_kinds), .inl (0, 30, .inl r_whole), .inl (0, 210, .inl r_marks), .inl (0, 6, .inl r_rules)] (F_X5_shift r_kinds r_whole r_marks p0 p1) (P_X5_shift r_rules r_count r_changed) := by
  refine QM.of (by decide +kernel) (Nat.le_of_ble_eq_true rfl) ?_
  intro X ad hX _ _ _ _
  refine QG.aload_n hX (qd K_X5_shift 0 rfl) rfl rfl ?_
  refine QG.getf hX fl_X5_9 (qd K_X5_shift 1 rfl) rfl rfl rfl ?_
  refine QG.iload_n hX (qd K_X5_shift 2 rfl) rfl rfl ?_
  refine QG.aload_n hX (qd K_X5_shift 3 rfl) rfl rfl ?_
  refine QG.getf hX fl_X5_9 (qd K_X5_shift 4 rfl) rfl rfl rfl ?_
  refine QG.iload_n hX (qd K_X5_shift 5 rfl) rfl rfl ?_
  refine QG.iald hX (qd K_X5_shift 6 rfl) rfl rfl ?_
  refine QG.iast (Wd' := [.inr (5, [.ref 1, .ref 2, .ref 3, .ref 4, .int r_count, .int (qb r_changed)]), .inl (0, 30, .inl (upd r_kinds p1.toNatClampNeg (r_kinds p0.toNatClampNeg))), .inl (0, 30, .inl r_whole), .inl (0, 210, .inl r_marks), .inl (0, 6, .inl r_rules)]) hX (qd K_X5_shift 7 rfl) rfl rfl rfl ?_
  refine QG.aload_n hX (qd K_X5_shift 8 rfl) rfl rfl ?_
  refine QG.getf hX fl_X5_15 (qd K_X5_shift 9 rfl) rfl rfl rfl ?_
  refine QG.iload_n hX (qd K_X5_shift 10 rfl) rfl rfl ?_
  refine QG.aload_n hX (qd K_X5_shift 11 rfl) rfl rfl ?_
  refine QG.getf hX fl_X5_15 (qd K_X5_shift 12 rfl) rfl rfl rfl ?_
  refine QG.iload_n hX (qd K_X5_shift 13 rfl) rfl rfl ?_
  refine QG.iald hX (qd K_X5_shift 14 rfl) rfl rfl ?_
  refine QG.iast (Wd' := [.inr (5, [.ref 1, .ref 2, .ref 3, .ref 4, .int r_count, .int (qb r_changed)]), .inl (0, 30, .inl (upd r_kinds p1.toNatClampNeg (r_kinds p0.toNatClampNeg))), .inl (0, 30, .inl (upd r_whole p1.toNatClampNeg (r_whole p0.toNatClampNeg))), .inl (0, 210, .inl r_marks), .inl (0, 6, .inl r_rules)]) hX (qd K_X5_shift 15 rfl) rfl rfl rfl ?_
  refine QG.aload_n hX (qd K_X5_shift 16 rfl) rfl rfl ?_
  refine QG.getf hX fl_X5_18 (qd K_X5_shift 17 rfl) rfl rfl rfl ?_
  refine QG.iload_n hX (qd K_X5_shift 18 rfl) rfl rfl ?_
  refine QG.bipush hX (qd K_X5_shift 19 rfl) rfl kb_7 ?_
  refine QG.imul hX (qd K_X5_shift 20 rfl) rfl ?_
  refine QG.aload_n hX (qd K_X5_shift 21 rfl) rfl rfl ?_
  refine QG.getf hX fl_X5_18 (qd K_X5_shift 22 rfl) rfl rfl rfl ?_
  refine QG.iload_n hX (qd K_X5_shift 23 rfl) rfl rfl ?_
  refine QG.bipush hX (qd K_X5_shift 24 rfl) rfl kb_7 ?_
  refine QG.imul hX (qd K_X5_shift 25 rfl) rfl ?_
  refine QG.bipush hX (qd K_X5_shift 26 rfl) rfl kb_7 ?_
  refine QG.acopy (Wd' := [.inr (5, [.ref 1, .ref 2, .ref 3, .ref 4, .int r_count, .int (qb r_changed)]), .inl (0, 30, .inl (upd r_kinds p1.toNatClampNeg (r_kinds p0.toNatClampNeg))), .inl (0, 30, .inl (upd r_whole p1.toNatClampNeg (r_whole p0.toNatClampNeg))), .inl (0, 210, .inl (va_cpy r_marks r_marks (p0 * 7).toNatClampNeg (p1 * 7).toNatClampNeg (7 : Int32).toNatClampNeg)), .inl (0, 6, .inl r_rules)]) hX cw_X5_40 (by decide) (qd K_X5_shift 27 rfl) rfl (Nat.le_of_ble_eq_true rfl) rfl rfl rfl ?_
  exact QG.vret hX (qd K_X5_shift 28 rfl) rfl rfl (fun _ _ => rfl)

def P_X5_insert (r_rules : Nat → Int32) : Int32 × (Nat → Int32) × (Nat → Int32) × (Nat → Int32) × Int32 × Bool → Option Value × List AC := fun z => (some (.int z.1), [.inr (5, [.ref 1, .ref 2, .ref 3, .ref 4, .int z.2.2.2.2.1, .int (qb z.2.2.2.2.2)]), .inl (0, 30, .inl z.2.1), .inl (0, 30, .inl z.2.2.1), .inl (0, 210, .inl z.2.2.2.1), .inl (0, 6, .inl r_rules)])
set_option maxRecDepth 100000 in
theorem G_X5_insert_b74 (X : QX) (hX : qok X cX5_insert RX5 4 (some .int) 2) (ad : Nat → Nat) (r_rules : Nat → Int32) : ∀ (n : Nat) (r_kinds : Nat → Int32) (r_whole : Nat → Int32) (r_marks : Nat → Int32) (r_count : Int32) (r_changed : Bool) (x1 : Int32) (x3 : Int32), QG X 4 (qQ X ad 5 (P_X5_insert r_rules) 0 0) (F_X5_insert_b74 n r_kinds r_whole r_marks r_count x1 x3) 74 [(0, .ref 0), (1, .int x1), (3, .int x3)] [] [.inr (5, [.ref 1, .ref 2, .ref 3, .ref 4, .int r_count, .int (qb r_changed)]), .inl (0, 30, .inl r_kinds), .inl (0, 30, .inl r_whole), .inl (0, 210, .inl r_marks), .inl (0, 6, .inl r_rules)] ad 0 0 := by
  intro n
  induction n with
  | zero => intros; exact QG.nothing
  | succ n ih =>
    intro r_kinds r_whole r_marks r_count r_changed x1 x3
    refine QG.iload_n hX (qd K_X5_insert 44 rfl) rfl rfl ?_
    refine QG.bipush hX (qd K_X5_insert 45 rfl) rfl kb_7 ?_
    refine QG.icmp_ge (tgt := 98) hX (qd K_X5_insert 46 rfl) rfl (by decide) ?_ ?_
    · refine QG.aload_n hX (qd K_X5_insert 58 rfl) rfl rfl ?_
      refine QG.dup hX (qd K_X5_insert 59 rfl) rfl rfl ?_
      refine QG.getf hX fl_X5_24 (qd K_X5_insert 60 rfl) rfl rfl rfl ?_
      refine QG.iconst hX (qd K_X5_insert 61 rfl) rfl ki_1 ?_
      refine QG.iadd hX (qd K_X5_insert 62 rfl) rfl ?_
      refine QG.putf (Wd' := [.inr (5, [.ref 1, .ref 2, .ref 3, .ref 4, .int (r_count + 1), .int (qb r_changed)]), .inl (0, 30, .inl r_kinds), .inl (0, 30, .inl r_whole), .inl (0, 210, .inl r_marks), .inl (0, 6, .inl r_rules)]) hX fl_X5_24 fp_5_4 (qd K_X5_insert 63 rfl) rfl rfl (Nat.le_of_ble_eq_true rfl) (qfit_i _) rfl ?_
      refine QG.aload_n hX (qd K_X5_insert 64 rfl) rfl rfl ?_
      refine QG.iconst hX (qd K_X5_insert 65 rfl) rfl ki_1 ?_
      refine QG.putf (Wd' := [.inr (5, [.ref 1, .ref 2, .ref 3, .ref 4, .int (r_count + 1), .int (qb true)]), .inl (0, 30, .inl r_kinds), .inl (0, 30, .inl r_whole), .inl (0, 210, .inl r_marks), .inl (0, 6, .inl r_rules)]) hX fl_X5_28 fp_5_5 (qd K_X5_insert 66 rfl) rfl rfl (Nat.le_of_ble_eq_true rfl) qfit_z1 rfl ?_
      refine QG.aload_n hX (qd K_X5_insert 67 rfl) rfl rfl ?_
      refine QG.getf hX fl_X5_24 (qd K_X5_insert 68 rfl) rfl rfl rfl ?_
      exact QG.iret hX (qd K_X5_insert 69 rfl) rfl rfl (fun _ _ => rfl)
    · refine QG.aload_n hX (qd K_X5_insert 47 rfl) rfl rfl ?_
      refine QG.getf hX fl_X5_18 (qd K_X5_insert 48 rfl) rfl rfl rfl ?_
      refine QG.iload_n hX (qd K_X5_insert 49 rfl) rfl rfl ?_
      refine QG.bipush hX (qd K_X5_insert 50 rfl) rfl kb_7 ?_
      refine QG.imul hX (qd K_X5_insert 51 rfl) rfl ?_
      refine QG.iload_n hX (qd K_X5_insert 52 rfl) rfl rfl ?_
      refine QG.iadd hX (qd K_X5_insert 53 rfl) rfl ?_
      refine QG.iconst hX (qd K_X5_insert 54 rfl) rfl ki_0 ?_
      refine QG.iast (Wd' := [.inr (5, [.ref 1, .ref 2, .ref 3, .ref 4, .int r_count, .int (qb r_changed)]), .inl (0, 30, .inl r_kinds), .inl (0, 30, .inl r_whole), .inl (0, 210, .inl (upd r_marks ((x1 * 7) + x3).toNatClampNeg 0)), .inl (0, 6, .inl r_rules)]) hX (qd K_X5_insert 55 rfl) rfl rfl rfl ?_
      refine QG.iinc (lv' := [(3, .int (x3 + 1)), (0, .ref 0), (1, .int x1)]) hX (qd K_X5_insert 56 rfl) rfl (by decide) rfl ki_1 rfl ?_
      refine QG.goto (tgt := 74) hX (qd K_X5_insert 57 rfl) rfl (by decide) ?_
      exact QG.jmp (lv' := [(0, .ref 0), (1, .int x1), (3, .int (x3 + 1))]) rfl (ih r_kinds r_whole (upd r_marks ((x1 * 7) + x3).toNatClampNeg 0) r_count r_changed x1 (x3 + 1))

set_option maxRecDepth 100000 in
theorem G_X5_insert_b38 (X : QX) (hX : qok X cX5_insert RX5 4 (some .int) 2) (ad : Nat → Nat) (r_rules : Nat → Int32) : ∀ (n : Nat) (r_kinds : Nat → Int32) (r_whole : Nat → Int32) (r_marks : Nat → Int32) (r_count : Int32) (r_changed : Bool) (x1 : Int32) (x2 : Int32) (x3 : Int32), QG X 4 (qQ X ad 5 (P_X5_insert r_rules) 0 0) (F_X5_insert_b38 n r_kinds r_whole r_marks r_count x1 x2 x3) 38 [(0, .ref 0), (1, .int x1), (2, .int x2), (3, .int x3)] [] [.inr (5, [.ref 1, .ref 2, .ref 3, .ref 4, .int r_count, .int (qb r_changed)]), .inl (0, 30, .inl r_kinds), .inl (0, 30, .inl r_whole), .inl (0, 210, .inl r_marks), .inl (0, 6, .inl r_rules)] ad 0 0 := by
  intro n
  induction n with
  | zero => intros; exact QG.nothing
  | succ n ih =>
    intro r_kinds r_whole r_marks r_count r_changed x1 x2 x3
    refine QG.iload_n hX (qd K_X5_insert 21 rfl) rfl rfl ?_
    refine QG.iload_n hX (qd K_X5_insert 22 rfl) rfl rfl ?_
    refine QG.icmp_le (tgt := 57) hX (qd K_X5_insert 23 rfl) rfl (by decide) ?_ ?_
    · refine QG.aload_n hX (qd K_X5_insert 32 rfl) rfl rfl ?_
      refine QG.getf hX fl_X5_9 (qd K_X5_insert 33 rfl) rfl rfl rfl ?_
      refine QG.iload_n hX (qd K_X5_insert 34 rfl) rfl rfl ?_
      refine QG.iload_n hX (qd K_X5_insert 35 rfl) rfl rfl ?_
      refine QG.iast (Wd' := [.inr (5, [.ref 1, .ref 2, .ref 3, .ref 4, .int r_count, .int (qb r_changed)]), .inl (0, 30, .inl (upd r_kinds x1.toNatClampNeg x2)), .inl (0, 30, .inl r_whole), .inl (0, 210, .inl r_marks), .inl (0, 6, .inl r_rules)]) hX (qd K_X5_insert 36 rfl) rfl rfl rfl ?_
      refine QG.aload_n hX (qd K_X5_insert 37 rfl) rfl rfl ?_
      refine QG.getf hX fl_X5_15 (qd K_X5_insert 38 rfl) rfl rfl rfl ?_
      refine QG.iload_n hX (qd K_X5_insert 39 rfl) rfl rfl ?_
      refine QG.bipush hX (qd K_X5_insert 40 rfl) rfl kb_7 ?_
      refine QG.iast (Wd' := [.inr (5, [.ref 1, .ref 2, .ref 3, .ref 4, .int r_count, .int (qb r_changed)]), .inl (0, 30, .inl (upd r_kinds x1.toNatClampNeg x2)), .inl (0, 30, .inl (upd r_whole x1.toNatClampNeg 7)), .inl (0, 210, .inl r_marks), .inl (0, 6, .inl r_rules)]) hX (qd K_X5_insert 41 rfl) rfl rfl rfl ?_
      refine QG.iconst hX (qd K_X5_insert 42 rfl) rfl ki_0 ?_
      refine QG.istore_n (lv' := [(3, .int 0), (0, .ref 0), (1, .int x1), (2, .int x2)]) hX (qd K_X5_insert 43 rfl) rfl (by decide) rfl ?_
      exact QG.jmp (lv' := [(0, .ref 0), (1, .int x1), (3, .int 0)]) rfl (G_X5_insert_b74 X hX ad r_rules FU (upd r_kinds x1.toNatClampNeg x2) (upd r_whole x1.toNatClampNeg 7) r_marks r_count r_changed x1 0)
    · refine QG.aload_n hX (qd K_X5_insert 24 rfl) rfl rfl ?_
      refine QG.iload_n hX (qd K_X5_insert 25 rfl) rfl rfl ?_
      refine QG.iconst hX (qd K_X5_insert 26 rfl) rfl ki_1 ?_
      refine QG.isub hX (qd K_X5_insert 27 rfl) rfl ?_
      refine QG.iload_n hX (qd K_X5_insert 28 rfl) rfl rfl ?_
      refine QG.callV0 (rest := []) hX cw_X5_32 (M_X5_shift X.l r_kinds r_whole r_marks r_rules r_count r_changed (x3 - 1) x3) trivial (by decide) (by decide) (qd K_X5_insert 29 rfl) rfl ⟨Nat.zero_le _, Nat.zero_le _⟩ rfl rfl rfl rfl (Nat.le_of_ble_eq_true rfl) (fun _ => rfl) (fun c48 => ?_)
      show QG X 4 _ _ 51 _ [] [.inr (5, [.ref 1, .ref 2, .ref 3, .ref 4, .int r_count, .int (qb r_changed)]), .inl (0, 30, .inl c48.1), .inl (0, 30, .inl c48.2.1), .inl (0, 210, .inl c48.2.2), .inl (0, 6, .inl r_rules)] ad 0 0
      refine QG.iinc (lv' := [(3, .int (x3 + (-1))), (0, .ref 0), (1, .int x1), (2, .int x2)]) hX (qd K_X5_insert 30 rfl) rfl (by decide) rfl ki_m1 rfl ?_
      refine QG.goto (tgt := 38) hX (qd K_X5_insert 31 rfl) rfl (by decide) ?_
      exact QG.jmp (lv' := [(0, .ref 0), (1, .int x1), (2, .int x2), (3, .int (x3 + (-1)))]) rfl (ih c48.1 c48.2.1 c48.2.2 r_count r_changed x1 x2 (x3 + (-1)))

set_option maxRecDepth 100000 in
theorem M_X5_insert (l : Launch) (r_kinds : Nat → Int32) (r_whole : Nat → Int32) (r_marks : Nat → Int32) (r_rules : Nat → Int32) (r_count : Int32) (r_changed : Bool) (p0 : Int32) (p1 : Int32) : QM l yX5_insert cX5_insert 4 (some .int) 2 0 0 (fun _ => True) [.ref 0, .int p0, .int p1] [.inr (5, [.ref 1, .ref 2, .ref 3, .ref 4, .int r_count, .int (qb r_changed)]), .inl (0, 30, .inl r_kinds), .inl (0, 30, .inl r_whole), .inl (0, 210, .inl r_marks), .inl (0, 6, .inl r_rules)] (F_X5_insert r_kinds r_whole r_marks r_count r_changed p0 p1) (P_X5_insert r_rules) := by
  refine QM.of (by decide +kernel) (Nat.le_of_ble_eq_true rfl) ?_
  intro X ad hX _ _ _ _
  refine QG.iload_n hX (qd K_X5_insert 0 rfl) rfl rfl ?_
  refine QG.if_lt (tgt := 31) hX (qd K_X5_insert 1 rfl) rfl (by decide) ?_ ?_
  · refine QG.iconst hX (qd K_X5_insert 16 rfl) rfl ki_m1 ?_
    exact QG.iret hX (qd K_X5_insert 17 rfl) rfl rfl (fun _ _ => rfl)
  · refine QG.iload_n hX (qd K_X5_insert 2 rfl) rfl rfl ?_
    refine QG.aload_n hX (qd K_X5_insert 3 rfl) rfl rfl ?_
    refine QG.getf hX fl_X5_24 (qd K_X5_insert 4 rfl) rfl rfl rfl ?_
    refine QG.icmp_gt (tgt := 31) hX (qd K_X5_insert 5 rfl) rfl (by decide) ?_ ?_
    · refine QG.iconst hX (qd K_X5_insert 16 rfl) rfl ki_m1 ?_
      exact QG.iret hX (qd K_X5_insert 17 rfl) rfl rfl (fun _ _ => rfl)
    · refine QG.aload_n hX (qd K_X5_insert 6 rfl) rfl rfl ?_
      refine QG.getf hX fl_X5_24 (qd K_X5_insert 7 rfl) rfl rfl rfl ?_
      refine QG.bipush hX (qd K_X5_insert 8 rfl) rfl kb_30 ?_
      refine QG.icmp_ge (tgt := 31) hX (qd K_X5_insert 9 rfl) rfl (by decide) ?_ ?_
      · refine QG.iconst hX (qd K_X5_insert 16 rfl) rfl ki_m1 ?_
        exact QG.iret hX (qd K_X5_insert 17 rfl) rfl rfl (fun _ _ => rfl)
      · refine QG.iload_n hX (qd K_X5_insert 10 rfl) rfl rfl ?_
        refine QG.iconst hX (qd K_X5_insert 11 rfl) rfl ki_1 ?_
        refine QG.icmp_lt (tgt := 31) hX (qd K_X5_insert 12 rfl) rfl (by decide) ?_ ?_
        · refine QG.iconst hX (qd K_X5_insert 16 rfl) rfl ki_m1 ?_
          exact QG.iret hX (qd K_X5_insert 17 rfl) rfl rfl (fun _ _ => rfl)
        · refine QG.iload_n hX (qd K_X5_insert 13 rfl) rfl rfl ?_
          refine QG.iconst hX (qd K_X5_insert 14 rfl) rfl ki_5 ?_
          refine QG.icmp_le (tgt := 33) hX (qd K_X5_insert 15 rfl) rfl (by decide) ?_ ?_
          · refine QG.aload_n hX (qd K_X5_insert 18 rfl) rfl rfl ?_
            refine QG.getf hX fl_X5_24 (qd K_X5_insert 19 rfl) rfl rfl rfl ?_
            refine QG.istore_n (lv' := [(3, .int r_count), (0, .ref 0), (1, .int p0), (2, .int p1)]) hX (qd K_X5_insert 20 rfl) rfl (by decide) rfl ?_
            exact QG.jmp (lv' := [(0, .ref 0), (1, .int p0), (2, .int p1), (3, .int r_count)]) rfl (G_X5_insert_b38 X hX ad r_rules FU r_kinds r_whole r_marks r_count r_changed p0 p1 r_count)
          · refine QG.iconst hX (qd K_X5_insert 16 rfl) rfl ki_m1 ?_
            exact QG.iret hX (qd K_X5_insert 17 rfl) rfl rfl (fun _ _ => rfl)

def P_X5_remove (r_rules : Nat → Int32) : Int32 × (Nat → Int32) × (Nat → Int32) × (Nat → Int32) × Int32 × Bool → Option Value × List AC := fun z => (some (.int z.1), [.inr (5, [.ref 1, .ref 2, .ref 3, .ref 4, .int z.2.2.2.2.1, .int (qb z.2.2.2.2.2)]), .inl (0, 30, .inl z.2.1), .inl (0, 30, .inl z.2.2.1), .inl (0, 210, .inl z.2.2.2.1), .inl (0, 6, .inl r_rules)])
set_option maxRecDepth 100000 in
theorem G_X5_remove_b14 (X : QX) (hX : qok X cX5_remove RX5 3 (some .int) 2) (ad : Nat → Nat) (r_rules : Nat → Int32) : ∀ (n : Nat) (r_kinds : Nat → Int32) (r_whole : Nat → Int32) (r_marks : Nat → Int32) (r_count : Int32) (r_changed : Bool) (x2 : Int32), QG X 3 (qQ X ad 5 (P_X5_remove r_rules) 0 0) (F_X5_remove_b14 n r_kinds r_whole r_marks r_count x2) 14 [(0, .ref 0), (2, .int x2)] [] [.inr (5, [.ref 1, .ref 2, .ref 3, .ref 4, .int r_count, .int (qb r_changed)]), .inl (0, 30, .inl r_kinds), .inl (0, 30, .inl r_whole), .inl (0, 210, .inl r_marks), .inl (0, 6, .inl r_rules)] ad 0 0 := by
  intro n
  induction n with
  | zero => intros; exact QG.nothing
  | succ n ih =>
    intro r_kinds r_whole r_marks r_count r_changed x2
    refine QG.iload_n hX (qd K_X5_remove 10 rfl) rfl rfl ?_
    refine QG.aload_n hX (qd K_X5_remove 11 rfl) rfl rfl ?_
    refine QG.getf hX fl_X5_24 (qd K_X5_remove 12 rfl) rfl rfl rfl ?_
    refine QG.icmp_ge (tgt := 36) hX (qd K_X5_remove 13 rfl) rfl (by decide) ?_ ?_
    · refine QG.aload_n hX (qd K_X5_remove 22 rfl) rfl rfl ?_
      refine QG.dup hX (qd K_X5_remove 23 rfl) rfl rfl ?_
      refine QG.getf hX fl_X5_24 (qd K_X5_remove 24 rfl) rfl rfl rfl ?_
      refine QG.iconst hX (qd K_X5_remove 25 rfl) rfl ki_1 ?_
      refine QG.isub hX (qd K_X5_remove 26 rfl) rfl ?_
      refine QG.putf (Wd' := [.inr (5, [.ref 1, .ref 2, .ref 3, .ref 4, .int (r_count - 1), .int (qb r_changed)]), .inl (0, 30, .inl r_kinds), .inl (0, 30, .inl r_whole), .inl (0, 210, .inl r_marks), .inl (0, 6, .inl r_rules)]) hX fl_X5_24 fp_5_4 (qd K_X5_remove 27 rfl) rfl rfl (Nat.le_of_ble_eq_true rfl) (qfit_i _) rfl ?_
      refine QG.aload_n hX (qd K_X5_remove 28 rfl) rfl rfl ?_
      refine QG.iconst hX (qd K_X5_remove 29 rfl) rfl ki_1 ?_
      refine QG.putf (Wd' := [.inr (5, [.ref 1, .ref 2, .ref 3, .ref 4, .int (r_count - 1), .int (qb true)]), .inl (0, 30, .inl r_kinds), .inl (0, 30, .inl r_whole), .inl (0, 210, .inl r_marks), .inl (0, 6, .inl r_rules)]) hX fl_X5_28 fp_5_5 (qd K_X5_remove 30 rfl) rfl rfl (Nat.le_of_ble_eq_true rfl) qfit_z1 rfl ?_
      refine QG.aload_n hX (qd K_X5_remove 31 rfl) rfl rfl ?_
      refine QG.getf hX fl_X5_24 (qd K_X5_remove 32 rfl) rfl rfl rfl ?_
      exact QG.iret hX (qd K_X5_remove 33 rfl) rfl rfl (fun _ _ => rfl)
    · refine QG.aload_n hX (qd K_X5_remove 14 rfl) rfl rfl ?_
      refine QG.iload_n hX (qd K_X5_remove 15 rfl) rfl rfl ?_
      refine QG.iload_n hX (qd K_X5_remove 16 rfl) rfl rfl ?_
      refine QG.iconst hX (qd K_X5_remove 17 rfl) rfl ki_1 ?_
      refine QG.isub hX (qd K_X5_remove 18 rfl) rfl ?_
      refine QG.callV0 (rest := []) hX cw_X5_32 (M_X5_shift X.l r_kinds r_whole r_marks r_rules r_count r_changed x2 (x2 - 1)) trivial (by decide) (by decide) (qd K_X5_remove 19 rfl) rfl ⟨Nat.zero_le _, Nat.zero_le _⟩ rfl rfl rfl rfl (Nat.le_of_ble_eq_true rfl) (fun _ => rfl) (fun c27 => ?_)
      show QG X 3 _ _ 30 _ [] [.inr (5, [.ref 1, .ref 2, .ref 3, .ref 4, .int r_count, .int (qb r_changed)]), .inl (0, 30, .inl c27.1), .inl (0, 30, .inl c27.2.1), .inl (0, 210, .inl c27.2.2), .inl (0, 6, .inl r_rules)] ad 0 0
      refine QG.iinc (lv' := [(2, .int (x2 + 1)), (0, .ref 0)]) hX (qd K_X5_remove 20 rfl) rfl (by decide) rfl ki_1 rfl ?_
      refine QG.goto (tgt := 14) hX (qd K_X5_remove 21 rfl) rfl (by decide) ?_
      exact QG.jmp (lv' := [(0, .ref 0), (2, .int (x2 + 1))]) rfl (ih c27.1 c27.2.1 c27.2.2 r_count r_changed (x2 + 1))

set_option maxRecDepth 100000 in
theorem M_X5_remove (l : Launch) (r_kinds : Nat → Int32) (r_whole : Nat → Int32) (r_marks : Nat → Int32) (r_rules : Nat → Int32) (r_count : Int32) (r_changed : Bool) (p0 : Int32) : QM l yX5_remove cX5_remove 3 (some .int) 2 0 0 (fun _ => True) [.ref 0, .int p0] [.inr (5, [.ref 1, .ref 2, .ref 3, .ref 4, .int r_count, .int (qb r_changed)]), .inl (0, 30, .inl r_kinds), .inl (0, 30, .inl r_whole), .inl (0, 210, .inl r_marks), .inl (0, 6, .inl r_rules)] (F_X5_remove r_kinds r_whole r_marks r_count r_changed p0) (P_X5_remove r_rules) := by
  refine QM.of (by decide +kernel) (Nat.le_of_ble_eq_true rfl) ?_
  intro X ad hX _ _ _ _
  refine QG.aload_n hX (qd K_X5_remove 0 rfl) rfl rfl ?_
  refine QG.iload_n hX (qd K_X5_remove 1 rfl) rfl rfl ?_
  refine QG.callV0 (rest := []) hX cw_X5_36 (M_X5_has X.l r_kinds r_whole r_marks r_rules r_count r_changed p0) trivial (by decide) (by decide) (qd K_X5_remove 2 rfl) rfl ⟨Nat.zero_le _, Nat.zero_le _⟩ rfl rfl rfl rfl (Nat.le_of_ble_eq_true rfl) (fun _ => rfl) (fun c2 => ?_)
  show QG X 3 _ _ 5 _ [.int (qb c2)] [.inr (5, [.ref 1, .ref 2, .ref 3, .ref 4, .int r_count, .int (qb r_changed)]), .inl (0, 30, .inl r_kinds), .inl (0, 30, .inl r_whole), .inl (0, 210, .inl r_marks), .inl (0, 6, .inl r_rules)] ad 0 0
  refine QG.if_ne (tgt := 10) hX (qd K_X5_remove 3 rfl) rfl (by decide) ?_ ?_
  · refine QG.iload_n hX (qd K_X5_remove 6 rfl) rfl rfl ?_
    refine QG.iconst hX (qd K_X5_remove 7 rfl) rfl ki_1 ?_
    refine QG.iadd hX (qd K_X5_remove 8 rfl) rfl ?_
    refine QG.istore_n (lv' := [(2, .int (p0 + 1)), (0, .ref 0), (1, .int p0)]) hX (qd K_X5_remove 9 rfl) rfl (by decide) rfl ?_
    exact QG.jmp (lv' := [(0, .ref 0), (2, .int (p0 + 1))]) rfl (G_X5_remove_b14 X hX ad r_rules FU r_kinds r_whole r_marks r_count r_changed (p0 + 1))
  · refine QG.iconst hX (qd K_X5_remove 4 rfl) rfl ki_m1 ?_
    exact QG.iret hX (qd K_X5_remove 5 rfl) rfl rfl (fun _ _ => rfl)

def P_X5_setMark (r_kinds : Nat → Int32) (r_whole : Nat → Int32) (r_rules : Nat → Int32) (r_count : Int32) : Bool × (Nat → Int32) × Bool → Option Value × List AC := fun z => (some (.int (qb z.1)), [.inr (5, [.ref 1, .ref 2, .ref 3, .ref 4, .int r_count, .int (qb z.2.2)]), .inl (0, 30, .inl r_kinds), .inl (0, 30, .inl r_whole), .inl (0, 210, .inl z.2.1), .inl (0, 6, .inl r_rules)])
set_option maxRecDepth 100000 in
theorem M_X5_setMark (l : Launch) (r_kinds : Nat → Int32) (r_whole : Nat → Int32) (r_marks : Nat → Int32) (r_rules : Nat → Int32) (r_count : Int32) (r_changed : Bool) (p0 : Int32) (p1 : Int32) (p2 : Int32) : QM l yX5_setMark cX5_setMark 4 (some .boolean) 1 0 0 (fun _ => True) [.ref 0, .int p0, .int p1, .int p2] [.inr (5, [.ref 1, .ref 2, .ref 3, .ref 4, .int r_count, .int (qb r_changed)]), .inl (0, 30, .inl r_kinds), .inl (0, 30, .inl r_whole), .inl (0, 210, .inl r_marks), .inl (0, 6, .inl r_rules)] (F_X5_setMark r_whole r_marks r_count r_changed p0 p1 p2) (P_X5_setMark r_kinds r_whole r_rules r_count) := by
  refine QM.of (by decide +kernel) (Nat.le_of_ble_eq_true rfl) ?_
  intro X ad hX _ _ _ _
  refine QG.aload_n hX (qd K_X5_setMark 0 rfl) rfl rfl ?_
  refine QG.iload_n hX (qd K_X5_setMark 1 rfl) rfl rfl ?_
  refine QG.callV0 (rest := []) hX cw_X5_36 (M_X5_has X.l r_kinds r_whole r_marks r_rules r_count r_changed p0) trivial (by decide) (by decide) (qd K_X5_setMark 2 rfl) rfl ⟨Nat.zero_le _, Nat.zero_le _⟩ rfl rfl rfl rfl (Nat.le_of_ble_eq_true rfl) (fun _ => rfl) (fun c2 => ?_)
  show QG X 4 _ _ 5 _ [.int (qb c2)] [.inr (5, [.ref 1, .ref 2, .ref 3, .ref 4, .int r_count, .int (qb r_changed)]), .inl (0, 30, .inl r_kinds), .inl (0, 30, .inl r_whole), .inl (0, 210, .inl r_marks), .inl (0, 6, .inl r_rules)] ad 0 0
  refine QG.if_eq (tgt := 28) hX (qd K_X5_setMark 3 rfl) rfl (by decide) ?_ ?_
  · refine QG.iconst hX (qd K_X5_setMark 15 rfl) rfl ki_0 ?_
    exact QG.zret hX (qd K_X5_setMark 16 rfl) rfl (qb_nar false) rfl (fun _ _ => rfl)
  · refine QG.iload_n hX (qd K_X5_setMark 4 rfl) rfl rfl ?_
    refine QG.if_lt (tgt := 28) hX (qd K_X5_setMark 5 rfl) rfl (by decide) ?_ ?_
    · refine QG.iconst hX (qd K_X5_setMark 15 rfl) rfl ki_0 ?_
      exact QG.zret hX (qd K_X5_setMark 16 rfl) rfl (qb_nar false) rfl (fun _ _ => rfl)
    · refine QG.iload_n hX (qd K_X5_setMark 6 rfl) rfl rfl ?_
      refine QG.aload_n hX (qd K_X5_setMark 7 rfl) rfl rfl ?_
      refine QG.getf hX fl_X5_15 (qd K_X5_setMark 8 rfl) rfl rfl rfl ?_
      refine QG.iload_n hX (qd K_X5_setMark 9 rfl) rfl rfl ?_
      refine QG.iald hX (qd K_X5_setMark 10 rfl) rfl rfl ?_
      refine QG.icmp_ge (tgt := 28) hX (qd K_X5_setMark 11 rfl) rfl (by decide) ?_ ?_
      · refine QG.iconst hX (qd K_X5_setMark 15 rfl) rfl ki_0 ?_
        exact QG.zret hX (qd K_X5_setMark 16 rfl) rfl (qb_nar false) rfl (fun _ _ => rfl)
      · refine QG.iload_n hX (qd K_X5_setMark 12 rfl) rfl rfl ?_
        refine QG.bipush hX (qd K_X5_setMark 13 rfl) rfl kb_7 ?_
        refine QG.icmp_lt (tgt := 30) hX (qd K_X5_setMark 14 rfl) rfl (by decide) ?_ ?_
        · refine QG.iload_n hX (qd K_X5_setMark 17 rfl) rfl rfl ?_
          refine QG.if_lt (tgt := 43) hX (qd K_X5_setMark 18 rfl) rfl (by decide) ?_ ?_
          · refine QG.iconst hX (qd K_X5_setMark 24 rfl) rfl ki_0 ?_
            exact QG.zret hX (qd K_X5_setMark 25 rfl) rfl (qb_nar false) rfl (fun _ _ => rfl)
          · refine QG.iload_n hX (qd K_X5_setMark 19 rfl) rfl rfl ?_
            refine QG.gets hX (fun _ _ _ h => h.1) kn_X5_46 (by decide) (qd K_X5_setMark 20 rfl) rfl ?_
            refine QG.iload_n hX (qd K_X5_setMark 21 rfl) rfl rfl ?_
            refine QG.sld hX (fun _ _ _ h => h.1) (by decide) (qd K_X5_setMark 22 rfl) rfl ?_
            refine QG.icmp_le (tgt := 45) hX (qd K_X5_setMark 23 rfl) rfl (by decide) ?_ ?_
            · refine QG.aload_n hX (qd K_X5_setMark 26 rfl) rfl rfl ?_
              refine QG.getf hX fl_X5_18 (qd K_X5_setMark 27 rfl) rfl rfl rfl ?_
              refine QG.iload_n hX (qd K_X5_setMark 28 rfl) rfl rfl ?_
              refine QG.bipush hX (qd K_X5_setMark 29 rfl) rfl kb_7 ?_
              refine QG.imul hX (qd K_X5_setMark 30 rfl) rfl ?_
              refine QG.iload_n hX (qd K_X5_setMark 31 rfl) rfl rfl ?_
              refine QG.iadd hX (qd K_X5_setMark 32 rfl) rfl ?_
              refine QG.iload_n hX (qd K_X5_setMark 33 rfl) rfl rfl ?_
              refine QG.iast (Wd' := [.inr (5, [.ref 1, .ref 2, .ref 3, .ref 4, .int r_count, .int (qb r_changed)]), .inl (0, 30, .inl r_kinds), .inl (0, 30, .inl r_whole), .inl (0, 210, .inl (upd r_marks ((p0 * 7) + p1).toNatClampNeg p2)), .inl (0, 6, .inl r_rules)]) hX (qd K_X5_setMark 34 rfl) rfl rfl rfl ?_
              refine QG.aload_n hX (qd K_X5_setMark 35 rfl) rfl rfl ?_
              refine QG.iconst hX (qd K_X5_setMark 36 rfl) rfl ki_1 ?_
              refine QG.putf (Wd' := [.inr (5, [.ref 1, .ref 2, .ref 3, .ref 4, .int r_count, .int (qb true)]), .inl (0, 30, .inl r_kinds), .inl (0, 30, .inl r_whole), .inl (0, 210, .inl (upd r_marks ((p0 * 7) + p1).toNatClampNeg p2)), .inl (0, 6, .inl r_rules)]) hX fl_X5_28 fp_5_5 (qd K_X5_setMark 37 rfl) rfl rfl (Nat.le_of_ble_eq_true rfl) qfit_z1 rfl ?_
              refine QG.iconst hX (qd K_X5_setMark 38 rfl) rfl ki_1 ?_
              exact QG.zret hX (qd K_X5_setMark 39 rfl) rfl (qb_nar true) rfl (fun _ _ => rfl)
            · refine QG.iconst hX (qd K_X5_setMark 24 rfl) rfl ki_0 ?_
              exact QG.zret hX (qd K_X5_setMark 25 rfl) rfl (qb_nar false) rfl (fun _ _ => rfl)
        · refine QG.iconst hX (qd K_X5_setMark 15 rfl) rfl ki_0 ?_
          exact QG.zret hX (qd K_X5_setMark 16 rfl) rfl (qb_nar false) rfl (fun _ _ => rfl)

def P_X5_tearTo (r_kinds : Nat → Int32) (r_rules : Nat → Int32) (r_count : Int32) : Int32 × (Nat → Int32) × (Nat → Int32) × Bool → Option Value × List AC := fun z => (some (.int z.1), [.inr (5, [.ref 1, .ref 2, .ref 3, .ref 4, .int r_count, .int (qb z.2.2.2)]), .inl (0, 30, .inl r_kinds), .inl (0, 30, .inl z.2.1), .inl (0, 210, .inl z.2.2.1), .inl (0, 6, .inl r_rules)])
set_option maxRecDepth 100000 in
theorem G_X5_tearTo_b16 (X : QX) (hX : qok X cX5_tearTo RX5 4 (some .int) 1) (ad : Nat → Nat) (r_kinds : Nat → Int32) (r_rules : Nat → Int32) (r_count : Int32) : ∀ (n : Nat) (r_whole : Nat → Int32) (r_marks : Nat → Int32) (r_changed : Bool) (x1 : Int32) (x2 : Int32) (x3 : Int32), QG X 4 (qQ X ad 5 (P_X5_tearTo r_kinds r_rules r_count) 0 0) (F_X5_tearTo_b16 n r_whole r_marks x1 x2 x3) 16 [(0, .ref 0), (1, .int x1), (2, .int x2), (3, .int x3)] [] [.inr (5, [.ref 1, .ref 2, .ref 3, .ref 4, .int r_count, .int (qb r_changed)]), .inl (0, 30, .inl r_kinds), .inl (0, 30, .inl r_whole), .inl (0, 210, .inl r_marks), .inl (0, 6, .inl r_rules)] ad 0 0 := by
  intro n
  induction n with
  | zero => intros; exact QG.nothing
  | succ n ih =>
    intro r_whole r_marks r_changed x1 x2 x3
    refine QG.iload_n hX (qd K_X5_tearTo 10 rfl) rfl rfl ?_
    refine QG.bipush hX (qd K_X5_tearTo 11 rfl) rfl kb_7 ?_
    refine QG.icmp_ge (tgt := 40) hX (qd K_X5_tearTo 12 rfl) rfl (by decide) ?_ ?_
    · refine QG.aload_n hX (qd K_X5_tearTo 24 rfl) rfl rfl ?_
      refine QG.getf hX fl_X5_15 (qd K_X5_tearTo 25 rfl) rfl rfl rfl ?_
      refine QG.iload_n hX (qd K_X5_tearTo 26 rfl) rfl rfl ?_
      refine QG.aload_n hX (qd K_X5_tearTo 27 rfl) rfl rfl ?_
      refine QG.getf hX fl_X5_15 (qd K_X5_tearTo 28 rfl) rfl rfl rfl ?_
      refine QG.iload_n hX (qd K_X5_tearTo 29 rfl) rfl rfl ?_
      refine QG.iald hX (qd K_X5_tearTo 30 rfl) rfl rfl ?_
      refine QG.iload_n hX (qd K_X5_tearTo 31 rfl) rfl rfl ?_
      refine QG.mmin hX cw_X5_49 (by decide) (qd K_X5_tearTo 32 rfl) rfl ⟨Nat.zero_le _, Nat.zero_le _⟩ (Nat.le_of_ble_eq_true rfl) ?_
      refine QG.iast (Wd' := [.inr (5, [.ref 1, .ref 2, .ref 3, .ref 4, .int r_count, .int (qb r_changed)]), .inl (0, 30, .inl r_kinds), .inl (0, 30, .inl (upd r_whole x1.toNatClampNeg (if x2 < (r_whole x1.toNatClampNeg) then x2 else (r_whole x1.toNatClampNeg)))), .inl (0, 210, .inl r_marks), .inl (0, 6, .inl r_rules)]) hX (qd K_X5_tearTo 33 rfl) rfl rfl rfl ?_
      refine QG.aload_n hX (qd K_X5_tearTo 34 rfl) rfl rfl ?_
      refine QG.iconst hX (qd K_X5_tearTo 35 rfl) rfl ki_1 ?_
      refine QG.putf (Wd' := [.inr (5, [.ref 1, .ref 2, .ref 3, .ref 4, .int r_count, .int (qb true)]), .inl (0, 30, .inl r_kinds), .inl (0, 30, .inl (upd r_whole x1.toNatClampNeg (if x2 < (r_whole x1.toNatClampNeg) then x2 else (r_whole x1.toNatClampNeg)))), .inl (0, 210, .inl r_marks), .inl (0, 6, .inl r_rules)]) hX fl_X5_28 fp_5_5 (qd K_X5_tearTo 36 rfl) rfl rfl (Nat.le_of_ble_eq_true rfl) qfit_z1 rfl ?_
      refine QG.aload_n hX (qd K_X5_tearTo 37 rfl) rfl rfl ?_
      refine QG.getf hX fl_X5_15 (qd K_X5_tearTo 38 rfl) rfl rfl rfl ?_
      refine QG.iload_n hX (qd K_X5_tearTo 39 rfl) rfl rfl ?_
      refine QG.iald hX (qd K_X5_tearTo 40 rfl) rfl rfl ?_
      exact QG.iret hX (qd K_X5_tearTo 41 rfl) rfl rfl (fun _ _ => rfl)
    · refine QG.aload_n hX (qd K_X5_tearTo 13 rfl) rfl rfl ?_
      refine QG.getf hX fl_X5_18 (qd K_X5_tearTo 14 rfl) rfl rfl rfl ?_
      refine QG.iload_n hX (qd K_X5_tearTo 15 rfl) rfl rfl ?_
      refine QG.bipush hX (qd K_X5_tearTo 16 rfl) rfl kb_7 ?_
      refine QG.imul hX (qd K_X5_tearTo 17 rfl) rfl ?_
      refine QG.iload_n hX (qd K_X5_tearTo 18 rfl) rfl rfl ?_
      refine QG.iadd hX (qd K_X5_tearTo 19 rfl) rfl ?_
      refine QG.iconst hX (qd K_X5_tearTo 20 rfl) rfl ki_0 ?_
      refine QG.iast (Wd' := [.inr (5, [.ref 1, .ref 2, .ref 3, .ref 4, .int r_count, .int (qb r_changed)]), .inl (0, 30, .inl r_kinds), .inl (0, 30, .inl r_whole), .inl (0, 210, .inl (upd r_marks ((x1 * 7) + x3).toNatClampNeg 0)), .inl (0, 6, .inl r_rules)]) hX (qd K_X5_tearTo 21 rfl) rfl rfl rfl ?_
      refine QG.iinc (lv' := [(3, .int (x3 + 1)), (0, .ref 0), (1, .int x1), (2, .int x2)]) hX (qd K_X5_tearTo 22 rfl) rfl (by decide) rfl ki_1 rfl ?_
      refine QG.goto (tgt := 16) hX (qd K_X5_tearTo 23 rfl) rfl (by decide) ?_
      exact QG.jmp (lv' := [(0, .ref 0), (1, .int x1), (2, .int x2), (3, .int (x3 + 1))]) rfl (ih r_whole (upd r_marks ((x1 * 7) + x3).toNatClampNeg 0) r_changed x1 x2 (x3 + 1))

set_option maxRecDepth 100000 in
theorem M_X5_tearTo (l : Launch) (r_kinds : Nat → Int32) (r_whole : Nat → Int32) (r_marks : Nat → Int32) (r_rules : Nat → Int32) (r_count : Int32) (r_changed : Bool) (p0 : Int32) (p1 : Int32) : QM l yX5_tearTo cX5_tearTo 4 (some .int) 1 0 0 (fun _ => True) [.ref 0, .int p0, .int p1] [.inr (5, [.ref 1, .ref 2, .ref 3, .ref 4, .int r_count, .int (qb r_changed)]), .inl (0, 30, .inl r_kinds), .inl (0, 30, .inl r_whole), .inl (0, 210, .inl r_marks), .inl (0, 6, .inl r_rules)] (F_X5_tearTo r_whole r_marks r_count r_changed p0 p1) (P_X5_tearTo r_kinds r_rules r_count) := by
  refine QM.of (by decide +kernel) (Nat.le_of_ble_eq_true rfl) ?_
  intro X ad hX _ _ _ _
  refine QG.aload_n hX (qd K_X5_tearTo 0 rfl) rfl rfl ?_
  refine QG.iload_n hX (qd K_X5_tearTo 1 rfl) rfl rfl ?_
  refine QG.callV0 (rest := []) hX cw_X5_36 (M_X5_has X.l r_kinds r_whole r_marks r_rules r_count r_changed p0) trivial (by decide) (by decide) (qd K_X5_tearTo 2 rfl) rfl ⟨Nat.zero_le _, Nat.zero_le _⟩ rfl rfl rfl rfl (Nat.le_of_ble_eq_true rfl) (fun _ => rfl) (fun c2 => ?_)
  show QG X 4 _ _ 5 _ [.int (qb c2)] [.inr (5, [.ref 1, .ref 2, .ref 3, .ref 4, .int r_count, .int (qb r_changed)]), .inl (0, 30, .inl r_kinds), .inl (0, 30, .inl r_whole), .inl (0, 210, .inl r_marks), .inl (0, 6, .inl r_rules)] ad 0 0
  refine QG.if_eq (tgt := 12) hX (qd K_X5_tearTo 3 rfl) rfl (by decide) ?_ ?_
  · refine QG.iconst hX (qd K_X5_tearTo 6 rfl) rfl ki_m1 ?_
    exact QG.iret hX (qd K_X5_tearTo 7 rfl) rfl rfl (fun _ _ => rfl)
  · refine QG.iload_n hX (qd K_X5_tearTo 4 rfl) rfl rfl ?_
    refine QG.if_ge (tgt := 14) hX (qd K_X5_tearTo 5 rfl) rfl (by decide) ?_ ?_
    · refine QG.iload_n hX (qd K_X5_tearTo 8 rfl) rfl rfl ?_
      refine QG.istore_n (lv' := [(3, .int p1), (0, .ref 0), (1, .int p0), (2, .int p1)]) hX (qd K_X5_tearTo 9 rfl) rfl (by decide) rfl ?_
      exact QG.jmp (lv' := [(0, .ref 0), (1, .int p0), (2, .int p1), (3, .int p1)]) rfl (G_X5_tearTo_b16 X hX ad r_kinds r_rules r_count FU r_whole r_marks r_changed p0 p1 p1)
    · refine QG.iconst hX (qd K_X5_tearTo 6 rfl) rfl ki_m1 ?_
      exact QG.iret hX (qd K_X5_tearTo 7 rfl) rfl rfl (fun _ _ => rfl)

def P_X5_kindOf (r_kinds : Nat → Int32) (r_whole : Nat → Int32) (r_marks : Nat → Int32) (r_rules : Nat → Int32) (r_count : Int32) (r_changed : Bool) : Int32 → Option Value × List AC := fun z => (some (.int z), [.inr (5, [.ref 1, .ref 2, .ref 3, .ref 4, .int r_count, .int (qb r_changed)]), .inl (0, 30, .inl r_kinds), .inl (0, 30, .inl r_whole), .inl (0, 210, .inl r_marks), .inl (0, 6, .inl r_rules)])
set_option maxRecDepth 100000 in
theorem M_X5_kindOf (l : Launch) (r_kinds : Nat → Int32) (r_whole : Nat → Int32) (r_marks : Nat → Int32) (r_rules : Nat → Int32) (r_count : Int32) (r_changed : Bool) (p0 : Int32) : QM l yX5_kindOf cX5_kindOf 2 (some .int) 1 0 0 (fun _ => True) [.ref 0, .int p0] [.inr (5, [.ref 1, .ref 2, .ref 3, .ref 4, .int r_count, .int (qb r_changed)]), .inl (0, 30, .inl r_kinds), .inl (0, 30, .inl r_whole), .inl (0, 210, .inl r_marks), .inl (0, 6, .inl r_rules)] (F_X5_kindOf r_kinds r_count p0) (P_X5_kindOf r_kinds r_whole r_marks r_rules r_count r_changed) := by
  refine QM.of (by decide +kernel) (Nat.le_of_ble_eq_true rfl) ?_
  intro X ad hX _ _ _ _
  refine QG.aload_n hX (qd K_X5_kindOf 0 rfl) rfl rfl ?_
  refine QG.iload_n hX (qd K_X5_kindOf 1 rfl) rfl rfl ?_
  refine QG.callV0 (rest := []) hX cw_X5_36 (M_X5_has X.l r_kinds r_whole r_marks r_rules r_count r_changed p0) trivial (by decide) (by decide) (qd K_X5_kindOf 2 rfl) rfl ⟨Nat.zero_le _, Nat.zero_le _⟩ rfl rfl rfl rfl (Nat.le_of_ble_eq_true rfl) (fun _ => rfl) (fun c2 => ?_)
  show QG X 2 _ _ 5 _ [.int (qb c2)] [.inr (5, [.ref 1, .ref 2, .ref 3, .ref 4, .int r_count, .int (qb r_changed)]), .inl (0, 30, .inl r_kinds), .inl (0, 30, .inl r_whole), .inl (0, 210, .inl r_marks), .inl (0, 6, .inl r_rules)] ad 0 0
  refine QG.if_eq (tgt := 17) hX (qd K_X5_kindOf 3 rfl) rfl (by decide) ?_ ?_
  · refine QG.iconst hX (qd K_X5_kindOf 9 rfl) rfl ki_m1 ?_
    exact QG.iret hX (qd K_X5_kindOf 10 rfl) rfl rfl (fun _ _ => rfl)
  · refine QG.aload_n hX (qd K_X5_kindOf 4 rfl) rfl rfl ?_
    refine QG.getf hX fl_X5_9 (qd K_X5_kindOf 5 rfl) rfl rfl rfl ?_
    refine QG.iload_n hX (qd K_X5_kindOf 6 rfl) rfl rfl ?_
    refine QG.iald hX (qd K_X5_kindOf 7 rfl) rfl rfl ?_
    refine QG.goto (tgt := 18) hX (qd K_X5_kindOf 8 rfl) rfl (by decide) ?_
    exact QG.iret hX (qd K_X5_kindOf 10 rfl) rfl rfl (fun _ _ => rfl)

def P_X5_markOf (r_kinds : Nat → Int32) (r_whole : Nat → Int32) (r_marks : Nat → Int32) (r_rules : Nat → Int32) (r_count : Int32) (r_changed : Bool) : Int32 → Option Value × List AC := fun z => (some (.int z), [.inr (5, [.ref 1, .ref 2, .ref 3, .ref 4, .int r_count, .int (qb r_changed)]), .inl (0, 30, .inl r_kinds), .inl (0, 30, .inl r_whole), .inl (0, 210, .inl r_marks), .inl (0, 6, .inl r_rules)])
set_option maxRecDepth 100000 in
theorem M_X5_markOf (l : Launch) (r_kinds : Nat → Int32) (r_whole : Nat → Int32) (r_marks : Nat → Int32) (r_rules : Nat → Int32) (r_count : Int32) (r_changed : Bool) (p0 : Int32) (p1 : Int32) : QM l yX5_markOf cX5_markOf 3 (some .int) 1 0 0 (fun _ => True) [.ref 0, .int p0, .int p1] [.inr (5, [.ref 1, .ref 2, .ref 3, .ref 4, .int r_count, .int (qb r_changed)]), .inl (0, 30, .inl r_kinds), .inl (0, 30, .inl r_whole), .inl (0, 210, .inl r_marks), .inl (0, 6, .inl r_rules)] (F_X5_markOf r_marks r_count p0 p1) (P_X5_markOf r_kinds r_whole r_marks r_rules r_count r_changed) := by
  refine QM.of (by decide +kernel) (Nat.le_of_ble_eq_true rfl) ?_
  intro X ad hX _ _ _ _
  refine QG.aload_n hX (qd K_X5_markOf 0 rfl) rfl rfl ?_
  refine QG.iload_n hX (qd K_X5_markOf 1 rfl) rfl rfl ?_
  refine QG.callV0 (rest := []) hX cw_X5_36 (M_X5_has X.l r_kinds r_whole r_marks r_rules r_count r_changed p0) trivial (by decide) (by decide) (qd K_X5_markOf 2 rfl) rfl ⟨Nat.zero_le _, Nat.zero_le _⟩ rfl rfl rfl rfl (Nat.le_of_ble_eq_true rfl) (fun _ => rfl) (fun c2 => ?_)
  show QG X 3 _ _ 5 _ [.int (qb c2)] [.inr (5, [.ref 1, .ref 2, .ref 3, .ref 4, .int r_count, .int (qb r_changed)]), .inl (0, 30, .inl r_kinds), .inl (0, 30, .inl r_whole), .inl (0, 210, .inl r_marks), .inl (0, 6, .inl r_rules)] ad 0 0
  refine QG.if_eq (tgt := 32) hX (qd K_X5_markOf 3 rfl) rfl (by decide) ?_ ?_
  · refine QG.iconst hX (qd K_X5_markOf 18 rfl) rfl ki_m1 ?_
    exact QG.iret hX (qd K_X5_markOf 19 rfl) rfl rfl (fun _ _ => rfl)
  · refine QG.iload_n hX (qd K_X5_markOf 4 rfl) rfl rfl ?_
    refine QG.if_lt (tgt := 32) hX (qd K_X5_markOf 5 rfl) rfl (by decide) ?_ ?_
    · refine QG.iconst hX (qd K_X5_markOf 18 rfl) rfl ki_m1 ?_
      exact QG.iret hX (qd K_X5_markOf 19 rfl) rfl rfl (fun _ _ => rfl)
    · refine QG.iload_n hX (qd K_X5_markOf 6 rfl) rfl rfl ?_
      refine QG.bipush hX (qd K_X5_markOf 7 rfl) rfl kb_7 ?_
      refine QG.icmp_ge (tgt := 32) hX (qd K_X5_markOf 8 rfl) rfl (by decide) ?_ ?_
      · refine QG.iconst hX (qd K_X5_markOf 18 rfl) rfl ki_m1 ?_
        exact QG.iret hX (qd K_X5_markOf 19 rfl) rfl rfl (fun _ _ => rfl)
      · refine QG.aload_n hX (qd K_X5_markOf 9 rfl) rfl rfl ?_
        refine QG.getf hX fl_X5_18 (qd K_X5_markOf 10 rfl) rfl rfl rfl ?_
        refine QG.iload_n hX (qd K_X5_markOf 11 rfl) rfl rfl ?_
        refine QG.bipush hX (qd K_X5_markOf 12 rfl) rfl kb_7 ?_
        refine QG.imul hX (qd K_X5_markOf 13 rfl) rfl ?_
        refine QG.iload_n hX (qd K_X5_markOf 14 rfl) rfl rfl ?_
        refine QG.iadd hX (qd K_X5_markOf 15 rfl) rfl ?_
        refine QG.iald hX (qd K_X5_markOf 16 rfl) rfl rfl ?_
        refine QG.goto (tgt := 33) hX (qd K_X5_markOf 17 rfl) rfl (by decide) ?_
        exact QG.iret hX (qd K_X5_markOf 19 rfl) rfl rfl (fun _ _ => rfl)

def P_X5_hanging (r_kinds : Nat → Int32) (r_whole : Nat → Int32) (r_marks : Nat → Int32) (r_rules : Nat → Int32) (r_count : Int32) (r_changed : Bool) : Int32 → Option Value × List AC := fun z => (some (.int z), [.inr (5, [.ref 1, .ref 2, .ref 3, .ref 4, .int r_count, .int (qb r_changed)]), .inl (0, 30, .inl r_kinds), .inl (0, 30, .inl r_whole), .inl (0, 210, .inl r_marks), .inl (0, 6, .inl r_rules)])
set_option maxRecDepth 100000 in
theorem G_X5_hanging_b27 (X : QX) (hX : qok X cX5_hanging RX5 3 (some .int) 1) (ad : Nat → Nat) (r_kinds : Nat → Int32) (r_whole : Nat → Int32) (r_marks : Nat → Int32) (r_rules : Nat → Int32) (r_count : Int32) (r_changed : Bool) (k4 : Int32 → Int32 → Option (Int32)) (hk4 : ∀ (x1 : Int32) (x2 : Int32), QG X 3 (qQ X ad 5 (P_X5_hanging r_kinds r_whole r_marks r_rules r_count r_changed) 0 0) (k4 x1 x2) 4 [(0, .ref 0), (1, .int x1), (2, .int x2)] [] [.inr (5, [.ref 1, .ref 2, .ref 3, .ref 4, .int r_count, .int (qb r_changed)]), .inl (0, 30, .inl r_kinds), .inl (0, 30, .inl r_whole), .inl (0, 210, .inl r_marks), .inl (0, 6, .inl r_rules)] ad 0 0) (x1 : Int32) (x2 : Int32) : QG X 3 (qQ X ad 5 (P_X5_hanging r_kinds r_whole r_marks r_rules r_count r_changed) 0 0) (F_X5_hanging_b27 r_kinds r_count k4 x1 x2) 27 [(0, .ref 0), (1, .int x1), (2, .int x2)] [] [.inr (5, [.ref 1, .ref 2, .ref 3, .ref 4, .int r_count, .int (qb r_changed)]), .inl (0, 30, .inl r_kinds), .inl (0, 30, .inl r_whole), .inl (0, 210, .inl r_marks), .inl (0, 6, .inl r_rules)] ad 0 0 := by
  refine QG.iinc (lv' := [(2, .int (x2 + 1)), (0, .ref 0), (1, .int x1)]) hX (qd K_X5_hanging 15 rfl) rfl (by decide) rfl ki_1 rfl ?_
  refine QG.goto (tgt := 4) hX (qd K_X5_hanging 16 rfl) rfl (by decide) ?_
  exact QG.jmp (lv' := [(0, .ref 0), (1, .int x1), (2, .int (x2 + 1))]) rfl (hk4 x1 (x2 + 1))

set_option maxRecDepth 100000 in
theorem G_X5_hanging_b4 (X : QX) (hX : qok X cX5_hanging RX5 3 (some .int) 1) (ad : Nat → Nat) (r_kinds : Nat → Int32) (r_whole : Nat → Int32) (r_marks : Nat → Int32) (r_rules : Nat → Int32) (r_count : Int32) (r_changed : Bool) : ∀ (n : Nat) (x1 : Int32) (x2 : Int32), QG X 3 (qQ X ad 5 (P_X5_hanging r_kinds r_whole r_marks r_rules r_count r_changed) 0 0) (F_X5_hanging_b4 r_kinds r_count n x1 x2) 4 [(0, .ref 0), (1, .int x1), (2, .int x2)] [] [.inr (5, [.ref 1, .ref 2, .ref 3, .ref 4, .int r_count, .int (qb r_changed)]), .inl (0, 30, .inl r_kinds), .inl (0, 30, .inl r_whole), .inl (0, 210, .inl r_marks), .inl (0, 6, .inl r_rules)] ad 0 0 := by
  intro n
  induction n with
  | zero => intros; exact QG.nothing
  | succ n ih =>
    intro x1 x2
    refine QG.iload_n hX (qd K_X5_hanging 4 rfl) rfl rfl ?_
    refine QG.aload_n hX (qd K_X5_hanging 5 rfl) rfl rfl ?_
    refine QG.getf hX fl_X5_24 (qd K_X5_hanging 6 rfl) rfl rfl rfl ?_
    refine QG.icmp_ge (tgt := 33) hX (qd K_X5_hanging 7 rfl) rfl (by decide) ?_ ?_
    · refine QG.iload_n hX (qd K_X5_hanging 17 rfl) rfl rfl ?_
      exact QG.iret hX (qd K_X5_hanging 18 rfl) rfl rfl (fun _ _ => rfl)
    · refine QG.aload_n hX (qd K_X5_hanging 8 rfl) rfl rfl ?_
      refine QG.getf hX fl_X5_9 (qd K_X5_hanging 9 rfl) rfl rfl rfl ?_
      refine QG.iload_n hX (qd K_X5_hanging 10 rfl) rfl rfl ?_
      refine QG.iald hX (qd K_X5_hanging 11 rfl) rfl rfl ?_
      refine QG.callN (rest := []) [] hX cw_X5_55 (M_X7_isHanging X.l (r_kinds x2.toNatClampNeg)) trivial (by decide) (by decide) (qd K_X5_hanging 12 rfl) rfl ⟨Nat.zero_le _, Nat.zero_le _⟩ rfl rfl (Nat.le_of_ble_eq_true rfl) rfl rfl (fun _ => rfl) (fun c18 => ?_)
      show QG X 3 _ _ 21 _ [.int (qb c18)] [.inr (5, [.ref 1, .ref 2, .ref 3, .ref 4, .int r_count, .int (qb r_changed)]), .inl (0, 30, .inl r_kinds), .inl (0, 30, .inl r_whole), .inl (0, 210, .inl r_marks), .inl (0, 6, .inl r_rules)] ad 0 0
      refine QG.if_eq (tgt := 27) hX (qd K_X5_hanging 13 rfl) rfl (by decide) ?_ ?_
      · exact QG.jmp (lv' := [(0, .ref 0), (1, .int x1), (2, .int x2)]) rfl (G_X5_hanging_b27 X hX ad r_kinds r_whole r_marks r_rules r_count r_changed (fun x1 x2 => F_X5_hanging_b4 r_kinds r_count n x1 x2) ih x1 x2)
      · refine QG.iinc (lv' := [(1, .int (x1 + 1)), (0, .ref 0), (2, .int x2)]) hX (qd K_X5_hanging 14 rfl) rfl (by decide) rfl ki_1 rfl ?_
        exact QG.jmp (lv' := [(0, .ref 0), (1, .int (x1 + 1)), (2, .int x2)]) rfl (G_X5_hanging_b27 X hX ad r_kinds r_whole r_marks r_rules r_count r_changed (fun x1 x2 => F_X5_hanging_b4 r_kinds r_count n x1 x2) ih (x1 + 1) x2)

set_option maxRecDepth 100000 in
theorem M_X5_hanging (l : Launch) (r_kinds : Nat → Int32) (r_whole : Nat → Int32) (r_marks : Nat → Int32) (r_rules : Nat → Int32) (r_count : Int32) (r_changed : Bool) : QM l yX5_hanging cX5_hanging 3 (some .int) 1 0 0 (fun _ => True) [.ref 0] [.inr (5, [.ref 1, .ref 2, .ref 3, .ref 4, .int r_count, .int (qb r_changed)]), .inl (0, 30, .inl r_kinds), .inl (0, 30, .inl r_whole), .inl (0, 210, .inl r_marks), .inl (0, 6, .inl r_rules)] (F_X5_hanging r_kinds r_count) (P_X5_hanging r_kinds r_whole r_marks r_rules r_count r_changed) := by
  refine QM.of (by decide +kernel) (Nat.le_of_ble_eq_true rfl) ?_
  intro X ad hX _ _ _ _
  refine QG.iconst hX (qd K_X5_hanging 0 rfl) rfl ki_0 ?_
  refine QG.istore_n (lv' := [(1, .int 0), (0, .ref 0)]) hX (qd K_X5_hanging 1 rfl) rfl (by decide) rfl ?_
  refine QG.iconst hX (qd K_X5_hanging 2 rfl) rfl ki_0 ?_
  refine QG.istore_n (lv' := [(2, .int 0), (1, .int 0), (0, .ref 0)]) hX (qd K_X5_hanging 3 rfl) rfl (by decide) rfl ?_
  exact QG.jmp (lv' := [(0, .ref 0), (1, .int 0), (2, .int 0)]) rfl (G_X5_hanging_b4 X hX ad r_kinds r_whole r_marks r_rules r_count r_changed FU 0 0)

def P_X5_ruleOf (r_kinds : Nat → Int32) (r_whole : Nat → Int32) (r_marks : Nat → Int32) (r_rules : Nat → Int32) (r_count : Int32) (r_changed : Bool) : Int32 → Option Value × List AC := fun z => (some (.int z), [.inr (5, [.ref 1, .ref 2, .ref 3, .ref 4, .int r_count, .int (qb r_changed)]), .inl (0, 30, .inl r_kinds), .inl (0, 30, .inl r_whole), .inl (0, 210, .inl r_marks), .inl (0, 6, .inl r_rules)])
set_option maxRecDepth 100000 in
theorem M_X5_ruleOf (l : Launch) (r_kinds : Nat → Int32) (r_whole : Nat → Int32) (r_marks : Nat → Int32) (r_rules : Nat → Int32) (r_count : Int32) (r_changed : Bool) (p0 : Int32) : QM l yX5_ruleOf cX5_ruleOf 2 (some .int) 0 0 0 (fun _ => True) [.ref 0, .int p0] [.inr (5, [.ref 1, .ref 2, .ref 3, .ref 4, .int r_count, .int (qb r_changed)]), .inl (0, 30, .inl r_kinds), .inl (0, 30, .inl r_whole), .inl (0, 210, .inl r_marks), .inl (0, 6, .inl r_rules)] (F_X5_ruleOf r_rules p0) (P_X5_ruleOf r_kinds r_whole r_marks r_rules r_count r_changed) := by
  refine QM.of (by decide +kernel) (Nat.le_of_ble_eq_true rfl) ?_
  intro X ad hX _ _ _ _
  refine QG.iload_n hX (qd K_X5_ruleOf 0 rfl) rfl rfl ?_
  refine QG.iconst hX (qd K_X5_ruleOf 1 rfl) rfl ki_2 ?_
  refine QG.icmp_lt (tgt := 19) hX (qd K_X5_ruleOf 2 rfl) rfl (by decide) ?_ ?_
  · refine QG.iconst hX (qd K_X5_ruleOf 11 rfl) rfl ki_m1 ?_
    exact QG.iret hX (qd K_X5_ruleOf 12 rfl) rfl rfl (fun _ _ => rfl)
  · refine QG.iload_n hX (qd K_X5_ruleOf 3 rfl) rfl rfl ?_
    refine QG.iconst hX (qd K_X5_ruleOf 4 rfl) rfl ki_5 ?_
    refine QG.icmp_gt (tgt := 19) hX (qd K_X5_ruleOf 5 rfl) rfl (by decide) ?_ ?_
    · refine QG.iconst hX (qd K_X5_ruleOf 11 rfl) rfl ki_m1 ?_
      exact QG.iret hX (qd K_X5_ruleOf 12 rfl) rfl rfl (fun _ _ => rfl)
    · refine QG.aload_n hX (qd K_X5_ruleOf 6 rfl) rfl rfl ?_
      refine QG.getf hX fl_X5_21 (qd K_X5_ruleOf 7 rfl) rfl rfl rfl ?_
      refine QG.iload_n hX (qd K_X5_ruleOf 8 rfl) rfl rfl ?_
      refine QG.iald hX (qd K_X5_ruleOf 9 rfl) rfl rfl ?_
      refine QG.goto (tgt := 20) hX (qd K_X5_ruleOf 10 rfl) rfl (by decide) ?_
      exact QG.iret hX (qd K_X5_ruleOf 12 rfl) rfl rfl (fun _ _ => rfl)

def P_X5_setRule (r_kinds : Nat → Int32) (r_whole : Nat → Int32) (r_marks : Nat → Int32) (r_count : Int32) : Bool × (Nat → Int32) × Bool → Option Value × List AC := fun z => (some (.int (qb z.1)), [.inr (5, [.ref 1, .ref 2, .ref 3, .ref 4, .int r_count, .int (qb z.2.2)]), .inl (0, 30, .inl r_kinds), .inl (0, 30, .inl r_whole), .inl (0, 210, .inl r_marks), .inl (0, 6, .inl z.2.1)])
set_option maxRecDepth 100000 in
theorem M_X5_setRule (l : Launch) (r_kinds : Nat → Int32) (r_whole : Nat → Int32) (r_marks : Nat → Int32) (r_rules : Nat → Int32) (r_count : Int32) (r_changed : Bool) (p0 : Int32) (p1 : Int32) : QM l yX5_setRule cX5_setRule 3 (some .boolean) 0 0 0 (fun _ => True) [.ref 0, .int p0, .int p1] [.inr (5, [.ref 1, .ref 2, .ref 3, .ref 4, .int r_count, .int (qb r_changed)]), .inl (0, 30, .inl r_kinds), .inl (0, 30, .inl r_whole), .inl (0, 210, .inl r_marks), .inl (0, 6, .inl r_rules)] (F_X5_setRule r_rules r_changed p0 p1) (P_X5_setRule r_kinds r_whole r_marks r_count) := by
  refine QM.of (by decide +kernel) (Nat.le_of_ble_eq_true rfl) ?_
  intro X ad hX _ _ _ _
  refine QG.iload_n hX (qd K_X5_setRule 0 rfl) rfl rfl ?_
  refine QG.iconst hX (qd K_X5_setRule 1 rfl) rfl ki_2 ?_
  refine QG.icmp_lt (tgt := 28) hX (qd K_X5_setRule 2 rfl) rfl (by decide) ?_ ?_
  · refine QG.iconst hX (qd K_X5_setRule 16 rfl) rfl ki_0 ?_
    exact QG.zret hX (qd K_X5_setRule 17 rfl) rfl (qb_nar false) rfl (fun _ _ => rfl)
  · refine QG.iload_n hX (qd K_X5_setRule 3 rfl) rfl rfl ?_
    refine QG.iconst hX (qd K_X5_setRule 4 rfl) rfl ki_5 ?_
    refine QG.icmp_gt (tgt := 28) hX (qd K_X5_setRule 5 rfl) rfl (by decide) ?_ ?_
    · refine QG.iconst hX (qd K_X5_setRule 16 rfl) rfl ki_0 ?_
      exact QG.zret hX (qd K_X5_setRule 17 rfl) rfl (qb_nar false) rfl (fun _ _ => rfl)
    · refine QG.iload_n hX (qd K_X5_setRule 6 rfl) rfl rfl ?_
      refine QG.gets hX (fun _ _ _ h => h.2.1) kn_X5_58 (by decide) (qd K_X5_setRule 7 rfl) rfl ?_
      refine QG.iload_n hX (qd K_X5_setRule 8 rfl) rfl rfl ?_
      refine QG.sld hX (fun _ _ _ h => h.2.1) (by decide) (qd K_X5_setRule 9 rfl) rfl ?_
      refine QG.icmp_lt (tgt := 28) hX (qd K_X5_setRule 10 rfl) rfl (by decide) ?_ ?_
      · refine QG.iconst hX (qd K_X5_setRule 16 rfl) rfl ki_0 ?_
        exact QG.zret hX (qd K_X5_setRule 17 rfl) rfl (qb_nar false) rfl (fun _ _ => rfl)
      · refine QG.iload_n hX (qd K_X5_setRule 11 rfl) rfl rfl ?_
        refine QG.gets hX (fun _ _ _ h => h.2.2.1) kn_X5_61 (by decide) (qd K_X5_setRule 12 rfl) rfl ?_
        refine QG.iload_n hX (qd K_X5_setRule 13 rfl) rfl rfl ?_
        refine QG.sld hX (fun _ _ _ h => h.2.2.1) (by decide) (qd K_X5_setRule 14 rfl) rfl ?_
        refine QG.icmp_le (tgt := 30) hX (qd K_X5_setRule 15 rfl) rfl (by decide) ?_ ?_
        · refine QG.aload_n hX (qd K_X5_setRule 18 rfl) rfl rfl ?_
          refine QG.getf hX fl_X5_21 (qd K_X5_setRule 19 rfl) rfl rfl rfl ?_
          refine QG.iload_n hX (qd K_X5_setRule 20 rfl) rfl rfl ?_
          refine QG.iload_n hX (qd K_X5_setRule 21 rfl) rfl rfl ?_
          refine QG.iast (Wd' := [.inr (5, [.ref 1, .ref 2, .ref 3, .ref 4, .int r_count, .int (qb r_changed)]), .inl (0, 30, .inl r_kinds), .inl (0, 30, .inl r_whole), .inl (0, 210, .inl r_marks), .inl (0, 6, .inl (upd r_rules p0.toNatClampNeg p1))]) hX (qd K_X5_setRule 22 rfl) rfl rfl rfl ?_
          refine QG.aload_n hX (qd K_X5_setRule 23 rfl) rfl rfl ?_
          refine QG.iconst hX (qd K_X5_setRule 24 rfl) rfl ki_1 ?_
          refine QG.putf (Wd' := [.inr (5, [.ref 1, .ref 2, .ref 3, .ref 4, .int r_count, .int (qb true)]), .inl (0, 30, .inl r_kinds), .inl (0, 30, .inl r_whole), .inl (0, 210, .inl r_marks), .inl (0, 6, .inl (upd r_rules p0.toNatClampNeg p1))]) hX fl_X5_28 fp_5_5 (qd K_X5_setRule 25 rfl) rfl rfl (Nat.le_of_ble_eq_true rfl) qfit_z1 rfl ?_
          refine QG.iconst hX (qd K_X5_setRule 26 rfl) rfl ki_1 ?_
          exact QG.zret hX (qd K_X5_setRule 27 rfl) rfl (qb_nar true) rfl (fun _ _ => rfl)
        · refine QG.iconst hX (qd K_X5_setRule 16 rfl) rfl ki_0 ?_
          exact QG.zret hX (qd K_X5_setRule 17 rfl) rfl (qb_nar false) rfl (fun _ _ => rfl)

def P_X5_hangs (r_kinds : Nat → Int32) (r_whole : Nat → Int32) (r_marks : Nat → Int32) (r_rules : Nat → Int32) (r_count : Int32) (r_changed : Bool) : Bool → Option Value × List AC := fun z => (some (.int (qb z)), [.inr (5, [.ref 1, .ref 2, .ref 3, .ref 4, .int r_count, .int (qb r_changed)]), .inl (0, 30, .inl r_kinds), .inl (0, 30, .inl r_whole), .inl (0, 210, .inl r_marks), .inl (0, 6, .inl r_rules)])
set_option maxRecDepth 100000 in
theorem M_X5_hangs (l : Launch) (r_kinds : Nat → Int32) (r_whole : Nat → Int32) (r_marks : Nat → Int32) (r_rules : Nat → Int32) (r_count : Int32) (r_changed : Bool) (p0 : Int32) : QM l yX5_hangs cX5_hangs 2 (some .boolean) 1 0 0 (fun _ => True) [.ref 0, .int p0] [.inr (5, [.ref 1, .ref 2, .ref 3, .ref 4, .int r_count, .int (qb r_changed)]), .inl (0, 30, .inl r_kinds), .inl (0, 30, .inl r_whole), .inl (0, 210, .inl r_marks), .inl (0, 6, .inl r_rules)] (F_X5_hangs r_kinds r_count p0) (P_X5_hangs r_kinds r_whole r_marks r_rules r_count r_changed) := by
  refine QM.of (by decide +kernel) (Nat.le_of_ble_eq_true rfl) ?_
  intro X ad hX _ _ _ _
  refine QG.aload_n hX (qd K_X5_hangs 0 rfl) rfl rfl ?_
  refine QG.iload_n hX (qd K_X5_hangs 1 rfl) rfl rfl ?_
  refine QG.callV0 (rest := []) hX cw_X5_36 (M_X5_has X.l r_kinds r_whole r_marks r_rules r_count r_changed p0) trivial (by decide) (by decide) (qd K_X5_hangs 2 rfl) rfl ⟨Nat.zero_le _, Nat.zero_le _⟩ rfl rfl rfl rfl (Nat.le_of_ble_eq_true rfl) (fun _ => rfl) (fun c2 => ?_)
  show QG X 2 _ _ 5 _ [.int (qb c2)] [.inr (5, [.ref 1, .ref 2, .ref 3, .ref 4, .int r_count, .int (qb r_changed)]), .inl (0, 30, .inl r_kinds), .inl (0, 30, .inl r_whole), .inl (0, 210, .inl r_marks), .inl (0, 6, .inl r_rules)] ad 0 0
  refine QG.if_eq (tgt := 24) hX (qd K_X5_hangs 3 rfl) rfl (by decide) ?_ ?_
  · refine QG.iconst hX (qd K_X5_hangs 12 rfl) rfl ki_0 ?_
    exact QG.zret hX (qd K_X5_hangs 13 rfl) rfl (qb_nar false) rfl (fun _ _ => rfl)
  · refine QG.aload_n hX (qd K_X5_hangs 4 rfl) rfl rfl ?_
    refine QG.getf hX fl_X5_9 (qd K_X5_hangs 5 rfl) rfl rfl rfl ?_
    refine QG.iload_n hX (qd K_X5_hangs 6 rfl) rfl rfl ?_
    refine QG.iald hX (qd K_X5_hangs 7 rfl) rfl rfl ?_
    refine QG.callN (rest := []) [] hX cw_X5_55 (M_X7_isHanging X.l (r_kinds p0.toNatClampNeg)) trivial (by decide) (by decide) (qd K_X5_hangs 8 rfl) rfl ⟨Nat.zero_le _, Nat.zero_le _⟩ rfl rfl (Nat.le_of_ble_eq_true rfl) rfl rfl (fun _ => rfl) (fun c14 => ?_)
    show QG X 2 _ _ 17 _ [.int (qb c14)] [.inr (5, [.ref 1, .ref 2, .ref 3, .ref 4, .int r_count, .int (qb r_changed)]), .inl (0, 30, .inl r_kinds), .inl (0, 30, .inl r_whole), .inl (0, 210, .inl r_marks), .inl (0, 6, .inl r_rules)] ad 0 0
    refine QG.if_eq (tgt := 24) hX (qd K_X5_hangs 9 rfl) rfl (by decide) ?_ ?_
    · refine QG.iconst hX (qd K_X5_hangs 12 rfl) rfl ki_0 ?_
      exact QG.zret hX (qd K_X5_hangs 13 rfl) rfl (qb_nar false) rfl (fun _ _ => rfl)
    · refine QG.iconst hX (qd K_X5_hangs 10 rfl) rfl ki_1 ?_
      refine QG.goto (tgt := 25) hX (qd K_X5_hangs 11 rfl) rfl (by decide) ?_
      exact QG.zret hX (qd K_X5_hangs 13 rfl) rfl (qb_nar true) rfl (fun _ _ => rfl)

def P_X5_isCancelled (r_kinds : Nat → Int32) (r_whole : Nat → Int32) (r_marks : Nat → Int32) (r_rules : Nat → Int32) (r_count : Int32) (r_changed : Bool) : Bool → Option Value × List AC := fun z => (some (.int (qb z)), [.inr (5, [.ref 1, .ref 2, .ref 3, .ref 4, .int r_count, .int (qb r_changed)]), .inl (0, 30, .inl r_kinds), .inl (0, 30, .inl r_whole), .inl (0, 210, .inl r_marks), .inl (0, 6, .inl r_rules)])
set_option maxRecDepth 100000 in
theorem M_X5_isCancelled (l : Launch) (r_kinds : Nat → Int32) (r_whole : Nat → Int32) (r_marks : Nat → Int32) (r_rules : Nat → Int32) (r_count : Int32) (r_changed : Bool) (p0 : Int32) : QM l yX5_isCancelled cX5_isCancelled 2 (some .boolean) 1 0 0 (fun _ => True) [.ref 0, .int p0] [.inr (5, [.ref 1, .ref 2, .ref 3, .ref 4, .int r_count, .int (qb r_changed)]), .inl (0, 30, .inl r_kinds), .inl (0, 30, .inl r_whole), .inl (0, 210, .inl r_marks), .inl (0, 6, .inl r_rules)] (F_X5_isCancelled r_kinds r_count p0) (P_X5_isCancelled r_kinds r_whole r_marks r_rules r_count r_changed) := by
  refine QM.of (by decide +kernel) (Nat.le_of_ble_eq_true rfl) ?_
  intro X ad hX _ _ _ _
  refine QG.aload_n hX (qd K_X5_isCancelled 0 rfl) rfl rfl ?_
  refine QG.iload_n hX (qd K_X5_isCancelled 1 rfl) rfl rfl ?_
  refine QG.callV0 (rest := []) hX cw_X5_36 (M_X5_has X.l r_kinds r_whole r_marks r_rules r_count r_changed p0) trivial (by decide) (by decide) (qd K_X5_isCancelled 2 rfl) rfl ⟨Nat.zero_le _, Nat.zero_le _⟩ rfl rfl rfl rfl (Nat.le_of_ble_eq_true rfl) (fun _ => rfl) (fun c2 => ?_)
  show QG X 2 _ _ 5 _ [.int (qb c2)] [.inr (5, [.ref 1, .ref 2, .ref 3, .ref 4, .int r_count, .int (qb r_changed)]), .inl (0, 30, .inl r_kinds), .inl (0, 30, .inl r_whole), .inl (0, 210, .inl r_marks), .inl (0, 6, .inl r_rules)] ad 0 0
  refine QG.if_eq (tgt := 44) hX (qd K_X5_isCancelled 3 rfl) rfl (by decide) ?_ ?_
  · refine QG.iconst hX (qd K_X5_isCancelled 26 rfl) rfl ki_0 ?_
    exact QG.zret hX (qd K_X5_isCancelled 27 rfl) rfl (qb_nar false) rfl (fun _ _ => rfl)
  · refine QG.aload_n hX (qd K_X5_isCancelled 4 rfl) rfl rfl ?_
    refine QG.iload_n hX (qd K_X5_isCancelled 5 rfl) rfl rfl ?_
    refine QG.iconst hX (qd K_X5_isCancelled 6 rfl) rfl ki_1 ?_
    refine QG.iadd hX (qd K_X5_isCancelled 7 rfl) rfl ?_
    refine QG.callV0 (rest := []) hX cw_X5_36 (M_X5_has X.l r_kinds r_whole r_marks r_rules r_count r_changed (p0 + 1)) trivial (by decide) (by decide) (qd K_X5_isCancelled 8 rfl) rfl ⟨Nat.zero_le _, Nat.zero_le _⟩ rfl rfl rfl rfl (Nat.le_of_ble_eq_true rfl) (fun _ => rfl) (fun c12 => ?_)
    show QG X 2 _ _ 15 _ [.int (qb c12)] [.inr (5, [.ref 1, .ref 2, .ref 3, .ref 4, .int r_count, .int (qb r_changed)]), .inl (0, 30, .inl r_kinds), .inl (0, 30, .inl r_whole), .inl (0, 210, .inl r_marks), .inl (0, 6, .inl r_rules)] ad 0 0
    refine QG.if_eq (tgt := 44) hX (qd K_X5_isCancelled 9 rfl) rfl (by decide) ?_ ?_
    · refine QG.iconst hX (qd K_X5_isCancelled 26 rfl) rfl ki_0 ?_
      exact QG.zret hX (qd K_X5_isCancelled 27 rfl) rfl (qb_nar false) rfl (fun _ _ => rfl)
    · refine QG.aload_n hX (qd K_X5_isCancelled 10 rfl) rfl rfl ?_
      refine QG.getf hX fl_X5_9 (qd K_X5_isCancelled 11 rfl) rfl rfl rfl ?_
      refine QG.iload_n hX (qd K_X5_isCancelled 12 rfl) rfl rfl ?_
      refine QG.iald hX (qd K_X5_isCancelled 13 rfl) rfl rfl ?_
      refine QG.iconst hX (qd K_X5_isCancelled 14 rfl) rfl ki_2 ?_
      refine QG.icmp_ne (tgt := 44) hX (qd K_X5_isCancelled 15 rfl) rfl (by decide) ?_ ?_
      · refine QG.iconst hX (qd K_X5_isCancelled 26 rfl) rfl ki_0 ?_
        exact QG.zret hX (qd K_X5_isCancelled 27 rfl) rfl (qb_nar false) rfl (fun _ _ => rfl)
      · refine QG.aload_n hX (qd K_X5_isCancelled 16 rfl) rfl rfl ?_
        refine QG.getf hX fl_X5_9 (qd K_X5_isCancelled 17 rfl) rfl rfl rfl ?_
        refine QG.iload_n hX (qd K_X5_isCancelled 18 rfl) rfl rfl ?_
        refine QG.iconst hX (qd K_X5_isCancelled 19 rfl) rfl ki_1 ?_
        refine QG.iadd hX (qd K_X5_isCancelled 20 rfl) rfl ?_
        refine QG.iald hX (qd K_X5_isCancelled 21 rfl) rfl rfl ?_
        refine QG.iconst hX (qd K_X5_isCancelled 22 rfl) rfl ki_4 ?_
        refine QG.icmp_ne (tgt := 44) hX (qd K_X5_isCancelled 23 rfl) rfl (by decide) ?_ ?_
        · refine QG.iconst hX (qd K_X5_isCancelled 26 rfl) rfl ki_0 ?_
          exact QG.zret hX (qd K_X5_isCancelled 27 rfl) rfl (qb_nar false) rfl (fun _ _ => rfl)
        · refine QG.iconst hX (qd K_X5_isCancelled 24 rfl) rfl ki_1 ?_
          refine QG.goto (tgt := 45) hX (qd K_X5_isCancelled 25 rfl) rfl (by decide) ?_
          exact QG.zret hX (qd K_X5_isCancelled 27 rfl) rfl (qb_nar true) rfl (fun _ _ => rfl)
end
