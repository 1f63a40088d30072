-- ===== PART A: goes FIRST, ahead of the names: the tables' words, and 'selects' of the private methods out of them =====
/-- a private method of a class that the tables say can be made, by its rows of tables_1 -/
def lw_okq (q : MethodName × Nat) : Prop := (q.1.cls ≠ "java/lang/invoke/MethodHandle" ∧ q.1.cls ≠ "java/lang/invoke/VarHandle") ∧ Cond.instantiable q.1.cls q.2 ∈ tables_1 ∧ Cond.privateMethod q.1 ∈ tables_1 ∧ Cond.instanceMethod q.1 ∈ tables_1
theorem lw_p0 : lw_okq (⟨"QuireDesk", "rowOf", "(I)LQuireDesk$Row;"⟩, 8) := ⟨⟨by decide +kernel, by decide +kernel⟩, List.mem_of_getElem? (i := 14) (by decide +kernel), List.mem_of_getElem? (i := 361) (by decide +kernel), List.mem_of_getElem? (i := 362) (by decide +kernel)⟩
theorem lw_p1 : lw_okq (⟨"QuireDesk$Row", "shift", "(II)V"⟩, 6) := ⟨⟨by decide +kernel, by decide +kernel⟩, List.mem_of_getElem? (i := 299) (by decide +kernel), List.mem_of_getElem? (i := 369) (by decide +kernel), List.mem_of_getElem? (i := 370) (by decide +kernel)⟩
theorem lw_p2 : lw_okq (⟨"QuireDesk$Reckoner", "forgetLoads", "()V"⟩, 12) := ⟨⟨by decide +kernel, by decide +kernel⟩, List.mem_of_getElem? (i := 24) (by decide +kernel), List.mem_of_getElem? (i := 458) (by decide +kernel), List.mem_of_getElem? (i := 459) (by decide +kernel)⟩
theorem lw_p3 : lw_okq (⟨"QuireDesk$Leaves", "add", "(LQuireDesk$Row;I)V"⟩, 13) := ⟨⟨by decide +kernel, by decide +kernel⟩, List.mem_of_getElem? (i := 36) (by decide +kernel), List.mem_of_getElem? (i := 470) (by decide +kernel), List.mem_of_getElem? (i := 471) (by decide +kernel)⟩
theorem lw_p4 : lw_okq (⟨"QuireDesk$Reckoner", "groupLays", "(I)V"⟩, 12) := ⟨⟨by decide +kernel, by decide +kernel⟩, List.mem_of_getElem? (i := 24) (by decide +kernel), List.mem_of_getElem? (i := 489) (by decide +kernel), List.mem_of_getElem? (i := 490) (by decide +kernel)⟩
theorem lw_p5 : lw_okq (⟨"QuireDesk$Lays", "layMask", "()I"⟩, 13) := ⟨⟨by decide +kernel, by decide +kernel⟩, List.mem_of_getElem? (i := 30) (by decide +kernel), List.mem_of_getElem? (i := 509) (by decide +kernel), List.mem_of_getElem? (i := 510) (by decide +kernel)⟩
theorem lw_p6 : lw_okq (⟨"QuireDesk$Lays", "layPlace", "(I)Z"⟩, 13) := ⟨⟨by decide +kernel, by decide +kernel⟩, List.mem_of_getElem? (i := 30) (by decide +kernel), List.mem_of_getElem? (i := 517) (by decide +kernel), List.mem_of_getElem? (i := 518) (by decide +kernel)⟩
theorem lw_p7 : lw_okq (⟨"QuireDesk$Reckoner", "addLay", "(I)V"⟩, 12) := ⟨⟨by decide +kernel, by decide +kernel⟩, List.mem_of_getElem? (i := 24) (by decide +kernel), List.mem_of_getElem? (i := 544) (by decide +kernel), List.mem_of_getElem? (i := 545) (by decide +kernel)⟩
theorem lw_p8 : lw_okq (⟨"QuireDesk$Reckoner", "addGroup", "(IIII)V"⟩, 12) := ⟨⟨by decide +kernel, by decide +kernel⟩, List.mem_of_getElem? (i := 24) (by decide +kernel), List.mem_of_getElem? (i := 561) (by decide +kernel), List.mem_of_getElem? (i := 562) (by decide +kernel)⟩
theorem lw_p9 : lw_okq (⟨"QuireDesk$Reckoner", "countFrom", "(IIIZ)J"⟩, 12) := ⟨⟨by decide +kernel, by decide +kernel⟩, List.mem_of_getElem? (i := 24) (by decide +kernel), List.mem_of_getElem? (i := 571) (by decide +kernel), List.mem_of_getElem? (i := 572) (by decide +kernel)⟩
theorem lw_p10 : lw_okq (⟨"QuireDesk$Reckoner", "stateOf", "(IIIZ)I"⟩, 12) := ⟨⟨by decide +kernel, by decide +kernel⟩, List.mem_of_getElem? (i := 24) (by decide +kernel), List.mem_of_getElem? (i := 575) (by decide +kernel), List.mem_of_getElem? (i := 576) (by decide +kernel)⟩
theorem lw_p11 : lw_okq (⟨"QuireDesk$Reckoner", "isKnown", "(I)Z"⟩, 12) := ⟨⟨by decide +kernel, by decide +kernel⟩, List.mem_of_getElem? (i := 24) (by decide +kernel), List.mem_of_getElem? (i := 582) (by decide +kernel), List.mem_of_getElem? (i := 583) (by decide +kernel)⟩
theorem lw_p12 : lw_okq (⟨"QuireDesk$Reckoner", "reckon", "(IIIIZ)V"⟩, 12) := ⟨⟨by decide +kernel, by decide +kernel⟩, List.mem_of_getElem? (i := 24) (by decide +kernel), List.mem_of_getElem? (i := 586) (by decide +kernel), List.mem_of_getElem? (i := 587) (by decide +kernel)⟩
theorem lw_p13 : lw_okq (⟨"QuireDesk$Reckoner", "leastFrom", "(IIIZ)I"⟩, 12) := ⟨⟨by decide +kernel, by decide +kernel⟩, List.mem_of_getElem? (i := 24) (by decide +kernel), List.mem_of_getElem? (i := 594) (by decide +kernel), List.mem_of_getElem? (i := 595) (by decide +kernel)⟩
theorem lw_p14 : lw_okq (⟨"QuireDesk$Reckoner", "countBehind", "(IIIZ)J"⟩, 12) := ⟨⟨by decide +kernel, by decide +kernel⟩, List.mem_of_getElem? (i := 24) (by decide +kernel), List.mem_of_getElem? (i := 607) (by decide +kernel), List.mem_of_getElem? (i := 608) (by decide +kernel)⟩
theorem lw_p15 : lw_okq (⟨"QuireDesk$Reckoner", "leastBehind", "(III)I"⟩, 12) := ⟨⟨by decide +kernel, by decide +kernel⟩, List.mem_of_getElem? (i := 24) (by decide +kernel), List.mem_of_getElem? (i := 611) (by decide +kernel), List.mem_of_getElem? (i := 612) (by decide +kernel)⟩
def lw_privs_1 : List (MethodName × Nat) := [(⟨"QuireDesk", "rowOf", "(I)LQuireDesk$Row;"⟩, 8), (⟨"QuireDesk$Row", "shift", "(II)V"⟩, 6), (⟨"QuireDesk$Reckoner", "forgetLoads", "()V"⟩, 12), (⟨"QuireDesk$Leaves", "add", "(LQuireDesk$Row;I)V"⟩, 13), (⟨"QuireDesk$Reckoner", "groupLays", "(I)V"⟩, 12), (⟨"QuireDesk$Lays", "layMask", "()I"⟩, 13), (⟨"QuireDesk$Lays", "layPlace", "(I)Z"⟩, 13), (⟨"QuireDesk$Reckoner", "addLay", "(I)V"⟩, 12), (⟨"QuireDesk$Reckoner", "addGroup", "(IIII)V"⟩, 12), (⟨"QuireDesk$Reckoner", "countFrom", "(IIIZ)J"⟩, 12), (⟨"QuireDesk$Reckoner", "stateOf", "(IIIZ)I"⟩, 12), (⟨"QuireDesk$Reckoner", "isKnown", "(I)Z"⟩, 12), (⟨"QuireDesk$Reckoner", "reckon", "(IIIIZ)V"⟩, 12), (⟨"QuireDesk$Reckoner", "leastFrom", "(IIIZ)I"⟩, 12), (⟨"QuireDesk$Reckoner", "countBehind", "(IIIZ)J"⟩, 12), (⟨"QuireDesk$Reckoner", "leastBehind", "(III)I"⟩, 12)]
theorem lw_r1 : ∀ q ∈ lw_privs_1, lw_okq q := List.forall_mem_cons.mpr ⟨lw_p0, List.forall_mem_cons.mpr ⟨lw_p1, List.forall_mem_cons.mpr ⟨lw_p2, List.forall_mem_cons.mpr ⟨lw_p3, List.forall_mem_cons.mpr ⟨lw_p4, List.forall_mem_cons.mpr ⟨lw_p5, List.forall_mem_cons.mpr ⟨lw_p6, List.forall_mem_cons.mpr ⟨lw_p7, List.forall_mem_cons.mpr ⟨lw_p8, List.forall_mem_cons.mpr ⟨lw_p9, List.forall_mem_cons.mpr ⟨lw_p10, List.forall_mem_cons.mpr ⟨lw_p11, List.forall_mem_cons.mpr ⟨lw_p12, List.forall_mem_cons.mpr ⟨lw_p13, List.forall_mem_cons.mpr ⟨lw_p14, List.forall_mem_cons.mpr ⟨lw_p15, fun _ h => absurd h List.not_mem_nil⟩⟩⟩⟩⟩⟩⟩⟩⟩⟩⟩⟩⟩⟩⟩⟩
theorem lw_p16 : lw_okq (⟨"QuireDesk$Reckoner", "choose", "(I)V"⟩, 12) := ⟨⟨by decide +kernel, by decide +kernel⟩, List.mem_of_getElem? (i := 24) (by decide +kernel), List.mem_of_getElem? (i := 615) (by decide +kernel), List.mem_of_getElem? (i := 616) (by decide +kernel)⟩
theorem lw_p17 : lw_okq (⟨"QuireDesk$Folding", "addLoose", "([III)I"⟩, 13) := ⟨⟨by decide +kernel, by decide +kernel⟩, List.mem_of_getElem? (i := 172) (by decide +kernel), List.mem_of_getElem? (i := 627) (by decide +kernel), List.mem_of_getElem? (i := 628) (by decide +kernel)⟩
theorem lw_p18 : lw_okq (⟨"QuireDesk$Folding", "addCell", "(I)V"⟩, 13) := ⟨⟨by decide +kernel, by decide +kernel⟩, List.mem_of_getElem? (i := 172) (by decide +kernel), List.mem_of_getElem? (i := 648) (by decide +kernel), List.mem_of_getElem? (i := 649) (by decide +kernel)⟩
theorem lw_p19 : lw_okq (⟨"QuireDesk$Reckoner", "opensUpTo", "(I)Z"⟩, 12) := ⟨⟨by decide +kernel, by decide +kernel⟩, List.mem_of_getElem? (i := 24) (by decide +kernel), List.mem_of_getElem? (i := 672) (by decide +kernel), List.mem_of_getElem? (i := 673) (by decide +kernel)⟩
theorem lw_p20 : lw_okq (⟨"QuireDesk$Reckoner", "wasReached", "(I)Z"⟩, 12) := ⟨⟨by decide +kernel, by decide +kernel⟩, List.mem_of_getElem? (i := 24) (by decide +kernel), List.mem_of_getElem? (i := 677) (by decide +kernel), List.mem_of_getElem? (i := 678) (by decide +kernel)⟩
theorem lw_p21 : lw_okq (⟨"QuireDesk$Reckoner", "wasIn", "(IIIZ)Z"⟩, 12) := ⟨⟨by decide +kernel, by decide +kernel⟩, List.mem_of_getElem? (i := 24) (by decide +kernel), List.mem_of_getElem? (i := 681) (by decide +kernel), List.mem_of_getElem? (i := 682) (by decide +kernel)⟩
theorem lw_p22 : lw_okq (⟨"QuireDesk$Strip", "add", "(I)V"⟩, 3) := ⟨⟨by decide +kernel, by decide +kernel⟩, List.mem_of_getElem? (i := 234) (by decide +kernel), List.mem_of_getElem? (i := 747) (by decide +kernel), List.mem_of_getElem? (i := 748) (by decide +kernel)⟩
theorem lw_p23 : lw_okq (⟨"QuireDesk$Strip", "addLetters", "(I)V"⟩, 3) := ⟨⟨by decide +kernel, by decide +kernel⟩, List.mem_of_getElem? (i := 234) (by decide +kernel), List.mem_of_getElem? (i := 764) (by decide +kernel), List.mem_of_getElem? (i := 765) (by decide +kernel)⟩
theorem lw_p24 : lw_okq (⟨"QuireDesk$Strip", "addItems", "(LQuireDesk$Folding;I)V"⟩, 3) := ⟨⟨by decide +kernel, by decide +kernel⟩, List.mem_of_getElem? (i := 234) (by decide +kernel), List.mem_of_getElem? (i := 770) (by decide +kernel), List.mem_of_getElem? (i := 771) (by decide +kernel)⟩
theorem lw_p25 : lw_okq (⟨"QuireDesk$Strip", "addLoose", "(LQuireDesk$Folding;II)V"⟩, 3) := ⟨⟨by decide +kernel, by decide +kernel⟩, List.mem_of_getElem? (i := 234) (by decide +kernel), List.mem_of_getElem? (i := 774) (by decide +kernel), List.mem_of_getElem? (i := 775) (by decide +kernel)⟩
theorem lw_p26 : lw_okq (⟨"QuireDesk$Strip", "addItem", "(CI)V"⟩, 3) := ⟨⟨by decide +kernel, by decide +kernel⟩, List.mem_of_getElem? (i := 234) (by decide +kernel), List.mem_of_getElem? (i := 778) (by decide +kernel), List.mem_of_getElem? (i := 779) (by decide +kernel)⟩
theorem lw_p27 : lw_okq (⟨"QuireDesk$Reader", "readQuire", "(LQuireDesk$Folding;)Z"⟩, 13) := ⟨⟨by decide +kernel, by decide +kernel⟩, List.mem_of_getElem? (i := 252) (by decide +kernel), List.mem_of_getElem? (i := 831) (by decide +kernel), List.mem_of_getElem? (i := 832) (by decide +kernel)⟩
theorem lw_p28 : lw_okq (⟨"QuireDesk$Reader", "readLetters", "()I"⟩, 13) := ⟨⟨by decide +kernel, by decide +kernel⟩, List.mem_of_getElem? (i := 252) (by decide +kernel), List.mem_of_getElem? (i := 835) (by decide +kernel), List.mem_of_getElem? (i := 836) (by decide +kernel)⟩
theorem lw_p29 : lw_okq (⟨"QuireDesk$Reader", "sign", "()I"⟩, 13) := ⟨⟨by decide +kernel, by decide +kernel⟩, List.mem_of_getElem? (i := 252) (by decide +kernel), List.mem_of_getElem? (i := 839) (by decide +kernel), List.mem_of_getElem? (i := 840) (by decide +kernel)⟩
theorem lw_p30 : lw_okq (⟨"QuireDesk$Reader", "fail", "(II)Z"⟩, 13) := ⟨⟨by decide +kernel, by decide +kernel⟩, List.mem_of_getElem? (i := 252) (by decide +kernel), List.mem_of_getElem? (i := 845) (by decide +kernel), List.mem_of_getElem? (i := 846) (by decide +kernel)⟩
theorem lw_p31 : lw_okq (⟨"QuireDesk$Reader", "readLast", "(II)I"⟩, 13) := ⟨⟨by decide +kernel, by decide +kernel⟩, List.mem_of_getElem? (i := 252) (by decide +kernel), List.mem_of_getElem? (i := 849) (by decide +kernel), List.mem_of_getElem? (i := 850) (by decide +kernel)⟩
def lw_privs_2 : List (MethodName × Nat) := [(⟨"QuireDesk$Reckoner", "choose", "(I)V"⟩, 12), (⟨"QuireDesk$Folding", "addLoose", "([III)I"⟩, 13), (⟨"QuireDesk$Folding", "addCell", "(I)V"⟩, 13), (⟨"QuireDesk$Reckoner", "opensUpTo", "(I)Z"⟩, 12), (⟨"QuireDesk$Reckoner", "wasReached", "(I)Z"⟩, 12), (⟨"QuireDesk$Reckoner", "wasIn", "(IIIZ)Z"⟩, 12), (⟨"QuireDesk$Strip", "add", "(I)V"⟩, 3), (⟨"QuireDesk$Strip", "addLetters", "(I)V"⟩, 3), (⟨"QuireDesk$Strip", "addItems", "(LQuireDesk$Folding;I)V"⟩, 3), (⟨"QuireDesk$Strip", "addLoose", "(LQuireDesk$Folding;II)V"⟩, 3), (⟨"QuireDesk$Strip", "addItem", "(CI)V"⟩, 3), (⟨"QuireDesk$Reader", "readQuire", "(LQuireDesk$Folding;)Z"⟩, 13), (⟨"QuireDesk$Reader", "readLetters", "()I"⟩, 13), (⟨"QuireDesk$Reader", "sign", "()I"⟩, 13), (⟨"QuireDesk$Reader", "fail", "(II)Z"⟩, 13), (⟨"QuireDesk$Reader", "readLast", "(II)I"⟩, 13)]
theorem lw_r2 : ∀ q ∈ lw_privs_2, lw_okq q := List.forall_mem_cons.mpr ⟨lw_p16, List.forall_mem_cons.mpr ⟨lw_p17, List.forall_mem_cons.mpr ⟨lw_p18, List.forall_mem_cons.mpr ⟨lw_p19, List.forall_mem_cons.mpr ⟨lw_p20, List.forall_mem_cons.mpr ⟨lw_p21, List.forall_mem_cons.mpr ⟨lw_p22, List.forall_mem_cons.mpr ⟨lw_p23, List.forall_mem_cons.mpr ⟨lw_p24, List.forall_mem_cons.mpr ⟨lw_p25, List.forall_mem_cons.mpr ⟨lw_p26, List.forall_mem_cons.mpr ⟨lw_p27, List.forall_mem_cons.mpr ⟨lw_p28, List.forall_mem_cons.mpr ⟨lw_p29, List.forall_mem_cons.mpr ⟨lw_p30, List.forall_mem_cons.mpr ⟨lw_p31, fun _ h => absurd h List.not_mem_nil⟩⟩⟩⟩⟩⟩⟩⟩⟩⟩⟩⟩⟩⟩⟩⟩
theorem lw_p32 : lw_okq (⟨"QuireDesk$Reader", "readSize", "()Z"⟩, 13) := ⟨⟨by decide +kernel, by decide +kernel⟩, List.mem_of_getElem? (i := 252) (by decide +kernel), List.mem_of_getElem? (i := 853) (by decide +kernel), List.mem_of_getElem? (i := 854) (by decide +kernel)⟩
theorem lw_p33 : lw_okq (⟨"QuireDesk$Reader", "readBracket", "(ZZ)Z"⟩, 13) := ⟨⟨by decide +kernel, by decide +kernel⟩, List.mem_of_getElem? (i := 252) (by decide +kernel), List.mem_of_getElem? (i := 857) (by decide +kernel), List.mem_of_getElem? (i := 858) (by decide +kernel)⟩
theorem lw_p34 : lw_okq (⟨"QuireDesk$Reader", "readItem", "(Z)Z"⟩, 13) := ⟨⟨by decide +kernel, by decide +kernel⟩, List.mem_of_getElem? (i := 252) (by decide +kernel), List.mem_of_getElem? (i := 861) (by decide +kernel), List.mem_of_getElem? (i := 862) (by decide +kernel)⟩
theorem lw_p35 : lw_okq (⟨"QuireDesk$Reader", "canFollow", "(II)Z"⟩, 13) := ⟨⟨by decide +kernel, by decide +kernel⟩, List.mem_of_getElem? (i := 252) (by decide +kernel), List.mem_of_getElem? (i := 865) (by decide +kernel), List.mem_of_getElem? (i := 866) (by decide +kernel)⟩
theorem lw_p36 : lw_okq (⟨"QuireDesk$Reader", "keepItem", "(II)V"⟩, 13) := ⟨⟨by decide +kernel, by decide +kernel⟩, List.mem_of_getElem? (i := 252) (by decide +kernel), List.mem_of_getElem? (i := 869) (by decide +kernel), List.mem_of_getElem? (i := 870) (by decide +kernel)⟩
theorem lw_p37 : lw_okq (⟨"QuireDesk$Reader", "keepLoose", "(II)V"⟩, 13) := ⟨⟨by decide +kernel, by decide +kernel⟩, List.mem_of_getElem? (i := 252) (by decide +kernel), List.mem_of_getElem? (i := 873) (by decide +kernel), List.mem_of_getElem? (i := 874) (by decide +kernel)⟩
theorem lw_p38 : lw_okq (⟨"QuireDesk$Reader", "addQuire", "(LQuireDesk$Folding;)V"⟩, 13) := ⟨⟨by decide +kernel, by decide +kernel⟩, List.mem_of_getElem? (i := 252) (by decide +kernel), List.mem_of_getElem? (i := 877) (by decide +kernel), List.mem_of_getElem? (i := 878) (by decide +kernel)⟩
theorem lw_p39 : lw_okq (⟨"QuireDesk$Reader", "addLooseOf", "(LQuireDesk$Folding;I)V"⟩, 13) := ⟨⟨by decide +kernel, by decide +kernel⟩, List.mem_of_getElem? (i := 252) (by decide +kernel), List.mem_of_getElem? (i := 881) (by decide +kernel), List.mem_of_getElem? (i := 882) (by decide +kernel)⟩
theorem lw_p40 : lw_okq (⟨"QuireDesk", "keptAs", "(I)LQuireDesk$Folding;"⟩, 8) := ⟨⟨by decide +kernel, by decide +kernel⟩, List.mem_of_getElem? (i := 14) (by decide +kernel), List.mem_of_getElem? (i := 906) (by decide +kernel), List.mem_of_getElem? (i := 907) (by decide +kernel)⟩
theorem lw_p41 : lw_okq (⟨"QuireDesk$Folding", "joinPlace", "(LQuireDesk$Folding;LQuireDesk$Folding;II)V"⟩, 13) := ⟨⟨by decide +kernel, by decide +kernel⟩, List.mem_of_getElem? (i := 172) (by decide +kernel), List.mem_of_getElem? (i := 933) (by decide +kernel), List.mem_of_getElem? (i := 934) (by decide +kernel)⟩
theorem lw_p42 : lw_okq (⟨"QuireDeskModel", "isRow", "(I)Z"⟩, 49) := ⟨⟨by decide +kernel, by decide +kernel⟩, List.mem_of_getElem? (i := 939) (by decide +kernel), List.mem_of_getElem? (i := 1098) (by decide +kernel), List.mem_of_getElem? (i := 1099) (by decide +kernel)⟩
theorem lw_p43 : lw_okq (⟨"QuireDeskModel", "move", "(II)V"⟩, 49) := ⟨⟨by decide +kernel, by decide +kernel⟩, List.mem_of_getElem? (i := 939) (by decide +kernel), List.mem_of_getElem? (i := 1102) (by decide +kernel), List.mem_of_getElem? (i := 1103) (by decide +kernel)⟩
theorem lw_p44 : lw_okq (⟨"QuireDeskModel", "isThing", "(II)Z"⟩, 49) := ⟨⟨by decide +kernel, by decide +kernel⟩, List.mem_of_getElem? (i := 939) (by decide +kernel), List.mem_of_getElem? (i := 1110) (by decide +kernel), List.mem_of_getElem? (i := 1111) (by decide +kernel)⟩
theorem lw_p45 : lw_okq (⟨"QuireDeskModel", "most", "(I)I"⟩, 49) := ⟨⟨by decide +kernel, by decide +kernel⟩, List.mem_of_getElem? (i := 939) (by decide +kernel), List.mem_of_getElem? (i := 1118) (by decide +kernel), List.mem_of_getElem? (i := 1119) (by decide +kernel)⟩
theorem lw_p46 : lw_okq (⟨"QuireDeskModel", "isHanging", "(I)Z"⟩, 49) := ⟨⟨by decide +kernel, by decide +kernel⟩, List.mem_of_getElem? (i := 939) (by decide +kernel), List.mem_of_getElem? (i := 1134) (by decide +kernel), List.mem_of_getElem? (i := 1135) (by decide +kernel)⟩
theorem lw_p47 : lw_okq (⟨"QuireDeskModel", "goThrough", "(I)V"⟩, 49) := ⟨⟨by decide +kernel, by decide +kernel⟩, List.mem_of_getElem? (i := 939) (by decide +kernel), List.mem_of_getElem? (i := 1147) (by decide +kernel), List.mem_of_getElem? (i := 1148) (by decide +kernel)⟩
def lw_privs_3 : List (MethodName × Nat) := [(⟨"QuireDesk$Reader", "readSize", "()Z"⟩, 13), (⟨"QuireDesk$Reader", "readBracket", "(ZZ)Z"⟩, 13), (⟨"QuireDesk$Reader", "readItem", "(Z)Z"⟩, 13), (⟨"QuireDesk$Reader", "canFollow", "(II)Z"⟩, 13), (⟨"QuireDesk$Reader", "keepItem", "(II)V"⟩, 13), (⟨"QuireDesk$Reader", "keepLoose", "(II)V"⟩, 13), (⟨"QuireDesk$Reader", "addQuire", "(LQuireDesk$Folding;)V"⟩, 13), (⟨"QuireDesk$Reader", "addLooseOf", "(LQuireDesk$Folding;I)V"⟩, 13), (⟨"QuireDesk", "keptAs", "(I)LQuireDesk$Folding;"⟩, 8), (⟨"QuireDesk$Folding", "joinPlace", "(LQuireDesk$Folding;LQuireDesk$Folding;II)V"⟩, 13), (⟨"QuireDeskModel", "isRow", "(I)Z"⟩, 49), (⟨"QuireDeskModel", "move", "(II)V"⟩, 49), (⟨"QuireDeskModel", "isThing", "(II)Z"⟩, 49), (⟨"QuireDeskModel", "most", "(I)I"⟩, 49), (⟨"QuireDeskModel", "isHanging", "(I)Z"⟩, 49), (⟨"QuireDeskModel", "goThrough", "(I)V"⟩, 49)]
theorem lw_r3 : ∀ q ∈ lw_privs_3, lw_okq q := List.forall_mem_cons.mpr ⟨lw_p32, List.forall_mem_cons.mpr ⟨lw_p33, List.forall_mem_cons.mpr ⟨lw_p34, List.forall_mem_cons.mpr ⟨lw_p35, List.forall_mem_cons.mpr ⟨lw_p36, List.forall_mem_cons.mpr ⟨lw_p37, List.forall_mem_cons.mpr ⟨lw_p38, List.forall_mem_cons.mpr ⟨lw_p39, List.forall_mem_cons.mpr ⟨lw_p40, List.forall_mem_cons.mpr ⟨lw_p41, List.forall_mem_cons.mpr ⟨lw_p42, List.forall_mem_cons.mpr ⟨lw_p43, List.forall_mem_cons.mpr ⟨lw_p44, List.forall_mem_cons.mpr ⟨lw_p45, List.forall_mem_cons.mpr ⟨lw_p46, List.forall_mem_cons.mpr ⟨lw_p47, fun _ h => absurd h List.not_mem_nil⟩⟩⟩⟩⟩⟩⟩⟩⟩⟩⟩⟩⟩⟩⟩⟩
theorem lw_p48 : lw_okq (⟨"QuireDeskModel", "asks", "(I)V"⟩, 49) := ⟨⟨by decide +kernel, by decide +kernel⟩, List.mem_of_getElem? (i := 939) (by decide +kernel), List.mem_of_getElem? (i := 1151) (by decide +kernel), List.mem_of_getElem? (i := 1152) (by decide +kernel)⟩
theorem lw_p49 : lw_okq (⟨"QuireDeskModel", "state", "(IIII)I"⟩, 49) := ⟨⟨by decide +kernel, by decide +kernel⟩, List.mem_of_getElem? (i := 939) (by decide +kernel), List.mem_of_getElem? (i := 1155) (by decide +kernel), List.mem_of_getElem? (i := 1156) (by decide +kernel)⟩
theorem lw_p50 : lw_okq (⟨"QuireDeskModel", "spreads", "(IIII)V"⟩, 49) := ⟨⟨by decide +kernel, by decide +kernel⟩, List.mem_of_getElem? (i := 939) (by decide +kernel), List.mem_of_getElem? (i := 1159) (by decide +kernel), List.mem_of_getElem? (i := 1160) (by decide +kernel)⟩
theorem lw_p51 : lw_okq (⟨"QuireDeskModel", "has", "(I)Z"⟩, 49) := ⟨⟨by decide +kernel, by decide +kernel⟩, List.mem_of_getElem? (i := 939) (by decide +kernel), List.mem_of_getElem? (i := 1163) (by decide +kernel), List.mem_of_getElem? (i := 1164) (by decide +kernel)⟩
theorem lw_p52 : lw_okq (⟨"QuireDeskModel", "isQuire", "(IIIIII)Z"⟩, 49) := ⟨⟨by decide +kernel, by decide +kernel⟩, List.mem_of_getElem? (i := 939) (by decide +kernel), List.mem_of_getElem? (i := 1167) (by decide +kernel), List.mem_of_getElem? (i := 1168) (by decide +kernel)⟩
theorem lw_p53 : lw_okq (⟨"QuireDeskModel", "ones", "(I)I"⟩, 49) := ⟨⟨by decide +kernel, by decide +kernel⟩, List.mem_of_getElem? (i := 939) (by decide +kernel), List.mem_of_getElem? (i := 1171) (by decide +kernel), List.mem_of_getElem? (i := 1172) (by decide +kernel)⟩
theorem lw_p54 : lw_okq (⟨"QuireDeskModel", "agrees", "(IIIZIIIIZ)Z"⟩, 49) := ⟨⟨by decide +kernel, by decide +kernel⟩, List.mem_of_getElem? (i := 939) (by decide +kernel), List.mem_of_getElem? (i := 1175) (by decide +kernel), List.mem_of_getElem? (i := 1176) (by decide +kernel)⟩
theorem lw_p55 : lw_okq (⟨"QuireDeskModel", "fits", "(IIIIZ)Z"⟩, 49) := ⟨⟨by decide +kernel, by decide +kernel⟩, List.mem_of_getElem? (i := 939) (by decide +kernel), List.mem_of_getElem? (i := 1179) (by decide +kernel), List.mem_of_getElem? (i := 1180) (by decide +kernel)⟩
theorem lw_p56 : lw_okq (⟨"QuireDeskModel", "known", "(II)I"⟩, 49) := ⟨⟨by decide +kernel, by decide +kernel⟩, List.mem_of_getElem? (i := 939) (by decide +kernel), List.mem_of_getElem? (i := 1183) (by decide +kernel), List.mem_of_getElem? (i := 1184) (by decide +kernel)⟩
theorem lw_p57 : lw_okq (⟨"QuireDeskModel", "goesOn", "(IZ)Z"⟩, 49) := ⟨⟨by decide +kernel, by decide +kernel⟩, List.mem_of_getElem? (i := 939) (by decide +kernel), List.mem_of_getElem? (i := 1187) (by decide +kernel), List.mem_of_getElem? (i := 1188) (by decide +kernel)⟩
theorem lw_p58 : lw_okq (⟨"QuireDeskModel", "hangTogether", "(II)Z"⟩, 49) := ⟨⟨by decide +kernel, by decide +kernel⟩, List.mem_of_getElem? (i := 939) (by decide +kernel), List.mem_of_getElem? (i := 1191) (by decide +kernel), List.mem_of_getElem? (i := 1192) (by decide +kernel)⟩
theorem lw_p59 : lw_okq (⟨"QuireDeskModel", "behind", "(IIIII)I"⟩, 49) := ⟨⟨by decide +kernel, by decide +kernel⟩, List.mem_of_getElem? (i := 939) (by decide +kernel), List.mem_of_getElem? (i := 1195) (by decide +kernel), List.mem_of_getElem? (i := 1196) (by decide +kernel)⟩
theorem lw_p60 : lw_okq (⟨"QuireDeskModel", "counts", "(IIII)V"⟩, 49) := ⟨⟨by decide +kernel, by decide +kernel⟩, List.mem_of_getElem? (i := 939) (by decide +kernel), List.mem_of_getElem? (i := 1199) (by decide +kernel), List.mem_of_getElem? (i := 1200) (by decide +kernel)⟩
theorem lw_p61 : lw_okq (⟨"QuireDeskModel", "lays", "(IJZ)V"⟩, 49) := ⟨⟨by decide +kernel, by decide +kernel⟩, List.mem_of_getElem? (i := 939) (by decide +kernel), List.mem_of_getElem? (i := 1207) (by decide +kernel), List.mem_of_getElem? (i := 1208) (by decide +kernel)⟩
theorem lw_p62 : lw_okq (⟨"QuireDeskModel", "at", "(III)I"⟩, 49) := ⟨⟨by decide +kernel, by decide +kernel⟩, List.mem_of_getElem? (i := 939) (by decide +kernel), List.mem_of_getElem? (i := 1211) (by decide +kernel), List.mem_of_getElem? (i := 1212) (by decide +kernel)⟩
theorem lw_p63 : lw_okq (⟨"QuireDeskModel", "take", "(I)V"⟩, 49) := ⟨⟨by decide +kernel, by decide +kernel⟩, List.mem_of_getElem? (i := 939) (by decide +kernel), List.mem_of_getElem? (i := 1215) (by decide +kernel), List.mem_of_getElem? (i := 1216) (by decide +kernel)⟩
def lw_privs_4 : List (MethodName × Nat) := [(⟨"QuireDeskModel", "asks", "(I)V"⟩, 49), (⟨"QuireDeskModel", "state", "(IIII)I"⟩, 49), (⟨"QuireDeskModel", "spreads", "(IIII)V"⟩, 49), (⟨"QuireDeskModel", "has", "(I)Z"⟩, 49), (⟨"QuireDeskModel", "isQuire", "(IIIIII)Z"⟩, 49), (⟨"QuireDeskModel", "ones", "(I)I"⟩, 49), (⟨"QuireDeskModel", "agrees", "(IIIZIIIIZ)Z"⟩, 49), (⟨"QuireDeskModel", "fits", "(IIIIZ)Z"⟩, 49), (⟨"QuireDeskModel", "known", "(II)I"⟩, 49), (⟨"QuireDeskModel", "goesOn", "(IZ)Z"⟩, 49), (⟨"QuireDeskModel", "hangTogether", "(II)Z"⟩, 49), (⟨"QuireDeskModel", "behind", "(IIIII)I"⟩, 49), (⟨"QuireDeskModel", "counts", "(IIII)V"⟩, 49), (⟨"QuireDeskModel", "lays", "(IJZ)V"⟩, 49), (⟨"QuireDeskModel", "at", "(III)I"⟩, 49), (⟨"QuireDeskModel", "take", "(I)V"⟩, 49)]
theorem lw_r4 : ∀ q ∈ lw_privs_4, lw_okq q := List.forall_mem_cons.mpr ⟨lw_p48, List.forall_mem_cons.mpr ⟨lw_p49, List.forall_mem_cons.mpr ⟨lw_p50, List.forall_mem_cons.mpr ⟨lw_p51, List.forall_mem_cons.mpr ⟨lw_p52, List.forall_mem_cons.mpr ⟨lw_p53, List.forall_mem_cons.mpr ⟨lw_p54, List.forall_mem_cons.mpr ⟨lw_p55, List.forall_mem_cons.mpr ⟨lw_p56, List.forall_mem_cons.mpr ⟨lw_p57, List.forall_mem_cons.mpr ⟨lw_p58, List.forall_mem_cons.mpr ⟨lw_p59, List.forall_mem_cons.mpr ⟨lw_p60, List.forall_mem_cons.mpr ⟨lw_p61, List.forall_mem_cons.mpr ⟨lw_p62, List.forall_mem_cons.mpr ⟨lw_p63, fun _ h => absurd h List.not_mem_nil⟩⟩⟩⟩⟩⟩⟩⟩⟩⟩⟩⟩⟩⟩⟩⟩
theorem lw_p64 : lw_okq (⟨"QuireDeskModel", "begins", "(IZ)Z"⟩, 49) := ⟨⟨by decide +kernel, by decide +kernel⟩, List.mem_of_getElem? (i := 939) (by decide +kernel), List.mem_of_getElem? (i := 1227) (by decide +kernel), List.mem_of_getElem? (i := 1228) (by decide +kernel)⟩
theorem lw_p65 : lw_okq (⟨"QuireDeskModel", "beginsFrom", "(IIIIIZ)Z"⟩, 49) := ⟨⟨by decide +kernel, by decide +kernel⟩, List.mem_of_getElem? (i := 939) (by decide +kernel), List.mem_of_getElem? (i := 1231) (by decide +kernel), List.mem_of_getElem? (i := 1232) (by decide +kernel)⟩
theorem lw_p66 : lw_okq (⟨"QuireDeskModel", "ghosts", "(I)I"⟩, 49) := ⟨⟨by decide +kernel, by decide +kernel⟩, List.mem_of_getElem? (i := 939) (by decide +kernel), List.mem_of_getElem? (i := 1239) (by decide +kernel), List.mem_of_getElem? (i := 1240) (by decide +kernel)⟩
theorem lw_p67 : lw_okq (⟨"QuireDeskModel", "placesAhead", "(III)I"⟩, 49) := ⟨⟨by decide +kernel, by decide +kernel⟩, List.mem_of_getElem? (i := 939) (by decide +kernel), List.mem_of_getElem? (i := 1243) (by decide +kernel), List.mem_of_getElem? (i := 1244) (by decide +kernel)⟩
theorem lw_p68 : lw_okq (⟨"QuireDeskModel", "isQuire", "(II)Z"⟩, 49) := ⟨⟨by decide +kernel, by decide +kernel⟩, List.mem_of_getElem? (i := 939) (by decide +kernel), List.mem_of_getElem? (i := 1251) (by decide +kernel), List.mem_of_getElem? (i := 1252) (by decide +kernel)⟩
theorem lw_p69 : lw_okq (⟨"QuireDeskModel", "isPlace", "(III)Z"⟩, 49) := ⟨⟨by decide +kernel, by decide +kernel⟩, List.mem_of_getElem? (i := 939) (by decide +kernel), List.mem_of_getElem? (i := 1259) (by decide +kernel), List.mem_of_getElem? (i := 1260) (by decide +kernel)⟩
theorem lw_p70 : lw_okq (⟨"QuireDeskModel", "say", "(I)V"⟩, 49) := ⟨⟨by decide +kernel, by decide +kernel⟩, List.mem_of_getElem? (i := 939) (by decide +kernel), List.mem_of_getElem? (i := 1275) (by decide +kernel), List.mem_of_getElem? (i := 1276) (by decide +kernel)⟩
theorem lw_p71 : lw_okq (⟨"QuireDeskModel", "isPlain", "(I)Z"⟩, 49) := ⟨⟨by decide +kernel, by decide +kernel⟩, List.mem_of_getElem? (i := 939) (by decide +kernel), List.mem_of_getElem? (i := 1279) (by decide +kernel), List.mem_of_getElem? (i := 1280) (by decide +kernel)⟩
theorem lw_p72 : lw_okq (⟨"QuireDeskModel", "sayLetters", "(I)V"⟩, 49) := ⟨⟨by decide +kernel, by decide +kernel⟩, List.mem_of_getElem? (i := 939) (by decide +kernel), List.mem_of_getElem? (i := 1283) (by decide +kernel), List.mem_of_getElem? (i := 1284) (by decide +kernel)⟩
theorem lw_p73 : lw_okq (⟨"QuireDeskModel", "sign", "(I)I"⟩, 49) := ⟨⟨by decide +kernel, by decide +kernel⟩, List.mem_of_getElem? (i := 939) (by decide +kernel), List.mem_of_getElem? (i := 1287) (by decide +kernel), List.mem_of_getElem? (i := 1288) (by decide +kernel)⟩
theorem lw_p74 : lw_okq (⟨"QuireDeskModel", "items", "(I)V"⟩, 49) := ⟨⟨by decide +kernel, by decide +kernel⟩, List.mem_of_getElem? (i := 939) (by decide +kernel), List.mem_of_getElem? (i := 1291) (by decide +kernel), List.mem_of_getElem? (i := 1292) (by decide +kernel)⟩
theorem lw_p75 : lw_okq (⟨"QuireDeskModel", "extras", "(II)V"⟩, 49) := ⟨⟨by decide +kernel, by decide +kernel⟩, List.mem_of_getElem? (i := 939) (by decide +kernel), List.mem_of_getElem? (i := 1295) (by decide +kernel), List.mem_of_getElem? (i := 1296) (by decide +kernel)⟩
theorem lw_p76 : lw_okq (⟨"QuireDeskModel", "isCancelled", "(II)Z"⟩, 49) := ⟨⟨by decide +kernel, by decide +kernel⟩, List.mem_of_getElem? (i := 939) (by decide +kernel), List.mem_of_getElem? (i := 1299) (by decide +kernel), List.mem_of_getElem? (i := 1300) (by decide +kernel)⟩
theorem lw_p77 : lw_okq (⟨"QuireDeskModel", "item", "(II)V"⟩, 49) := ⟨⟨by decide +kernel, by decide +kernel⟩, List.mem_of_getElem? (i := 939) (by decide +kernel), List.mem_of_getElem? (i := 1303) (by decide +kernel), List.mem_of_getElem? (i := 1304) (by decide +kernel)⟩
theorem lw_p78 : lw_okq (⟨"QuireDeskModel", "puts", "(I)V"⟩, 49) := ⟨⟨by decide +kernel, by decide +kernel⟩, List.mem_of_getElem? (i := 939) (by decide +kernel), List.mem_of_getElem? (i := 1315) (by decide +kernel), List.mem_of_getElem? (i := 1316) (by decide +kernel)⟩
theorem lw_p79 : lw_okq (⟨"QuireDeskModel", "reading", "()I"⟩, 49) := ⟨⟨by decide +kernel, by decide +kernel⟩, List.mem_of_getElem? (i := 939) (by decide +kernel), List.mem_of_getElem? (i := 1331) (by decide +kernel), List.mem_of_getElem? (i := 1332) (by decide +kernel)⟩
def lw_privs_5 : List (MethodName × Nat) := [(⟨"QuireDeskModel", "begins", "(IZ)Z"⟩, 49), (⟨"QuireDeskModel", "beginsFrom", "(IIIIIZ)Z"⟩, 49), (⟨"QuireDeskModel", "ghosts", "(I)I"⟩, 49), (⟨"QuireDeskModel", "placesAhead", "(III)I"⟩, 49), (⟨"QuireDeskModel", "isQuire", "(II)Z"⟩, 49), (⟨"QuireDeskModel", "isPlace", "(III)Z"⟩, 49), (⟨"QuireDeskModel", "say", "(I)V"⟩, 49), (⟨"QuireDeskModel", "isPlain", "(I)Z"⟩, 49), (⟨"QuireDeskModel", "sayLetters", "(I)V"⟩, 49), (⟨"QuireDeskModel", "sign", "(I)I"⟩, 49), (⟨"QuireDeskModel", "items", "(I)V"⟩, 49), (⟨"QuireDeskModel", "extras", "(II)V"⟩, 49), (⟨"QuireDeskModel", "isCancelled", "(II)Z"⟩, 49), (⟨"QuireDeskModel", "item", "(II)V"⟩, 49), (⟨"QuireDeskModel", "puts", "(I)V"⟩, 49), (⟨"QuireDeskModel", "reading", "()I"⟩, 49)]
theorem lw_r5 : ∀ q ∈ lw_privs_5, lw_okq q := List.forall_mem_cons.mpr ⟨lw_p64, List.forall_mem_cons.mpr ⟨lw_p65, List.forall_mem_cons.mpr ⟨lw_p66, List.forall_mem_cons.mpr ⟨lw_p67, List.forall_mem_cons.mpr ⟨lw_p68, List.forall_mem_cons.mpr ⟨lw_p69, List.forall_mem_cons.mpr ⟨lw_p70, List.forall_mem_cons.mpr ⟨lw_p71, List.forall_mem_cons.mpr ⟨lw_p72, List.forall_mem_cons.mpr ⟨lw_p73, List.forall_mem_cons.mpr ⟨lw_p74, List.forall_mem_cons.mpr ⟨lw_p75, List.forall_mem_cons.mpr ⟨lw_p76, List.forall_mem_cons.mpr ⟨lw_p77, List.forall_mem_cons.mpr ⟨lw_p78, List.forall_mem_cons.mpr ⟨lw_p79, fun _ h => absurd h List.not_mem_nil⟩⟩⟩⟩⟩⟩⟩⟩⟩⟩⟩⟩⟩⟩⟩⟩
theorem lw_p80 : lw_okq (⟨"QuireDeskModel", "readLetters", "()I"⟩, 49) := ⟨⟨by decide +kernel, by decide +kernel⟩, List.mem_of_getElem? (i := 939) (by decide +kernel), List.mem_of_getElem? (i := 1335) (by decide +kernel), List.mem_of_getElem? (i := 1336) (by decide +kernel)⟩
theorem lw_p81 : lw_okq (⟨"QuireDeskModel", "raw", "()I"⟩, 49) := ⟨⟨by decide +kernel, by decide +kernel⟩, List.mem_of_getElem? (i := 939) (by decide +kernel), List.mem_of_getElem? (i := 1339) (by decide +kernel), List.mem_of_getElem? (i := 1340) (by decide +kernel)⟩
theorem lw_p82 : lw_okq (⟨"QuireDeskModel", "numberOf", "(I)I"⟩, 49) := ⟨⟨by decide +kernel, by decide +kernel⟩, List.mem_of_getElem? (i := 939) (by decide +kernel), List.mem_of_getElem? (i := 1343) (by decide +kernel), List.mem_of_getElem? (i := 1344) (by decide +kernel)⟩
theorem lw_p83 : lw_okq (⟨"QuireDeskModel", "fails", "(II)I"⟩, 49) := ⟨⟨by decide +kernel, by decide +kernel⟩, List.mem_of_getElem? (i := 939) (by decide +kernel), List.mem_of_getElem? (i := 1347) (by decide +kernel), List.mem_of_getElem? (i := 1348) (by decide +kernel)⟩
theorem lw_p84 : lw_okq (⟨"QuireDeskModel", "readItems", "(I)I"⟩, 49) := ⟨⟨by decide +kernel, by decide +kernel⟩, List.mem_of_getElem? (i := 939) (by decide +kernel), List.mem_of_getElem? (i := 1351) (by decide +kernel), List.mem_of_getElem? (i := 1352) (by decide +kernel)⟩
theorem lw_p85 : lw_okq (⟨"QuireDeskModel", "laid", "(I)V"⟩, 49) := ⟨⟨by decide +kernel, by decide +kernel⟩, List.mem_of_getElem? (i := 939) (by decide +kernel), List.mem_of_getElem? (i := 1355) (by decide +kernel), List.mem_of_getElem? (i := 1356) (by decide +kernel)⟩
theorem lw_p86 : lw_okq (⟨"QuireDeskModel", "adds", "(I)V"⟩, 49) := ⟨⟨by decide +kernel, by decide +kernel⟩, List.mem_of_getElem? (i := 939) (by decide +kernel), List.mem_of_getElem? (i := 1359) (by decide +kernel), List.mem_of_getElem? (i := 1360) (by decide +kernel)⟩
theorem lw_p87 : lw_okq (⟨"QuireDeskModel", "isBlank", "(I)Z"⟩, 49) := ⟨⟨by decide +kernel, by decide +kernel⟩, List.mem_of_getElem? (i := 939) (by decide +kernel), List.mem_of_getElem? (i := 1363) (by decide +kernel), List.mem_of_getElem? (i := 1364) (by decide +kernel)⟩
theorem lw_p88 : lw_okq (⟨"QuireDeskModel", "blanks", "()V"⟩, 49) := ⟨⟨by decide +kernel, by decide +kernel⟩, List.mem_of_getElem? (i := 939) (by decide +kernel), List.mem_of_getElem? (i := 1367) (by decide +kernel), List.mem_of_getElem? (i := 1368) (by decide +kernel)⟩
theorem lw_p89 : lw_okq (⟨"QuireDeskModel", "isCopy", "(I)Z"⟩, 49) := ⟨⟨by decide +kernel, by decide +kernel⟩, List.mem_of_getElem? (i := 939) (by decide +kernel), List.mem_of_getElem? (i := 1379) (by decide +kernel), List.mem_of_getElem? (i := 1380) (by decide +kernel)⟩
theorem lw_p90 : lw_okq (⟨"QuireDeskModel", "keep", "(II)V"⟩, 49) := ⟨⟨by decide +kernel, by decide +kernel⟩, List.mem_of_getElem? (i := 939) (by decide +kernel), List.mem_of_getElem? (i := 1383) (by decide +kernel), List.mem_of_getElem? (i := 1384) (by decide +kernel)⟩
theorem lw_p91 : lw_okq (⟨"QuireDeskModel", "areKept", "(II)Z"⟩, 49) := ⟨⟨by decide +kernel, by decide +kernel⟩, List.mem_of_getElem? (i := 939) (by decide +kernel), List.mem_of_getElem? (i := 1391) (by decide +kernel), List.mem_of_getElem? (i := 1392) (by decide +kernel)⟩
theorem lw_p92 : lw_okq (⟨"QuireDeskModel", "differences", "(III)I"⟩, 49) := ⟨⟨by decide +kernel, by decide +kernel⟩, List.mem_of_getElem? (i := 939) (by decide +kernel), List.mem_of_getElem? (i := 1395) (by decide +kernel), List.mem_of_getElem? (i := 1396) (by decide +kernel)⟩
theorem lw_p93 : lw_okq (⟨"QuireDeskModel", "code", "(III)I"⟩, 49) := ⟨⟨by decide +kernel, by decide +kernel⟩, List.mem_of_getElem? (i := 939) (by decide +kernel), List.mem_of_getElem? (i := 1399) (by decide +kernel), List.mem_of_getElem? (i := 1400) (by decide +kernel)⟩
theorem lw_p94 : lw_okq (⟨"QuireDeskModel", "makesExtras", "(II)V"⟩, 49) := ⟨⟨by decide +kernel, by decide +kernel⟩, List.mem_of_getElem? (i := 939) (by decide +kernel), List.mem_of_getElem? (i := 1411) (by decide +kernel), List.mem_of_getElem? (i := 1412) (by decide +kernel)⟩
theorem lw_p95 : lw_okq (⟨"QuireDeskModel", "makes", "(I)V"⟩, 49) := ⟨⟨by decide +kernel, by decide +kernel⟩, List.mem_of_getElem? (i := 939) (by decide +kernel), List.mem_of_getElem? (i := 1415) (by decide +kernel), List.mem_of_getElem? (i := 1416) (by decide +kernel)⟩
def lw_privs_6 : List (MethodName × Nat) := [(⟨"QuireDeskModel", "readLetters", "()I"⟩, 49), (⟨"QuireDeskModel", "raw", "()I"⟩, 49), (⟨"QuireDeskModel", "numberOf", "(I)I"⟩, 49), (⟨"QuireDeskModel", "fails", "(II)I"⟩, 49), (⟨"QuireDeskModel", "readItems", "(I)I"⟩, 49), (⟨"QuireDeskModel", "laid", "(I)V"⟩, 49), (⟨"QuireDeskModel", "adds", "(I)V"⟩, 49), (⟨"QuireDeskModel", "isBlank", "(I)Z"⟩, 49), (⟨"QuireDeskModel", "blanks", "()V"⟩, 49), (⟨"QuireDeskModel", "isCopy", "(I)Z"⟩, 49), (⟨"QuireDeskModel", "keep", "(II)V"⟩, 49), (⟨"QuireDeskModel", "areKept", "(II)Z"⟩, 49), (⟨"QuireDeskModel", "differences", "(III)I"⟩, 49), (⟨"QuireDeskModel", "code", "(III)I"⟩, 49), (⟨"QuireDeskModel", "makesExtras", "(II)V"⟩, 49), (⟨"QuireDeskModel", "makes", "(I)V"⟩, 49)]
theorem lw_r6 : ∀ q ∈ lw_privs_6, lw_okq q := List.forall_mem_cons.mpr ⟨lw_p80, List.forall_mem_cons.mpr ⟨lw_p81, List.forall_mem_cons.mpr ⟨lw_p82, List.forall_mem_cons.mpr ⟨lw_p83, List.forall_mem_cons.mpr ⟨lw_p84, List.forall_mem_cons.mpr ⟨lw_p85, List.forall_mem_cons.mpr ⟨lw_p86, List.forall_mem_cons.mpr ⟨lw_p87, List.forall_mem_cons.mpr ⟨lw_p88, List.forall_mem_cons.mpr ⟨lw_p89, List.forall_mem_cons.mpr ⟨lw_p90, List.forall_mem_cons.mpr ⟨lw_p91, List.forall_mem_cons.mpr ⟨lw_p92, List.forall_mem_cons.mpr ⟨lw_p93, List.forall_mem_cons.mpr ⟨lw_p94, List.forall_mem_cons.mpr ⟨lw_p95, fun _ h => absurd h List.not_mem_nil⟩⟩⟩⟩⟩⟩⟩⟩⟩⟩⟩⟩⟩⟩⟩⟩
def lw_privs : List (MethodName × Nat) := lw_privs_1 ++ (lw_privs_2 ++ (lw_privs_3 ++ (lw_privs_4 ++ (lw_privs_5 ++ (lw_privs_6)))))
def lw_tbl : List Cond := k2_sels lw_privs ++ tables_1
theorem lw_privs_ok : ∀ q ∈ lw_privs, lw_okq q := by
  show ∀ q ∈ lw_privs_1 ++ (lw_privs_2 ++ (lw_privs_3 ++ (lw_privs_4 ++ (lw_privs_5 ++ (lw_privs_6))))), lw_okq q
  exact List.forall_mem_append.mpr ⟨lw_r1, List.forall_mem_append.mpr ⟨lw_r2, List.forall_mem_append.mpr ⟨lw_r3, List.forall_mem_append.mpr ⟨lw_r4, List.forall_mem_append.mpr ⟨lw_r5, lw_r6⟩⟩⟩⟩⟩
/-! ===== BEGIN words of one list among another's, by their places ===== -/
theorem goodIn_r {big : List Cond} (ws : List Cond) (ps : List Nat) (hp : ws = ps.filterMap (fun i => big[i]?)) (h : ws.all goodWord = true) : GoodIn big ws := by
  intro w hw
  have h1 := List.all_eq_true.mp h w hw
  rw [hp] at hw
  obtain ⟨i, -, hi⟩ := List.mem_filterMap.mp hw
  have hm : w ∈ big := by first | exact List.mem_of_getElem? hi | exact List.getElem?_mem hi
  exact ⟨hm, good_of_word h1⟩
theorem goodIn_app {big a b : List Cond} (ha : GoodIn big a) (hb : GoodIn big b) : GoodIn big (a ++ b) := fun w h => (List.mem_append.mp h).elim (ha w) (hb w)
theorem goodIn_ca {big a b : List Cond} {c : Cond} (ha : GoodIn big (c :: a)) (hb : GoodIn big b) : GoodIn big (c :: (a ++ b)) := fun w h => (List.mem_cons.mp h).elim (fun e => ha w (List.mem_cons.mpr (Or.inl e))) (fun h => (List.mem_append.mp h).elim (fun h => ha w (List.mem_cons.mpr (Or.inr h))) (hb w))
theorem goodIn_sub {big ws : List Cond} (hm : ∀ w ∈ ws, w ∈ big) (h : ws.all goodWord = true) : GoodIn big ws := fun w hw => ⟨hm w hw, good_of_word (List.all_eq_true.mp h w hw)⟩
/-! ===== END ===== -/
def RX0 : String := "QuireDesk$Folding"
def TX0 : u_T := fun k => match k with
  | 0 => ("QuireDesk$Folding", "made", "Z", false)
  | 1 => ("QuireDesk$Folding", "quires", "I", false)
  | 2 => ("QuireDesk$Folding", "things", "I", false)
  | 3 => ("QuireDesk$Folding", "ghosts", "I", false)
  | 4 => ("QuireDesk$Folding", "letter", "I", false)
  | 5 => ("QuireDesk$Folding", "page", "I", false)
  | 6 => ("QuireDesk$Folding", "sizes", "[I", true)
  | 7 => ("QuireDesk$Folding", "cells", "[I", true)
  | 8 => ("QuireDesk$Folding", "kinds", "[I", true)
  | 9 => ("QuireDesk$Folding", "words", "[I", true)
  | 10 => ("QuireDesk$Folding", "quireOf", "[I", true)
  | 11 => ("QuireDesk$Folding", "placeOf", "[I", true)
  | _ => ("QuireDesk$Folding", "laid", "I", false)
def tyX0 : Nat → FieldType := fun k => match k with
  | 0 => .boolean
  | 1 => .int
  | 2 => .int
  | 3 => .int
  | 4 => .int
  | 5 => .int
  | 6 => .array .int
  | 7 => .array .int
  | 8 => .array .int
  | 9 => .array .int
  | 10 => .array .int
  | 11 => .array .int
  | _ => .int
abbrev wsX00 : List Cond := u_ws RX0 TX0 13
theorem nmX0 : ∀ a, a < 13 → ∀ b, b < 13 → a ≠ b → (TX0 a).2.1 ≠ (TX0 b).2.1 := by decide +kernel
theorem tyX0_ok : ∀ k, k < 13 → parseFieldDescriptor (TX0 k).2.2.1 = some (tyX0 k) := by decide +kernel
abbrev cX0_init : ByteArray := prog_2_method_1_code
def yX0_init : MethodName := ⟨RX0, "<init>", "()V"⟩
abbrev cX0_start : ByteArray := prog_2_method_2_code
def yX0_start : MethodName := ⟨RX0, "start", "(II)V"⟩
abbrev cX0_addQuire : ByteArray := prog_2_method_3_code
def yX0_addQuire : MethodName := ⟨RX0, "addQuire", "(I)V"⟩
abbrev cX0_addGhost : ByteArray := prog_2_method_4_code
def yX0_addGhost : MethodName := ⟨RX0, "addGhost", "()V"⟩
abbrev cX0_addCell : ByteArray := prog_2_method_5_code
def yX0_addCell : MethodName := ⟨RX0, "addCell", "(I)V"⟩
abbrev cX0_addLeaf : ByteArray := prog_2_method_6_code
def yX0_addLeaf : MethodName := ⟨RX0, "addLeaf", "(II)V"⟩
abbrev cX0_addThing : ByteArray := prog_2_method_7_code
def yX0_addThing : MethodName := ⟨RX0, "addThing", "(I)V"⟩
abbrev cX0_addLoose : ByteArray := prog_2_method_8_code
def yX0_addLoose : MethodName := ⟨RX0, "addLoose", "([III)I"⟩
abbrev cX0_layOut : ByteArray := prog_2_method_9_code
def yX0_layOut : MethodName := ⟨RX0, "layOut", "(LQuireDesk$Row;LQuireDesk$Reckoner;)V"⟩
abbrev cX0_become : ByteArray := prog_2_method_10_code
def yX0_become : MethodName := ⟨RX0, "become", "(LQuireDesk$Folding;)V"⟩
abbrev cX0_hasQuire : ByteArray := prog_2_method_11_code
def yX0_hasQuire : MethodName := ⟨RX0, "hasQuire", "(I)Z"⟩
abbrev cX0_hasPlace : ByteArray := prog_2_method_12_code
def yX0_hasPlace : MethodName := ⟨RX0, "hasPlace", "(II)Z"⟩
abbrev cX0_thingAt : ByteArray := prog_2_method_13_code
def yX0_thingAt : MethodName := ⟨RX0, "thingAt", "(II)I"⟩
abbrev cX0_hangs : ByteArray := prog_2_method_14_code
def yX0_hangs : MethodName := ⟨RX0, "hangs", "(I)Z"⟩
abbrev cX0_isLoose : ByteArray := prog_2_method_15_code
def yX0_isLoose : MethodName := ⟨RX0, "isLoose", "(I)Z"⟩
abbrev cX0_isCancelled : ByteArray := prog_2_method_16_code
def yX0_isCancelled : MethodName := ⟨RX0, "isCancelled", "(I)Z"⟩
abbrev cX0_behind : ByteArray := prog_2_method_17_code
def yX0_behind : MethodName := ⟨RX0, "behind", "(I)I"⟩
abbrev cX0_placesAhead : ByteArray := prog_2_method_18_code
def yX0_placesAhead : MethodName := ⟨RX0, "placesAhead", "(I)I"⟩
abbrev cX0_pageAt : ByteArray := prog_2_method_19_code
def yX0_pageAt : MethodName := ⟨RX0, "pageAt", "(II)I"⟩
abbrev cX0_wordBefore : ByteArray := prog_2_method_20_code
def yX0_wordBefore : MethodName := ⟨RX0, "wordBefore", "(II)I"⟩
abbrev cX0_stateOf : ByteArray := prog_2_method_21_code
def yX0_stateOf : MethodName := ⟨RX0, "stateOf", "(I)I"⟩
abbrev cX0_isFoldedLike : ByteArray := prog_2_method_22_code
def yX0_isFoldedLike : MethodName := ⟨RX0, "isFoldedLike", "(LQuireDesk$Folding;)Z"⟩
abbrev cX0_join : ByteArray := prog_2_method_23_code
def yX0_join : MethodName := ⟨RX0, "join", "(LQuireDesk$Folding;LQuireDesk$Folding;)V"⟩
abbrev cX0_joinPlace : ByteArray := prog_2_method_24_code
def yX0_joinPlace : MethodName := ⟨RX0, "joinPlace", "(LQuireDesk$Folding;LQuireDesk$Folding;II)V"⟩
def RX1 : String := "QuireDesk$Lays"
def TX1 : u_T := fun k => match k with
  | 0 => ("QuireDesk$Lays", "leaves", "LQuireDesk$Leaves;", true)
  | 1 => ("QuireDesk$Lays", "first", "I", false)
  | 2 => ("QuireDesk$Lays", "last", "I", false)
  | 3 => ("QuireDesk$Lays", "nextSize", "I", false)
  | 4 => ("QuireDesk$Lays", "nextMask", "I", false)
  | 5 => ("QuireDesk$Lays", "seats", "[I", true)
  | 6 => ("QuireDesk$Lays", "nexts", "[I", true)
  | 7 => ("QuireDesk$Lays", "aheads", "[I", true)
  | 8 => ("QuireDesk$Lays", "size", "I", false)
  | 9 => ("QuireDesk$Lays", "mask", "I", false)
  | 10 => ("QuireDesk$Lays", "things", "I", false)
  | 11 => ("QuireDesk$Lays", "ghosts", "I", false)
  | _ => ("QuireDesk$Lays", "ahead", "I", false)
def tyX1 : Nat → FieldType := fun k => match k with
  | 0 => .object "QuireDesk$Leaves"
  | 1 => .int
  | 2 => .int
  | 3 => .int
  | 4 => .int
  | 5 => .array .int
  | 6 => .array .int
  | 7 => .array .int
  | 8 => .int
  | 9 => .int
  | 10 => .int
  | 11 => .int
  | _ => .int
abbrev wsX10 : List Cond := u_ws RX1 TX1 13
theorem nmX1 : ∀ a, a < 13 → ∀ b, b < 13 → a ≠ b → (TX1 a).2.1 ≠ (TX1 b).2.1 := by decide +kernel
theorem tyX1_ok : ∀ k, k < 13 → parseFieldDescriptor (TX1 k).2.2.1 = some (tyX1 k) := by decide +kernel
abbrev cX1_init : ByteArray := prog_3_method_1_code
def yX1_init : MethodName := ⟨RX1, "<init>", "()V"⟩
abbrev cX1_beginWhole : ByteArray := prog_3_method_2_code
def yX1_beginWhole : MethodName := ⟨RX1, "beginWhole", "(I)V"⟩
abbrev cX1_beginOpen : ByteArray := prog_3_method_3_code
def yX1_beginOpen : MethodName := ⟨RX1, "beginOpen", "(II)V"⟩
abbrev cX1_advance : ByteArray := prog_3_method_4_code
def yX1_advance : MethodName := ⟨RX1, "advance", "()Z"⟩
abbrev cX1_layMask : ByteArray := prog_3_method_5_code
def yX1_layMask : MethodName := ⟨RX1, "layMask", "()I"⟩
abbrev cX1_layPlace : ByteArray := prog_3_method_6_code
def yX1_layPlace : MethodName := ⟨RX1, "layPlace", "(I)Z"⟩
abbrev cX1_startsWithLeaf : ByteArray := prog_3_method_7_code
def yX1_startsWithLeaf : MethodName := ⟨RX1, "startsWithLeaf", "()Z"⟩
abbrev cX1_endsWithLeaf : ByteArray := prog_3_method_8_code
def yX1_endsWithLeaf : MethodName := ⟨RX1, "endsWithLeaf", "()Z"⟩
def RX2 : String := "QuireDesk$Leaves"
def TX2 : u_T := fun k => match k with
  | 0 => ("QuireDesk$Leaves", "count", "I", false)
  | 1 => ("QuireDesk$Leaves", "letters", "[I", true)
  | 2 => ("QuireDesk$Leaves", "numbers", "[I", true)
  | 3 => ("QuireDesk$Leaves", "spots", "[I", true)
  | 4 => ("QuireDesk$Leaves", "heads", "[I", true)
  | 5 => ("QuireDesk$Leaves", "nexts", "[I", true)
  | 6 => ("QuireDesk$Leaves", "waters", "[I", true)
  | 7 => ("QuireDesk$Leaves", "sides", "[I", true)
  | 8 => ("QuireDesk$Leaves", "ties", "[I", true)
  | 9 => ("QuireDesk$Leaves", "lastSpotted", "I", false)
  | 10 => ("QuireDesk$Leaves", "sizes", "I", false)
  | 11 => ("QuireDesk$Leaves", "signed", "I", false)
  | _ => ("QuireDesk$Leaves", "letter", "I", false)
def tyX2 : Nat → FieldType := fun k => match k with
  | 0 => .int
  | 1 => .array .int
  | 2 => .array .int
  | 3 => .array .int
  | 4 => .array .int
  | 5 => .array .int
  | 6 => .array .int
  | 7 => .array .int
  | 8 => .array .int
  | 9 => .int
  | 10 => .int
  | 11 => .int
  | _ => .int
abbrev wsX20 : List Cond := u_ws RX2 TX2 13
theorem nmX2 : ∀ a, a < 13 → ∀ b, b < 13 → a ≠ b → (TX2 a).2.1 ≠ (TX2 b).2.1 := by decide +kernel
theorem tyX2_ok : ∀ k, k < 13 → parseFieldDescriptor (TX2 k).2.2.1 = some (tyX2 k) := by decide +kernel
abbrev cX2_init : ByteArray := prog_4_method_1_code
def yX2_init : MethodName := ⟨RX2, "<init>", "()V"⟩
abbrev cX2_load : ByteArray := prog_4_method_2_code
def yX2_load : MethodName := ⟨RX2, "load", "(LQuireDesk$Row;)V"⟩
abbrev cX2_add : ByteArray := prog_4_method_3_code
def yX2_add : MethodName := ⟨RX2, "add", "(LQuireDesk$Row;I)V"⟩
abbrev cX2_judge : ByteArray := prog_4_method_4_code
def yX2_judge : MethodName := ⟨RX2, "judge", "(ILQuireDesk$Row;IZ)V"⟩
abbrev cX2_spotOf : ByteArray := prog_4_method_5_code
def yX2_spotOf : MethodName := ⟨RX2, "spotOf", "(II)I"⟩
abbrev cX2_allows : ByteArray := prog_4_method_6_code
def yX2_allows : MethodName := ⟨RX2, "allows", "(I)Z"⟩
abbrev cX2_reach : ByteArray := prog_4_method_7_code
def yX2_reach : MethodName := ⟨RX2, "reach", "(II)I"⟩
abbrev cX2_joins : ByteArray := prog_4_method_8_code
def yX2_joins : MethodName := ⟨RX2, "joins", "(I)Z"⟩
abbrev cX2_clashes : ByteArray := prog_4_method_9_code
def yX2_clashes : MethodName := ⟨RX2, "clashes", "(I)Z"⟩
abbrev cX2_mayBeAt : ByteArray := prog_4_method_10_code
def yX2_mayBeAt : MethodName := ⟨RX2, "mayBeAt", "(II)Z"⟩
abbrev cX2_mayHang : ByteArray := prog_4_method_11_code
def yX2_mayHang : MethodName := ⟨RX2, "mayHang", "(II)Z"⟩
abbrev cX2_aheadBy : ByteArray := prog_4_method_12_code
def yX2_aheadBy : MethodName := ⟨RX2, "aheadBy", "(II)I"⟩
def RX3 : String := "QuireDesk$Reader"
def TX3 : u_T := fun k => match k with
  | 0 => ("QuireDesk$Reader", "fault", "I", false)
  | 1 => ("QuireDesk$Reader", "faultAt", "I", false)
  | 2 => ("QuireDesk$Reader", "text", "LQuireDesk$Strip;", false)
  | 3 => ("QuireDesk$Reader", "pos", "I", false)
  | 4 => ("QuireDesk$Reader", "latest", "I", false)
  | 5 => ("QuireDesk$Reader", "states", "[I", true)
  | 6 => ("QuireDesk$Reader", "looseKinds", "[I", true)
  | 7 => ("QuireDesk$Reader", "loosePlaces", "[I", true)
  | 8 => ("QuireDesk$Reader", "looseCount", "I", false)
  | 9 => ("QuireDesk$Reader", "ghosts", "I", false)
  | 10 => ("QuireDesk$Reader", "size", "I", false)
  | 11 => ("QuireDesk$Reader", "itemSign", "I", false)
  | _ => ("QuireDesk$Reader", "itemPlace", "I", false)
def tyX3 : Nat → FieldType := fun k => match k with
  | 0 => .int
  | 1 => .int
  | 2 => .object "QuireDesk$Strip"
  | 3 => .int
  | 4 => .int
  | 5 => .array .int
  | 6 => .array .int
  | 7 => .array .int
  | 8 => .int
  | 9 => .int
  | 10 => .int
  | 11 => .int
  | _ => .int
abbrev wsX30 : List Cond := u_ws RX3 TX3 13
theorem nmX3 : ∀ a, a < 13 → ∀ b, b < 13 → a ≠ b → (TX3 a).2.1 ≠ (TX3 b).2.1 := by decide +kernel
theorem tyX3_ok : ∀ k, k < 13 → parseFieldDescriptor (TX3 k).2.2.1 = some (tyX3 k) := by decide +kernel
abbrev cX3_init : ByteArray := prog_5_method_1_code
def yX3_init : MethodName := ⟨RX3, "<init>", "()V"⟩
abbrev cX3_readFormula : ByteArray := prog_5_method_2_code
def yX3_readFormula : MethodName := ⟨RX3, "readFormula", "(LQuireDesk$Strip;LQuireDesk$Folding;)Z"⟩
abbrev cX3_sign : ByteArray := prog_5_method_3_code
def yX3_sign : MethodName := ⟨RX3, "sign", "()I"⟩
abbrev cX3_fail : ByteArray := prog_5_method_4_code
def yX3_fail : MethodName := ⟨RX3, "fail", "(II)Z"⟩
abbrev cX3_readQuire : ByteArray := prog_5_method_5_code
def yX3_readQuire : MethodName := ⟨RX3, "readQuire", "(LQuireDesk$Folding;)Z"⟩
abbrev cX3_readLetters : ByteArray := prog_5_method_6_code
def yX3_readLetters : MethodName := ⟨RX3, "readLetters", "()I"⟩
abbrev cX3_readLast : ByteArray := prog_5_method_7_code
def yX3_readLast : MethodName := ⟨RX3, "readLast", "(II)I"⟩
abbrev cX3_readSize : ByteArray := prog_5_method_8_code
def yX3_readSize : MethodName := ⟨RX3, "readSize", "()Z"⟩
abbrev cX3_readBracket : ByteArray := prog_5_method_9_code
def yX3_readBracket : MethodName := ⟨RX3, "readBracket", "(ZZ)Z"⟩
abbrev cX3_readItem : ByteArray := prog_5_method_10_code
def yX3_readItem : MethodName := ⟨RX3, "readItem", "(Z)Z"⟩
abbrev cX3_canFollow : ByteArray := prog_5_method_11_code
def yX3_canFollow : MethodName := ⟨RX3, "canFollow", "(II)Z"⟩
abbrev cX3_keepItem : ByteArray := prog_5_method_12_code
def yX3_keepItem : MethodName := ⟨RX3, "keepItem", "(II)V"⟩
abbrev cX3_keepLoose : ByteArray := prog_5_method_13_code
def yX3_keepLoose : MethodName := ⟨RX3, "keepLoose", "(II)V"⟩
abbrev cX3_addQuire : ByteArray := prog_5_method_14_code
def yX3_addQuire : MethodName := ⟨RX3, "addQuire", "(LQuireDesk$Folding;)V"⟩
abbrev cX3_addLooseOf : ByteArray := prog_5_method_15_code
def yX3_addLooseOf : MethodName := ⟨RX3, "addLooseOf", "(LQuireDesk$Folding;I)V"⟩
def RX4 : String := "QuireDesk$Reckoner"
def TX4 : u_T := fun k => match k with
  | 0 => ("QuireDesk$Reckoner", "lays", "LQuireDesk$Lays;", true)
  | 1 => ("QuireDesk$Reckoner", "leaves", "LQuireDesk$Leaves;", true)
  | 2 => ("QuireDesk$Reckoner", "loaded", "LQuireDesk$Row;", false)
  | 3 => ("QuireDesk$Reckoner", "loads", "I", false)
  | 4 => ("QuireDesk$Reckoner", "groups", "[I", true)
  | 5 => ("QuireDesk$Reckoner", "groupCounts", "[I", true)
  | 6 => ("QuireDesk$Reckoner", "tally", "[I", true)
  | 7 => ("QuireDesk$Reckoner", "counts", "[J", true)
  | 8 => ("QuireDesk$Reckoner", "bests", "[I", true)
  | 9 => ("QuireDesk$Reckoner", "chosenSizes", "[I", true)
  | 10 => ("QuireDesk$Reckoner", "chosenMasks", "[I", true)
  | _ => ("QuireDesk$Reckoner", "chosen", "I", false)
def tyX4 : Nat → FieldType := fun k => match k with
  | 0 => .object "QuireDesk$Lays"
  | 1 => .object "QuireDesk$Leaves"
  | 2 => .object "QuireDesk$Row"
  | 3 => .int
  | 4 => .array .int
  | 5 => .array .int
  | 6 => .array .int
  | 7 => .array .long
  | 8 => .array .int
  | 9 => .array .int
  | 10 => .array .int
  | _ => .int
abbrev wsX40 : List Cond := u_ws RX4 TX4 12
theorem nmX4 : ∀ a, a < 12 → ∀ b, b < 12 → a ≠ b → (TX4 a).2.1 ≠ (TX4 b).2.1 := by decide +kernel
theorem tyX4_ok : ∀ k, k < 12 → parseFieldDescriptor (TX4 k).2.2.1 = some (tyX4 k) := by decide +kernel
abbrev cX4_init : ByteArray := prog_6_method_1_code
def yX4_init : MethodName := ⟨RX4, "<init>", "()V"⟩
abbrev cX4_load : ByteArray := prog_6_method_2_code
def yX4_load : MethodName := ⟨RX4, "load", "(LQuireDesk$Row;)V"⟩
abbrev cX4_forgetLoads : ByteArray := prog_6_method_3_code
def yX4_forgetLoads : MethodName := ⟨RX4, "forgetLoads", "()V"⟩
abbrev cX4_total : ByteArray := prog_6_method_4_code
def yX4_total : MethodName := ⟨RX4, "total", "()J"⟩
abbrev cX4_countFrom : ByteArray := prog_6_method_5_code
def yX4_countFrom : MethodName := ⟨RX4, "countFrom", "(IIIZ)J"⟩
abbrev cX4_leastFrom : ByteArray := prog_6_method_6_code
def yX4_leastFrom : MethodName := ⟨RX4, "leastFrom", "(IIIZ)I"⟩
abbrev cX4_stateOf : ByteArray := prog_6_method_7_code
def yX4_stateOf : MethodName := ⟨RX4, "stateOf", "(IIIZ)I"⟩
abbrev cX4_numberOf : ByteArray := prog_6_method_8_code
def yX4_numberOf : MethodName := ⟨RX4, "numberOf", "(IIIZ)I"⟩
abbrev cX4_isKnown : ByteArray := prog_6_method_9_code
def yX4_isKnown : MethodName := ⟨RX4, "isKnown", "(I)Z"⟩
abbrev cX4_reckon : ByteArray := prog_6_method_10_code
def yX4_reckon : MethodName := ⟨RX4, "reckon", "(IIIIZ)V"⟩
abbrev cX4_groupLays : ByteArray := prog_6_method_11_code
def yX4_groupLays : MethodName := ⟨RX4, "groupLays", "(I)V"⟩
abbrev cX4_addLay : ByteArray := prog_6_method_12_code
def yX4_addLay : MethodName := ⟨RX4, "addLay", "(I)V"⟩
abbrev cX4_addGroup : ByteArray := prog_6_method_13_code
def yX4_addGroup : MethodName := ⟨RX4, "addGroup", "(IIII)V"⟩
abbrev cX4_chooseWay : ByteArray := prog_6_method_14_code
def yX4_chooseWay : MethodName := ⟨RX4, "chooseWay", "(JZ)Z"⟩
abbrev cX4_countBehind : ByteArray := prog_6_method_15_code
def yX4_countBehind : MethodName := ⟨RX4, "countBehind", "(IIIZ)J"⟩
abbrev cX4_leastBehind : ByteArray := prog_6_method_16_code
def yX4_leastBehind : MethodName := ⟨RX4, "leastBehind", "(III)I"⟩
abbrev cX4_choose : ByteArray := prog_6_method_17_code
def yX4_choose : MethodName := ⟨RX4, "choose", "(I)V"⟩
abbrev cX4_firstStuck : ByteArray := prog_6_method_18_code
def yX4_firstStuck : MethodName := ⟨RX4, "firstStuck", "(LQuireDesk$Row;)I"⟩
abbrev cX4_opensUpTo : ByteArray := prog_6_method_19_code
def yX4_opensUpTo : MethodName := ⟨RX4, "opensUpTo", "(I)Z"⟩
abbrev cX4_wasReached : ByteArray := prog_6_method_20_code
def yX4_wasReached : MethodName := ⟨RX4, "wasReached", "(I)Z"⟩
abbrev cX4_wasIn : ByteArray := prog_6_method_21_code
def yX4_wasIn : MethodName := ⟨RX4, "wasIn", "(IIIZ)Z"⟩
def RX5 : String := "QuireDesk$Row"
def TX5 : u_T := fun k => match k with
  | 0 => ("QuireDesk$Row", "kinds", "[I", true)
  | 1 => ("QuireDesk$Row", "whole", "[I", true)
  | 2 => ("QuireDesk$Row", "marks", "[I", true)
  | 3 => ("QuireDesk$Row", "rules", "[I", true)
  | 4 => ("QuireDesk$Row", "count", "I", false)
  | _ => ("QuireDesk$Row", "changed", "Z", false)
def tyX5 : Nat → FieldType := fun k => match k with
  | 0 => .array .int
  | 1 => .array .int
  | 2 => .array .int
  | 3 => .array .int
  | 4 => .int
  | _ => .boolean
abbrev wsX50 : List Cond := u_ws RX5 TX5 6
theorem nmX5 : ∀ a, a < 6 → ∀ b, b < 6 → a ≠ b → (TX5 a).2.1 ≠ (TX5 b).2.1 := by decide +kernel
theorem tyX5_ok : ∀ k, k < 6 → parseFieldDescriptor (TX5 k).2.2.1 = some (tyX5 k) := by decide +kernel
abbrev cX5_init : ByteArray := prog_7_method_1_code
def yX5_init : MethodName := ⟨RX5, "<init>", "()V"⟩
abbrev cX5_has : ByteArray := prog_7_method_2_code
def yX5_has : MethodName := ⟨RX5, "has", "(I)Z"⟩
abbrev cX5_insert : ByteArray := prog_7_method_3_code
def yX5_insert : MethodName := ⟨RX5, "insert", "(II)I"⟩
abbrev cX5_remove : ByteArray := prog_7_method_4_code
def yX5_remove : MethodName := ⟨RX5, "remove", "(I)I"⟩
abbrev cX5_shift : ByteArray := prog_7_method_5_code
def yX5_shift : MethodName := ⟨RX5, "shift", "(II)V"⟩
abbrev cX5_setMark : ByteArray := prog_7_method_6_code
def yX5_setMark : MethodName := ⟨RX5, "setMark", "(III)Z"⟩
abbrev cX5_tearTo : ByteArray := prog_7_method_7_code
def yX5_tearTo : MethodName := ⟨RX5, "tearTo", "(II)I"⟩
abbrev cX5_kindOf : ByteArray := prog_7_method_8_code
def yX5_kindOf : MethodName := ⟨RX5, "kindOf", "(I)I"⟩
abbrev cX5_markOf : ByteArray := prog_7_method_9_code
def yX5_markOf : MethodName := ⟨RX5, "markOf", "(II)I"⟩
abbrev cX5_hanging : ByteArray := prog_7_method_10_code
def yX5_hanging : MethodName := ⟨RX5, "hanging", "()I"⟩
abbrev cX5_ruleOf : ByteArray := prog_7_method_11_code
def yX5_ruleOf : MethodName := ⟨RX5, "ruleOf", "(I)I"⟩
abbrev cX5_setRule : ByteArray := prog_7_method_12_code
def yX5_setRule : MethodName := ⟨RX5, "setRule", "(II)Z"⟩
abbrev cX5_hangs : ByteArray := prog_7_method_13_code
def yX5_hangs : MethodName := ⟨RX5, "hangs", "(I)Z"⟩
abbrev cX5_isCancelled : ByteArray := prog_7_method_14_code
def yX5_isCancelled : MethodName := ⟨RX5, "isCancelled", "(I)Z"⟩
def RX6 : String := "QuireDesk$Strip"
def TX6 : u_T := fun k => match k with
  | 0 => ("QuireDesk$Strip", "bytes", "[I", true)
  | 1 => ("QuireDesk$Strip", "length", "I", false)
  | _ => ("QuireDesk$Strip", "items", "I", false)
def tyX6 : Nat → FieldType := fun k => match k with
  | 0 => .array .int
  | 1 => .int
  | _ => .int
abbrev wsX60 : List Cond := u_ws RX6 TX6 3
theorem nmX6 : ∀ a, a < 3 → ∀ b, b < 3 → a ≠ b → (TX6 a).2.1 ≠ (TX6 b).2.1 := by decide +kernel
theorem tyX6_ok : ∀ k, k < 3 → parseFieldDescriptor (TX6 k).2.2.1 = some (tyX6 k) := by decide +kernel
abbrev cX6_init : ByteArray := prog_8_method_1_code
def yX6_init : MethodName := ⟨RX6, "<init>", "()V"⟩
abbrev cX6_signAt : ByteArray := prog_8_method_2_code
def yX6_signAt : MethodName := ⟨RX6, "signAt", "(I)I"⟩
abbrev cX6_add : ByteArray := prog_8_method_3_code
def yX6_add : MethodName := ⟨RX6, "add", "(I)V"⟩
abbrev cX6_addInt : ByteArray := prog_8_method_4_code
def yX6_addInt : MethodName := ⟨RX6, "addInt", "(I)V"⟩
abbrev cX6_become : ByteArray := prog_8_method_5_code
def yX6_become : MethodName := ⟨RX6, "become", "(LQuireDesk$Strip;)V"⟩
abbrev cX6_writeFormula : ByteArray := prog_8_method_6_code
def yX6_writeFormula : MethodName := ⟨RX6, "writeFormula", "(LQuireDesk$Folding;)V"⟩
abbrev cX6_plainRun : ByteArray := prog_8_method_7_code
def yX6_plainRun : MethodName := ⟨RX6, "plainRun", "(LQuireDesk$Folding;I)I"⟩
abbrev cX6_isPlain : ByteArray := prog_8_method_8_code
def yX6_isPlain : MethodName := ⟨RX6, "isPlain", "(LQuireDesk$Folding;I)Z"⟩
abbrev cX6_addLetters : ByteArray := prog_8_method_9_code
def yX6_addLetters : MethodName := ⟨RX6, "addLetters", "(I)V"⟩
abbrev cX6_addItems : ByteArray := prog_8_method_10_code
def yX6_addItems : MethodName := ⟨RX6, "addItems", "(LQuireDesk$Folding;I)V"⟩
abbrev cX6_addLoose : ByteArray := prog_8_method_11_code
def yX6_addLoose : MethodName := ⟨RX6, "addLoose", "(LQuireDesk$Folding;II)V"⟩
abbrev cX6_addItem : ByteArray := prog_8_method_12_code
def yX6_addItem : MethodName := ⟨RX6, "addItem", "(CI)V"⟩
def RX7 : String := "QuireDesk"
def TX7 : u_T := fun k => match k with
  | 0 => ("QuireDesk", "rows", "[LQuireDesk$Row;", true)
  | 1 => ("QuireDesk", "reckoner", "LQuireDesk$Reckoner;", true)
  | 2 => ("QuireDesk", "current", "LQuireDesk$Folding;", true)
  | 3 => ("QuireDesk", "draft", "LQuireDesk$Folding;", true)
  | 4 => ("QuireDesk", "kept", "[LQuireDesk$Folding;", true)
  | 5 => ("QuireDesk", "tape", "LQuireDesk$Strip;", true)
  | 6 => ("QuireDesk", "formula", "LQuireDesk$Strip;", true)
  | _ => ("QuireDesk", "reader", "LQuireDesk$Reader;", true)
def tyX7 : Nat → FieldType := fun k => match k with
  | 0 => .array (.object "QuireDesk$Row")
  | 1 => .object "QuireDesk$Reckoner"
  | 2 => .object "QuireDesk$Folding"
  | 3 => .object "QuireDesk$Folding"
  | 4 => .array (.object "QuireDesk$Folding")
  | 5 => .object "QuireDesk$Strip"
  | 6 => .object "QuireDesk$Strip"
  | _ => .object "QuireDesk$Reader"
abbrev wsX70 : List Cond := u_ws RX7 TX7 8
theorem nmX7 : ∀ a, a < 8 → ∀ b, b < 8 → a ≠ b → (TX7 a).2.1 ≠ (TX7 b).2.1 := by decide +kernel
theorem tyX7_ok : ∀ k, k < 8 → parseFieldDescriptor (TX7 k).2.2.1 = some (tyX7 k) := by decide +kernel
abbrev cX7_init : ByteArray := prog_1_method_1_code
def yX7_init : MethodName := ⟨RX7, "<init>", "()V"⟩
abbrev cX7_put : ByteArray := prog_1_method_2_code
def yX7_put : MethodName := ⟨RX7, "put", "(III)I"⟩
abbrev cX7_gone : ByteArray := prog_1_method_3_code
def yX7_gone : MethodName := ⟨RX7, "gone", "(II)I"⟩
abbrev cX7_mark : ByteArray := prog_1_method_4_code
def yX7_mark : MethodName := ⟨RX7, "mark", "(IIII)Z"⟩
abbrev cX7_tear : ByteArray := prog_1_method_5_code
def yX7_tear : MethodName := ⟨RX7, "tear", "(III)I"⟩
abbrev cX7_look : ByteArray := prog_1_method_6_code
def yX7_look : MethodName := ⟨RX7, "look", "(III)I"⟩
abbrev cX7_about : ByteArray := prog_1_method_7_code
def yX7_about : MethodName := ⟨RX7, "about", "(II)I"⟩
abbrev cX7_rule : ByteArray := prog_1_method_8_code
def yX7_rule : MethodName := ⟨RX7, "rule", "(III)Z"⟩
abbrev cX7_ways : ByteArray := prog_1_method_9_code
def yX7_ways : MethodName := ⟨RX7, "ways", "(I)J"⟩
abbrev cX7_pick : ByteArray := prog_1_method_10_code
def yX7_pick : MethodName := ⟨RX7, "pick", "(IJ)Z"⟩
abbrev cX7_fewest : ByteArray := prog_1_method_11_code
def yX7_fewest : MethodName := ⟨RX7, "fewest", "(I)I"⟩
abbrev cX7_why : ByteArray := prog_1_method_12_code
def yX7_why : MethodName := ⟨RX7, "why", "(I)I"⟩
abbrev cX7_folding : ByteArray := prog_1_method_13_code
def yX7_folding : MethodName := ⟨RX7, "folding", "(I)I"⟩
abbrev cX7_size : ByteArray := prog_1_method_14_code
def yX7_size : MethodName := ⟨RX7, "size", "(I)I"⟩
abbrev cX7_place : ByteArray := prog_1_method_15_code
def yX7_place : MethodName := ⟨RX7, "place", "(II)I"⟩
abbrev cX7_thing : ByteArray := prog_1_method_16_code
def yX7_thing : MethodName := ⟨RX7, "thing", "(II)I"⟩
abbrev cX7_where : ByteArray := prog_1_method_17_code
def yX7_where : MethodName := ⟨RX7, "where", "(III)I"⟩
abbrev cX7_write : ByteArray := prog_1_method_18_code
def yX7_write : MethodName := ⟨RX7, "write", "()I"⟩
abbrev cX7_out : ByteArray := prog_1_method_19_code
def yX7_out : MethodName := ⟨RX7, "out", "(I)I"⟩
abbrev cX7_feed : ByteArray := prog_1_method_20_code
def yX7_feed : MethodName := ⟨RX7, "feed", "(IIIII)I"⟩
abbrev cX7_end : ByteArray := prog_1_method_21_code
def yX7_end : MethodName := ⟨RX7, "end", "(I)I"⟩
abbrev cX7_take : ByteArray := prog_1_method_22_code
def yX7_take : MethodName := ⟨RX7, "take", "()I"⟩
abbrev cX7_read : ByteArray := prog_1_method_23_code
def yX7_read : MethodName := ⟨RX7, "read", "()I"⟩
abbrev cX7_fault : ByteArray := prog_1_method_24_code
def yX7_fault : MethodName := ⟨RX7, "fault", "(I)I"⟩
abbrev cX7_copy : ByteArray := prog_1_method_25_code
def yX7_copy : MethodName := ⟨RX7, "copy", "(I)Z"⟩
abbrev cX7_against : ByteArray := prog_1_method_26_code
def yX7_against : MethodName := ⟨RX7, "against", "(II)I"⟩
abbrev cX7_differs : ByteArray := prog_1_method_27_code
def yX7_differs : MethodName := ⟨RX7, "differs", "(IIII)I"⟩
abbrev cX7_ideal : ByteArray := prog_1_method_28_code
def yX7_ideal : MethodName := ⟨RX7, "ideal", "(II)I"⟩
abbrev cX7_rowOf : ByteArray := prog_1_method_29_code
def yX7_rowOf : MethodName := ⟨RX7, "rowOf", "(I)LQuireDesk$Row;"⟩
abbrev cX7_keptAs : ByteArray := prog_1_method_30_code
def yX7_keptAs : MethodName := ⟨RX7, "keptAs", "(I)LQuireDesk$Folding;"⟩
abbrev cX7_nthUnlike : ByteArray := prog_1_method_31_code
def yX7_nthUnlike : MethodName := ⟨RX7, "nthUnlike", "(LQuireDesk$Folding;LQuireDesk$Folding;I)I"⟩
abbrev cX7_together : ByteArray := prog_1_method_32_code
def yX7_together : MethodName := ⟨RX7, "together", "(II)I"⟩
abbrev cX7_isHanging : ByteArray := prog_1_method_33_code
def yX7_isHanging : MethodName := ⟨RX7, "isHanging", "(I)Z"⟩
abbrev cX7_isGhost : ByteArray := prog_1_method_34_code
def yX7_isGhost : MethodName := ⟨RX7, "isGhost", "(III)Z"⟩
def RX8 : String := "QuireDeskModel"
def TX8 : u_T := fun k => match k with
  | 0 => ("QuireDeskModel", "told", "I", false)
  | 1 => ("QuireDeskModel", "many", "[I", true)
  | 2 => ("QuireDeskModel", "kinds", "[I", true)
  | 3 => ("QuireDeskModel", "torn", "[I", true)
  | 4 => ("QuireDeskModel", "marks", "[I", true)
  | 5 => ("QuireDeskModel", "sizes", "[I", true)
  | 6 => ("QuireDeskModel", "signed", "[I", true)
  | 7 => ("QuireDeskModel", "letters", "[I", true)
  | 8 => ("QuireDeskModel", "pages", "[I", true)
  | 9 => ("QuireDeskModel", "asked", "I", false)
  | 10 => ("QuireDeskModel", "hung", "I", false)
  | 11 => ("QuireDeskModel", "hangs", "[I", true)
  | 12 => ("QuireDeskModel", "cancels", "[I", true)
  | 13 => ("QuireDeskModel", "in", "[I", true)
  | 14 => ("QuireDeskModel", "isMet", "[Z", true)
  | 15 => ("QuireDeskModel", "ways", "[J", true)
  | 16 => ("QuireDeskModel", "fewest", "[I", true)
  | 17 => ("QuireDeskModel", "isThere", "[Z", true)
  | 18 => ("QuireDeskModel", "things", "[I", true)
  | 19 => ("QuireDeskModel", "quires", "[I", true)
  | 20 => ("QuireDeskModel", "firstLetter", "[I", true)
  | 21 => ("QuireDeskModel", "firstPage", "[I", true)
  | 22 => ("QuireDeskModel", "sizeOf", "[I", true)
  | 23 => ("QuireDeskModel", "placed", "[I", true)
  | 24 => ("QuireDeskModel", "kindOf", "[I", true)
  | 25 => ("QuireDeskModel", "catchOf", "[I", true)
  | 26 => ("QuireDeskModel", "out", "[I", true)
  | 27 => ("QuireDeskModel", "outs", "I", false)
  | 28 => ("QuireDeskModel", "items", "I", false)
  | 29 => ("QuireDeskModel", "tape", "[I", true)
  | 30 => ("QuireDeskModel", "taped", "I", false)
  | 31 => ("QuireDeskModel", "faultKind", "I", false)
  | 32 => ("QuireDeskModel", "faultPlace", "I", false)
  | 33 => ("QuireDeskModel", "reads", "I", false)
  | 34 => ("QuireDeskModel", "newThings", "I", false)
  | 35 => ("QuireDeskModel", "newQuires", "I", false)
  | 36 => ("QuireDeskModel", "newLetter", "I", false)
  | 37 => ("QuireDeskModel", "newSize", "[I", true)
  | 38 => ("QuireDeskModel", "newPlaced", "[I", true)
  | 39 => ("QuireDeskModel", "newKind", "[I", true)
  | 40 => ("QuireDeskModel", "codes", "[I", true)
  | 41 => ("QuireDeskModel", "extraPlace", "[I", true)
  | 42 => ("QuireDeskModel", "extraKind", "[I", true)
  | 43 => ("QuireDeskModel", "extras", "I", false)
  | 44 => ("QuireDeskModel", "foundQuire", "I", false)
  | 45 => ("QuireDeskModel", "foundPlace", "I", false)
  | 46 => ("QuireDeskModel", "made", "I", false)
  | 47 => ("QuireDeskModel", "madeKind", "[I", true)
  | _ => ("QuireDeskModel", "madePlaced", "[I", true)
def tyX8 : Nat → FieldType := fun k => match k with
  | 0 => .int
  | 1 => .array .int
  | 2 => .array .int
  | 3 => .array .int
  | 4 => .array .int
  | 5 => .array .int
  | 6 => .array .int
  | 7 => .array .int
  | 8 => .array .int
  | 9 => .int
  | 10 => .int
  | 11 => .array .int
  | 12 => .array .int
  | 13 => .array .int
  | 14 => .array .boolean
  | 15 => .array .long
  | 16 => .array .int
  | 17 => .array .boolean
  | 18 => .array .int
  | 19 => .array .int
  | 20 => .array .int
  | 21 => .array .int
  | 22 => .array .int
  | 23 => .array .int
  | 24 => .array .int
  | 25 => .array .int
  | 26 => .array .int
  | 27 => .int
  | 28 => .int
  | 29 => .array .int
  | 30 => .int
  | 31 => .int
  | 32 => .int
  | 33 => .int
  | 34 => .int
  | 35 => .int
  | 36 => .int
  | 37 => .array .int
  | 38 => .array .int
  | 39 => .array .int
  | 40 => .array .int
  | 41 => .array .int
  | 42 => .array .int
  | 43 => .int
  | 44 => .int
  | 45 => .int
  | 46 => .int
  | 47 => .array .int
  | _ => .array .int
abbrev wsX80 : List Cond := u_ws RX8 TX8 49
theorem nmX8 : ∀ a, a < 49 → ∀ b, b < 49 → a ≠ b → (TX8 a).2.1 ≠ (TX8 b).2.1 := by decide +kernel
theorem tyX8_ok : ∀ k, k < 49 → parseFieldDescriptor (TX8 k).2.2.1 = some (tyX8 k) := by decide +kernel
abbrev cX8_init : ByteArray := prog_10_method_1_code
def yX8_init : MethodName := ⟨RX8, "<init>", "()V"⟩
abbrev cX8_isRow : ByteArray := prog_10_method_3_code
def yX8_isRow : MethodName := ⟨RX8, "isRow", "(I)Z"⟩
abbrev cX8_isThing : ByteArray := prog_10_method_4_code
def yX8_isThing : MethodName := ⟨RX8, "isThing", "(II)Z"⟩
abbrev cX8_move : ByteArray := prog_10_method_5_code
def yX8_move : MethodName := ⟨RX8, "move", "(II)V"⟩
abbrev cX8_put : ByteArray := prog_10_method_6_code
def yX8_put : MethodName := ⟨RX8, "put", "(III)I"⟩
abbrev cX8_gone : ByteArray := prog_10_method_7_code
def yX8_gone : MethodName := ⟨RX8, "gone", "(II)I"⟩
abbrev cX8_most : ByteArray := prog_10_method_8_code
def yX8_most : MethodName := ⟨RX8, "most", "(I)I"⟩
abbrev cX8_mark : ByteArray := prog_10_method_9_code
def yX8_mark : MethodName := ⟨RX8, "mark", "(IIII)Z"⟩
abbrev cX8_tear : ByteArray := prog_10_method_10_code
def yX8_tear : MethodName := ⟨RX8, "tear", "(III)I"⟩
abbrev cX8_look : ByteArray := prog_10_method_11_code
def yX8_look : MethodName := ⟨RX8, "look", "(III)I"⟩
abbrev cX8_isHanging : ByteArray := prog_10_method_12_code
def yX8_isHanging : MethodName := ⟨RX8, "isHanging", "(I)Z"⟩
abbrev cX8_about : ByteArray := prog_10_method_13_code
def yX8_about : MethodName := ⟨RX8, "about", "(II)I"⟩
abbrev cX8_rule : ByteArray := prog_10_method_14_code
def yX8_rule : MethodName := ⟨RX8, "rule", "(III)Z"⟩
abbrev cX8_asks : ByteArray := prog_10_method_15_code
def yX8_asks : MethodName := ⟨RX8, "asks", "(I)V"⟩
abbrev cX8_known : ByteArray := prog_10_method_16_code
def yX8_known : MethodName := ⟨RX8, "known", "(II)I"⟩
abbrev cX8_fits : ByteArray := prog_10_method_17_code
def yX8_fits : MethodName := ⟨RX8, "fits", "(IIIIZ)Z"⟩
abbrev cX8_goesOn : ByteArray := prog_10_method_18_code
def yX8_goesOn : MethodName := ⟨RX8, "goesOn", "(IZ)Z"⟩
abbrev cX8_hangTogether : ByteArray := prog_10_method_19_code
def yX8_hangTogether : MethodName := ⟨RX8, "hangTogether", "(II)Z"⟩
abbrev cX8_agrees : ByteArray := prog_10_method_20_code
def yX8_agrees : MethodName := ⟨RX8, "agrees", "(IIIZIIIIZ)Z"⟩
abbrev cX8_ones : ByteArray := prog_10_method_21_code
def yX8_ones : MethodName := ⟨RX8, "ones", "(I)I"⟩
abbrev cX8_state : ByteArray := prog_10_method_22_code
def yX8_state : MethodName := ⟨RX8, "state", "(IIII)I"⟩
abbrev cX8_has : ByteArray := prog_10_method_23_code
def yX8_has : MethodName := ⟨RX8, "has", "(I)Z"⟩
abbrev cX8_isQuire : ByteArray := prog_10_method_24_code
def yX8_isQuire : MethodName := ⟨RX8, "isQuire", "(IIIIII)Z"⟩
abbrev cX8_goThrough : ByteArray := prog_10_method_25_code
def yX8_goThrough : MethodName := ⟨RX8, "goThrough", "(I)V"⟩
abbrev cX8_behind : ByteArray := prog_10_method_26_code
def yX8_behind : MethodName := ⟨RX8, "behind", "(IIIII)I"⟩
abbrev cX8_spreads : ByteArray := prog_10_method_27_code
def yX8_spreads : MethodName := ⟨RX8, "spreads", "(IIII)V"⟩
abbrev cX8_counts : ByteArray := prog_10_method_28_code
def yX8_counts : MethodName := ⟨RX8, "counts", "(IIII)V"⟩
abbrev cX8_ways : ByteArray := prog_10_method_29_code
def yX8_ways : MethodName := ⟨RX8, "ways", "(I)J"⟩
abbrev cX8_at : ByteArray := prog_10_method_30_code
def yX8_at : MethodName := ⟨RX8, "at", "(III)I"⟩
abbrev cX8_take : ByteArray := prog_10_method_31_code
def yX8_take : MethodName := ⟨RX8, "take", "(I)V"⟩
abbrev cX8_lays : ByteArray := prog_10_method_32_code
def yX8_lays : MethodName := ⟨RX8, "lays", "(IJZ)V"⟩
abbrev cX8_pick : ByteArray := prog_10_method_33_code
def yX8_pick : MethodName := ⟨RX8, "pick", "(IJ)Z"⟩
abbrev cX8_fewest : ByteArray := prog_10_method_34_code
def yX8_fewest : MethodName := ⟨RX8, "fewest", "(I)I"⟩
abbrev cX8_begins : ByteArray := prog_10_method_35_code
def yX8_begins : MethodName := ⟨RX8, "begins", "(IZ)Z"⟩
abbrev cX8_beginsFrom : ByteArray := prog_10_method_36_code
def yX8_beginsFrom : MethodName := ⟨RX8, "beginsFrom", "(IIIIIZ)Z"⟩
abbrev cX8_why : ByteArray := prog_10_method_37_code
def yX8_why : MethodName := ⟨RX8, "why", "(I)I"⟩
abbrev cX8_ghosts : ByteArray := prog_10_method_38_code
def yX8_ghosts : MethodName := ⟨RX8, "ghosts", "(I)I"⟩
abbrev cX8_placesAhead : ByteArray := prog_10_method_39_code
def yX8_placesAhead : MethodName := ⟨RX8, "placesAhead", "(III)I"⟩
abbrev cX8_folding : ByteArray := prog_10_method_40_code
def yX8_folding : MethodName := ⟨RX8, "folding", "(I)I"⟩
abbrev cX8_isQuire_ : ByteArray := prog_10_method_41_code
def yX8_isQuire_ : MethodName := ⟨RX8, "isQuire", "(II)Z"⟩
abbrev cX8_isPlace : ByteArray := prog_10_method_42_code
def yX8_isPlace : MethodName := ⟨RX8, "isPlace", "(III)Z"⟩
abbrev cX8_size : ByteArray := prog_10_method_43_code
def yX8_size : MethodName := ⟨RX8, "size", "(I)I"⟩
abbrev cX8_place : ByteArray := prog_10_method_44_code
def yX8_place : MethodName := ⟨RX8, "place", "(II)I"⟩
abbrev cX8_thing : ByteArray := prog_10_method_45_code
def yX8_thing : MethodName := ⟨RX8, "thing", "(II)I"⟩
abbrev cX8_where : ByteArray := prog_10_method_46_code
def yX8_where : MethodName := ⟨RX8, "where", "(III)I"⟩
abbrev cX8_say : ByteArray := prog_10_method_47_code
def yX8_say : MethodName := ⟨RX8, "say", "(I)V"⟩
abbrev cX8_sign : ByteArray := prog_10_method_48_code
def yX8_sign : MethodName := ⟨RX8, "sign", "(I)I"⟩
abbrev cX8_sayLetters : ByteArray := prog_10_method_49_code
def yX8_sayLetters : MethodName := ⟨RX8, "sayLetters", "(I)V"⟩
abbrev cX8_isCancelled : ByteArray := prog_10_method_50_code
def yX8_isCancelled : MethodName := ⟨RX8, "isCancelled", "(II)Z"⟩
abbrev cX8_item : ByteArray := prog_10_method_51_code
def yX8_item : MethodName := ⟨RX8, "item", "(II)V"⟩
abbrev cX8_extras : ByteArray := prog_10_method_52_code
def yX8_extras : MethodName := ⟨RX8, "extras", "(II)V"⟩
abbrev cX8_items : ByteArray := prog_10_method_53_code
def yX8_items : MethodName := ⟨RX8, "items", "(I)V"⟩
abbrev cX8_isPlain : ByteArray := prog_10_method_54_code
def yX8_isPlain : MethodName := ⟨RX8, "isPlain", "(I)Z"⟩
abbrev cX8_write : ByteArray := prog_10_method_55_code
def yX8_write : MethodName := ⟨RX8, "write", "()I"⟩
abbrev cX8_out : ByteArray := prog_10_method_56_code
def yX8_out : MethodName := ⟨RX8, "out", "(I)I"⟩
abbrev cX8_puts : ByteArray := prog_10_method_57_code
def yX8_puts : MethodName := ⟨RX8, "puts", "(I)V"⟩
abbrev cX8_feed : ByteArray := prog_10_method_58_code
def yX8_feed : MethodName := ⟨RX8, "feed", "(IIIII)I"⟩
abbrev cX8_end : ByteArray := prog_10_method_59_code
def yX8_end : MethodName := ⟨RX8, "end", "(I)I"⟩
abbrev cX8_take_ : ByteArray := prog_10_method_60_code
def yX8_take_ : MethodName := ⟨RX8, "take", "()I"⟩
abbrev cX8_raw : ByteArray := prog_10_method_61_code
def yX8_raw : MethodName := ⟨RX8, "raw", "()I"⟩
abbrev cX8_isBlank : ByteArray := prog_10_method_62_code
def yX8_isBlank : MethodName := ⟨RX8, "isBlank", "(I)Z"⟩
abbrev cX8_numberOf : ByteArray := prog_10_method_63_code
def yX8_numberOf : MethodName := ⟨RX8, "numberOf", "(I)I"⟩
abbrev cX8_readLetters : ByteArray := prog_10_method_64_code
def yX8_readLetters : MethodName := ⟨RX8, "readLetters", "()I"⟩
abbrev cX8_fails : ByteArray := prog_10_method_65_code
def yX8_fails : MethodName := ⟨RX8, "fails", "(II)I"⟩
abbrev cX8_adds : ByteArray := prog_10_method_66_code
def yX8_adds : MethodName := ⟨RX8, "adds", "(I)V"⟩
abbrev cX8_read : ByteArray := prog_10_method_67_code
def yX8_read : MethodName := ⟨RX8, "read", "()I"⟩
abbrev cX8_blanks : ByteArray := prog_10_method_68_code
def yX8_blanks : MethodName := ⟨RX8, "blanks", "()V"⟩
abbrev cX8_reading : ByteArray := prog_10_method_69_code
def yX8_reading : MethodName := ⟨RX8, "reading", "()I"⟩
abbrev cX8_laid : ByteArray := prog_10_method_70_code
def yX8_laid : MethodName := ⟨RX8, "laid", "(I)V"⟩
abbrev cX8_readItems : ByteArray := prog_10_method_71_code
def yX8_readItems : MethodName := ⟨RX8, "readItems", "(I)I"⟩
abbrev cX8_fault : ByteArray := prog_10_method_72_code
def yX8_fault : MethodName := ⟨RX8, "fault", "(I)I"⟩
abbrev cX8_isCopy : ByteArray := prog_10_method_73_code
def yX8_isCopy : MethodName := ⟨RX8, "isCopy", "(I)Z"⟩
abbrev cX8_keep : ByteArray := prog_10_method_74_code
def yX8_keep : MethodName := ⟨RX8, "keep", "(II)V"⟩
abbrev cX8_copy : ByteArray := prog_10_method_75_code
def yX8_copy : MethodName := ⟨RX8, "copy", "(I)Z"⟩
abbrev cX8_code : ByteArray := prog_10_method_76_code
def yX8_code : MethodName := ⟨RX8, "code", "(III)I"⟩
abbrev cX8_areKept : ByteArray := prog_10_method_77_code
def yX8_areKept : MethodName := ⟨RX8, "areKept", "(II)Z"⟩
abbrev cX8_differences : ByteArray := prog_10_method_78_code
def yX8_differences : MethodName := ⟨RX8, "differences", "(III)I"⟩
abbrev cX8_against : ByteArray := prog_10_method_79_code
def yX8_against : MethodName := ⟨RX8, "against", "(II)I"⟩
abbrev cX8_differs : ByteArray := prog_10_method_80_code
def yX8_differs : MethodName := ⟨RX8, "differs", "(IIII)I"⟩
abbrev cX8_makes : ByteArray := prog_10_method_81_code
def yX8_makes : MethodName := ⟨RX8, "makes", "(I)V"⟩
abbrev cX8_makesExtras : ByteArray := prog_10_method_82_code
def yX8_makesExtras : MethodName := ⟨RX8, "makesExtras", "(II)V"⟩
abbrev cX8_ideal : ByteArray := prog_10_method_83_code
def yX8_ideal : MethodName := ⟨RX8, "ideal", "(II)I"⟩
def RJ6 : String := "java/lang/Integer"
def TJ6 : u_T := fun k => match k with
  | _ => ("", "", "", false)
def tyJ6 : Nat → FieldType := fun k => match k with
  | _ => .int
abbrev wsJ60 : List Cond := u_ws RJ6 TJ6 0
theorem nmJ6 : ∀ a, a < 0 → ∀ b, b < 0 → a ≠ b → (TJ6 a).2.1 ≠ (TJ6 b).2.1 := by decide +kernel
theorem tyJ6_ok : ∀ k, k < 0 → parseFieldDescriptor (TJ6 k).2.2.1 = some (tyJ6 k) := by decide +kernel
abbrev cJ6_numberOfTrailingZeros_0f7a4 : ByteArray := prog_11_method_48_code
def yJ6_numberOfTrailingZeros_0f7a4 : MethodName := ⟨RJ6, "numberOfTrailingZeros", "(I)I"⟩
def RJ9 : String := "java/lang/Math"
def TJ9 : u_T := fun k => match k with
  | _ => ("", "", "", false)
def tyJ9 : Nat → FieldType := fun k => match k with
  | _ => .int
abbrev wsJ90 : List Cond := u_ws RJ9 TJ9 0
theorem nmJ9 : ∀ a, a < 0 → ∀ b, b < 0 → a ≠ b → (TJ9 a).2.1 ≠ (TJ9 b).2.1 := by decide +kernel
theorem tyJ9_ok : ∀ k, k < 0 → parseFieldDescriptor (TJ9 k).2.2.1 = some (tyJ9 k) := by decide +kernel
abbrev cJ9_abs_0f7a4 : ByteArray := prog_12_method_59_code
def yJ9_abs_0f7a4 : MethodName := ⟨RJ9, "abs", "(I)I"⟩
abbrev cJ9_max_7cf53 : ByteArray := prog_12_method_65_code
def yJ9_max_7cf53 : MethodName := ⟨RJ9, "max", "(II)I"⟩
abbrev cJ9_min_7cf53 : ByteArray := prog_12_method_69_code
def yJ9_min_7cf53 : MethodName := ⟨RJ9, "min", "(II)I"⟩
def RJ10 : String := "java/lang/System"
def TJ10 : u_T := fun k => match k with
  | _ => ("", "", "", false)
def tyJ10 : Nat → FieldType := fun k => match k with
  | _ => .int
abbrev wsJ100 : List Cond := u_ws RJ10 TJ10 0
theorem nmJ10 : ∀ a, a < 0 → ∀ b, b < 0 → a ≠ b → (TJ10 a).2.1 ≠ (TJ10 b).2.1 := by decide +kernel
theorem tyJ10_ok : ∀ k, k < 0 → parseFieldDescriptor (TJ10 k).2.2.1 = some (tyJ10 k) := by decide +kernel
def RL : String := "QuireDeskLaw"
abbrev cL_law : ByteArray := code
def yL_law : MethodName := ⟨RL, "law", "([I)Z"⟩
abbrev vwCl : List vw_C := [(RX0, TX0, 13), (RX1, TX1, 13), (RX2, TX2, 13), (RX3, TX3, 13), (RX4, TX4, 12), (RX5, TX5, 6), (RX6, TX6, 3), (RX7, TX7, 8), (RX8, TX8, 49)]
