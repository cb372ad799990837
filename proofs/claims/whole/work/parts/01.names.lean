-- ===== PART A: goes FIRST, ahead of the names: the tables' words, and 'selects' of the private methods out of them =====
/-- a private method of a class that the tables say can be made, by its rows of tables_1 -/
def lw_okq (q : MethodName × Nat) : Prop := (q.1.cls ≠ "java/lang/invoke/MethodHandle" ∧ q.1.cls ≠ "java/lang/invoke/VarHandle") ∧ Cond.instantiable q.1.cls q.2 ∈ tables_1 ∧ Cond.privateMethod q.1 ∈ tables_1 ∧ Cond.instanceMethod q.1 ∈ tables_1
theorem lw_p0 : lw_okq (⟨"BellSeconds$Text", "faultInPart", "(III)I"⟩, 2) := ⟨⟨by decide +kernel, by decide +kernel⟩, List.mem_of_getElem? (i := 22) (by decide +kernel), List.mem_of_getElem? (i := 347) (by decide +kernel), List.mem_of_getElem? (i := 348) (by decide +kernel)⟩
theorem lw_p1 : lw_okq (⟨"BellSeconds$Tower", "clear", "()V"⟩, 14) := ⟨⟨by decide +kernel, by decide +kernel⟩, List.mem_of_getElem? (i := 38) (by decide +kernel), List.mem_of_getElem? (i := 369) (by decide +kernel), List.mem_of_getElem? (i := 370) (by decide +kernel)⟩
theorem lw_p2 : lw_okq (⟨"BellSeconds$Tower", "layPlace", "(IIJI)V"⟩, 14) := ⟨⟨by decide +kernel, by decide +kernel⟩, List.mem_of_getElem? (i := 38) (by decide +kernel), List.mem_of_getElem? (i := 373) (by decide +kernel), List.mem_of_getElem? (i := 374) (by decide +kernel)⟩
theorem lw_p3 : lw_okq (⟨"BellSeconds$Tower", "addBell", "(II)V"⟩, 14) := ⟨⟨by decide +kernel, by decide +kernel⟩, List.mem_of_getElem? (i := 38) (by decide +kernel), List.mem_of_getElem? (i := 379) (by decide +kernel), List.mem_of_getElem? (i := 380) (by decide +kernel)⟩
theorem lw_p4 : lw_okq (⟨"BellSeconds$Tower", "addBidder", "(ILBellSeconds$Text;I)V"⟩, 14) := ⟨⟨by decide +kernel, by decide +kernel⟩, List.mem_of_getElem? (i := 38) (by decide +kernel), List.mem_of_getElem? (i := 383) (by decide +kernel), List.mem_of_getElem? (i := 384) (by decide +kernel)⟩
theorem lw_p5 : lw_okq (⟨"BellSeconds$Tower", "layPeal", "(I)V"⟩, 14) := ⟨⟨by decide +kernel, by decide +kernel⟩, List.mem_of_getElem? (i := 38) (by decide +kernel), List.mem_of_getElem? (i := 387) (by decide +kernel), List.mem_of_getElem? (i := 388) (by decide +kernel)⟩
theorem lw_p6 : lw_okq (⟨"BellSeconds", "act", "(II)V"⟩, 13) := ⟨⟨by decide +kernel, by decide +kernel⟩, List.mem_of_getElem? (i := 14) (by decide +kernel), List.mem_of_getElem? (i := 495) (by decide +kernel), List.mem_of_getElem? (i := 496) (by decide +kernel)⟩
theorem lw_p7 : lw_okq (⟨"BellSeconds$Acts", "forgetFirst", "()V"⟩, 3) := ⟨⟨by decide +kernel, by decide +kernel⟩, List.mem_of_getElem? (i := 136) (by decide +kernel), List.mem_of_getElem? (i := 504) (by decide +kernel), List.mem_of_getElem? (i := 505) (by decide +kernel)⟩
theorem lw_p8 : lw_okq (⟨"BellSeconds$Letting", "weigh", "(IZ)V"⟩, 6) := ⟨⟨by decide +kernel, by decide +kernel⟩, List.mem_of_getElem? (i := 153) (by decide +kernel), List.mem_of_getElem? (i := 554) (by decide +kernel), List.mem_of_getElem? (i := 555) (by decide +kernel)⟩
theorem lw_p9 : lw_okq (⟨"BellSeconds$Letting", "search", "(JII)I"⟩, 6) := ⟨⟨by decide +kernel, by decide +kernel⟩, List.mem_of_getElem? (i := 153) (by decide +kernel), List.mem_of_getElem? (i := 559) (by decide +kernel), List.mem_of_getElem? (i := 560) (by decide +kernel)⟩
theorem lw_p10 : lw_okq (⟨"BellSeconds$Letting", "walk", "(IIJII)V"⟩, 6) := ⟨⟨by decide +kernel, by decide +kernel⟩, List.mem_of_getElem? (i := 153) (by decide +kernel), List.mem_of_getElem? (i := 563) (by decide +kernel), List.mem_of_getElem? (i := 564) (by decide +kernel)⟩
theorem lw_p11 : lw_okq (⟨"BellSeconds$Ringers", "addStrokes", "(II)V"⟩, 7) := ⟨⟨by decide +kernel, by decide +kernel⟩, List.mem_of_getElem? (i := 242) (by decide +kernel), List.mem_of_getElem? (i := 623) (by decide +kernel), List.mem_of_getElem? (i := 624) (by decide +kernel)⟩
theorem lw_p12 : lw_okq (⟨"BellSeconds$Ringers", "goesOn", "(II)Z"⟩, 7) := ⟨⟨by decide +kernel, by decide +kernel⟩, List.mem_of_getElem? (i := 242) (by decide +kernel), List.mem_of_getElem? (i := 628) (by decide +kernel), List.mem_of_getElem? (i := 629) (by decide +kernel)⟩
theorem lw_p13 : lw_okq (⟨"BellSeconds$Ringers", "isInTime", "(II)Z"⟩, 7) := ⟨⟨by decide +kernel, by decide +kernel⟩, List.mem_of_getElem? (i := 242) (by decide +kernel), List.mem_of_getElem? (i := 632) (by decide +kernel), List.mem_of_getElem? (i := 633) (by decide +kernel)⟩
theorem lw_p14 : lw_okq (⟨"BellSeconds", "firstThatCanNotBe", "(I)I"⟩, 13) := ⟨⟨by decide +kernel, by decide +kernel⟩, List.mem_of_getElem? (i := 14) (by decide +kernel), List.mem_of_getElem? (i := 644) (by decide +kernel), List.mem_of_getElem? (i := 645) (by decide +kernel)⟩
theorem lw_p15 : lw_okq (⟨"BellSeconds$Fitting", "areQuiets", "(I)Z"⟩, 11) := ⟨⟨by decide +kernel, by decide +kernel⟩, List.mem_of_getElem? (i := 198) (by decide +kernel), List.mem_of_getElem? (i := 687) (by decide +kernel), List.mem_of_getElem? (i := 688) (by decide +kernel)⟩
def lw_privs_1 : List (MethodName × Nat) := [(⟨"BellSeconds$Text", "faultInPart", "(III)I"⟩, 2), (⟨"BellSeconds$Tower", "clear", "()V"⟩, 14), (⟨"BellSeconds$Tower", "layPlace", "(IIJI)V"⟩, 14), (⟨"BellSeconds$Tower", "addBell", "(II)V"⟩, 14), (⟨"BellSeconds$Tower", "addBidder", "(ILBellSeconds$Text;I)V"⟩, 14), (⟨"BellSeconds$Tower", "layPeal", "(I)V"⟩, 14), (⟨"BellSeconds", "act", "(II)V"⟩, 13), (⟨"BellSeconds$Acts", "forgetFirst", "()V"⟩, 3), (⟨"BellSeconds$Letting", "weigh", "(IZ)V"⟩, 6), (⟨"BellSeconds$Letting", "search", "(JII)I"⟩, 6), (⟨"BellSeconds$Letting", "walk", "(IIJII)V"⟩, 6), (⟨"BellSeconds$Ringers", "addStrokes", "(II)V"⟩, 7), (⟨"BellSeconds$Ringers", "goesOn", "(II)Z"⟩, 7), (⟨"BellSeconds$Ringers", "isInTime", "(II)Z"⟩, 7), (⟨"BellSeconds", "firstThatCanNotBe", "(I)I"⟩, 13), (⟨"BellSeconds$Fitting", "areQuiets", "(I)Z"⟩, 11)]
theorem lw_r1 : ∀ q ∈ lw_privs_1, lw_okq q := List.forall_mem_cons.mpr ⟨lw_p0, List.forall_mem_cons.mpr ⟨lw_p1, List.forall_mem_cons.mpr ⟨lw_p2, List.forall_mem_cons.mpr ⟨lw_p3, List.forall_mem_cons.mpr ⟨lw_p4, List.forall_mem_cons.mpr ⟨lw_p5, List.forall_mem_cons.mpr ⟨lw_p6, List.forall_mem_cons.mpr ⟨lw_p7, List.forall_mem_cons.mpr ⟨lw_p8, List.forall_mem_cons.mpr ⟨lw_p9, List.forall_mem_cons.mpr ⟨lw_p10, List.forall_mem_cons.mpr ⟨lw_p11, List.forall_mem_cons.mpr ⟨lw_p12, List.forall_mem_cons.mpr ⟨lw_p13, List.forall_mem_cons.mpr ⟨lw_p14, List.forall_mem_cons.mpr ⟨lw_p15, fun _ h => absurd h List.not_mem_nil⟩⟩⟩⟩⟩⟩⟩⟩⟩⟩⟩⟩⟩⟩⟩⟩
theorem lw_p16 : lw_okq (⟨"BellSeconds$Fitting", "tallyBeside", "(II)V"⟩, 11) := ⟨⟨by decide +kernel, by decide +kernel⟩, List.mem_of_getElem? (i := 198) (by decide +kernel), List.mem_of_getElem? (i := 696) (by decide +kernel), List.mem_of_getElem? (i := 697) (by decide +kernel)⟩
theorem lw_p17 : lw_okq (⟨"BellSeconds$Fitting", "tallyBell", "(II)V"⟩, 11) := ⟨⟨by decide +kernel, by decide +kernel⟩, List.mem_of_getElem? (i := 198) (by decide +kernel), List.mem_of_getElem? (i := 701) (by decide +kernel), List.mem_of_getElem? (i := 702) (by decide +kernel)⟩
theorem lw_p18 : lw_okq (⟨"BellSeconds$Fitting", "walk", "(IIJIII)V"⟩, 11) := ⟨⟨by decide +kernel, by decide +kernel⟩, List.mem_of_getElem? (i := 198) (by decide +kernel), List.mem_of_getElem? (i := 705) (by decide +kernel), List.mem_of_getElem? (i := 706) (by decide +kernel)⟩
theorem lw_p19 : lw_okq (⟨"BellSeconds$Fitting", "tallyDay", "(III)V"⟩, 11) := ⟨⟨by decide +kernel, by decide +kernel⟩, List.mem_of_getElem? (i := 198) (by decide +kernel), List.mem_of_getElem? (i := 709) (by decide +kernel), List.mem_of_getElem? (i := 710) (by decide +kernel)⟩
theorem lw_p20 : lw_okq (⟨"BellSeconds", "slotOf", "(I)LBellSeconds$Slot;"⟩, 13) := ⟨⟨by decide +kernel, by decide +kernel⟩, List.mem_of_getElem? (i := 14) (by decide +kernel), List.mem_of_getElem? (i := 770) (by decide +kernel), List.mem_of_getElem? (i := 771) (by decide +kernel)⟩
theorem lw_p21 : lw_okq (⟨"BellSecondsModel", "readText", "()I"⟩, 44) := ⟨⟨by decide +kernel, by decide +kernel⟩, List.mem_of_getElem? (i := 789) (by decide +kernel), List.mem_of_getElem? (i := 945) (by decide +kernel), List.mem_of_getElem? (i := 946) (by decide +kernel)⟩
theorem lw_p22 : lw_okq (⟨"BellSecondsModel", "readPart", "(I)V"⟩, 44) := ⟨⟨by decide +kernel, by decide +kernel⟩, List.mem_of_getElem? (i := 789) (by decide +kernel), List.mem_of_getElem? (i := 949) (by decide +kernel), List.mem_of_getElem? (i := 950) (by decide +kernel)⟩
theorem lw_p23 : lw_okq (⟨"BellSecondsModel", "figure", "(II)I"⟩, 44) := ⟨⟨by decide +kernel, by decide +kernel⟩, List.mem_of_getElem? (i := 789) (by decide +kernel), List.mem_of_getElem? (i := 953) (by decide +kernel), List.mem_of_getElem? (i := 954) (by decide +kernel)⟩
theorem lw_p24 : lw_okq (⟨"BellSecondsModel", "readSpan", "(I)V"⟩, 44) := ⟨⟨by decide +kernel, by decide +kernel⟩, List.mem_of_getElem? (i := 789) (by decide +kernel), List.mem_of_getElem? (i := 957) (by decide +kernel), List.mem_of_getElem? (i := 958) (by decide +kernel)⟩
theorem lw_p25 : lw_okq (⟨"BellSecondsModel", "isBell", "(I)Z"⟩, 44) := ⟨⟨by decide +kernel, by decide +kernel⟩, List.mem_of_getElem? (i := 789) (by decide +kernel), List.mem_of_getElem? (i := 969) (by decide +kernel), List.mem_of_getElem? (i := 970) (by decide +kernel)⟩
theorem lw_p26 : lw_okq (⟨"BellSecondsModel", "ringing", "(I)I"⟩, 44) := ⟨⟨by decide +kernel, by decide +kernel⟩, List.mem_of_getElem? (i := 789) (by decide +kernel), List.mem_of_getElem? (i := 973) (by decide +kernel), List.mem_of_getElem? (i := 974) (by decide +kernel)⟩
theorem lw_p27 : lw_okq (⟨"BellSecondsModel", "isQuiet", "(I)Z"⟩, 44) := ⟨⟨by decide +kernel, by decide +kernel⟩, List.mem_of_getElem? (i := 789) (by decide +kernel), List.mem_of_getElem? (i := 977) (by decide +kernel), List.mem_of_getElem? (i := 978) (by decide +kernel)⟩
theorem lw_p28 : lw_okq (⟨"BellSecondsModel", "seconds", "(IIZ)I"⟩, 44) := ⟨⟨by decide +kernel, by decide +kernel⟩, List.mem_of_getElem? (i := 789) (by decide +kernel), List.mem_of_getElem? (i := 981) (by decide +kernel), List.mem_of_getElem? (i := 982) (by decide +kernel)⟩
theorem lw_p29 : lw_okq (⟨"BellSecondsModel", "strokeAt", "(III)I"⟩, 44) := ⟨⟨by decide +kernel, by decide +kernel⟩, List.mem_of_getElem? (i := 789) (by decide +kernel), List.mem_of_getElem? (i := 988) (by decide +kernel), List.mem_of_getElem? (i := 989) (by decide +kernel)⟩
theorem lw_p30 : lw_okq (⟨"BellSecondsModel", "isBidder", "(I)Z"⟩, 44) := ⟨⟨by decide +kernel, by decide +kernel⟩, List.mem_of_getElem? (i := 789) (by decide +kernel), List.mem_of_getElem? (i := 996) (by decide +kernel), List.mem_of_getElem? (i := 997) (by decide +kernel)⟩
theorem lw_p31 : lw_okq (⟨"BellSecondsModel", "begins", "(I)I"⟩, 44) := ⟨⟨by decide +kernel, by decide +kernel⟩, List.mem_of_getElem? (i := 789) (by decide +kernel), List.mem_of_getElem? (i := 1001) (by decide +kernel), List.mem_of_getElem? (i := 1002) (by decide +kernel)⟩
def lw_privs_2 : List (MethodName × Nat) := [(⟨"BellSeconds$Fitting", "tallyBeside", "(II)V"⟩, 11), (⟨"BellSeconds$Fitting", "tallyBell", "(II)V"⟩, 11), (⟨"BellSeconds$Fitting", "walk", "(IIJIII)V"⟩, 11), (⟨"BellSeconds$Fitting", "tallyDay", "(III)V"⟩, 11), (⟨"BellSeconds", "slotOf", "(I)LBellSeconds$Slot;"⟩, 13), (⟨"BellSecondsModel", "readText", "()I"⟩, 44), (⟨"BellSecondsModel", "readPart", "(I)V"⟩, 44), (⟨"BellSecondsModel", "figure", "(II)I"⟩, 44), (⟨"BellSecondsModel", "readSpan", "(I)V"⟩, 44), (⟨"BellSecondsModel", "isBell", "(I)Z"⟩, 44), (⟨"BellSecondsModel", "ringing", "(I)I"⟩, 44), (⟨"BellSecondsModel", "isQuiet", "(I)Z"⟩, 44), (⟨"BellSecondsModel", "seconds", "(IIZ)I"⟩, 44), (⟨"BellSecondsModel", "strokeAt", "(III)I"⟩, 44), (⟨"BellSecondsModel", "isBidder", "(I)Z"⟩, 44), (⟨"BellSecondsModel", "begins", "(I)I"⟩, 44)]
theorem lw_r2 : ∀ q ∈ lw_privs_2, lw_okq q := List.forall_mem_cons.mpr ⟨lw_p16, List.forall_mem_cons.mpr ⟨lw_p17, List.forall_mem_cons.mpr ⟨lw_p18, List.forall_mem_cons.mpr ⟨lw_p19, List.forall_mem_cons.mpr ⟨lw_p20, List.forall_mem_cons.mpr ⟨lw_p21, List.forall_mem_cons.mpr ⟨lw_p22, List.forall_mem_cons.mpr ⟨lw_p23, List.forall_mem_cons.mpr ⟨lw_p24, List.forall_mem_cons.mpr ⟨lw_p25, List.forall_mem_cons.mpr ⟨lw_p26, List.forall_mem_cons.mpr ⟨lw_p27, List.forall_mem_cons.mpr ⟨lw_p28, List.forall_mem_cons.mpr ⟨lw_p29, List.forall_mem_cons.mpr ⟨lw_p30, List.forall_mem_cons.mpr ⟨lw_p31, fun _ h => absurd h List.not_mem_nil⟩⟩⟩⟩⟩⟩⟩⟩⟩⟩⟩⟩⟩⟩⟩⟩
theorem lw_p32 : lw_okq (⟨"BellSecondsModel", "mayBegin", "(II)Z"⟩, 44) := ⟨⟨by decide +kernel, by decide +kernel⟩, List.mem_of_getElem? (i := 789) (by decide +kernel), List.mem_of_getElem? (i := 1005) (by decide +kernel), List.mem_of_getElem? (i := 1006) (by decide +kernel)⟩
theorem lw_p33 : lw_okq (⟨"BellSecondsModel", "clashesOf", "(II)I"⟩, 44) := ⟨⟨by decide +kernel, by decide +kernel⟩, List.mem_of_getElem? (i := 789) (by decide +kernel), List.mem_of_getElem? (i := 1021) (by decide +kernel), List.mem_of_getElem? (i := 1022) (by decide +kernel)⟩
theorem lw_p34 : lw_okq (⟨"BellSecondsModel", "clash", "(IIII)Z"⟩, 44) := ⟨⟨by decide +kernel, by decide +kernel⟩, List.mem_of_getElem? (i := 789) (by decide +kernel), List.mem_of_getElem? (i := 1025) (by decide +kernel), List.mem_of_getElem? (i := 1026) (by decide +kernel)⟩
theorem lw_p35 : lw_okq (⟨"BellSecondsModel", "canBe", "(II)Z"⟩, 44) := ⟨⟨by decide +kernel, by decide +kernel⟩, List.mem_of_getElem? (i := 789) (by decide +kernel), List.mem_of_getElem? (i := 1033) (by decide +kernel), List.mem_of_getElem? (i := 1034) (by decide +kernel)⟩
theorem lw_p36 : lw_okq (⟨"BellSecondsModel", "keepAct", "()V"⟩, 44) := ⟨⟨by decide +kernel, by decide +kernel⟩, List.mem_of_getElem? (i := 789) (by decide +kernel), List.mem_of_getElem? (i := 1037) (by decide +kernel), List.mem_of_getElem? (i := 1038) (by decide +kernel)⟩
theorem lw_p37 : lw_okq (⟨"BellSecondsModel", "letNow", "()I"⟩, 44) := ⟨⟨by decide +kernel, by decide +kernel⟩, List.mem_of_getElem? (i := 789) (by decide +kernel), List.mem_of_getElem? (i := 1041) (by decide +kernel), List.mem_of_getElem? (i := 1042) (by decide +kernel)⟩
theorem lw_p38 : lw_okq (⟨"BellSecondsModel", "coinsOf", "(I)I"⟩, 44) := ⟨⟨by decide +kernel, by decide +kernel⟩, List.mem_of_getElem? (i := 789) (by decide +kernel), List.mem_of_getElem? (i := 1045) (by decide +kernel), List.mem_of_getElem? (i := 1046) (by decide +kernel)⟩
theorem lw_p39 : lw_okq (⟨"BellSecondsModel", "goThrough", "(Z)V"⟩, 44) := ⟨⟨by decide +kernel, by decide +kernel⟩, List.mem_of_getElem? (i := 789) (by decide +kernel), List.mem_of_getElem? (i := 1065) (by decide +kernel), List.mem_of_getElem? (i := 1066) (by decide +kernel)⟩
theorem lw_p40 : lw_okq (⟨"BellSecondsModel", "layTables", "()V"⟩, 44) := ⟨⟨by decide +kernel, by decide +kernel⟩, List.mem_of_getElem? (i := 789) (by decide +kernel), List.mem_of_getElem? (i := 1069) (by decide +kernel), List.mem_of_getElem? (i := 1070) (by decide +kernel)⟩
theorem lw_p41 : lw_okq (⟨"BellSecondsModel", "lookAt", "()V"⟩, 44) := ⟨⟨by decide +kernel, by decide +kernel⟩, List.mem_of_getElem? (i := 789) (by decide +kernel), List.mem_of_getElem? (i := 1073) (by decide +kernel), List.mem_of_getElem? (i := 1074) (by decide +kernel)⟩
theorem lw_p42 : lw_okq (⟨"BellSecondsModel", "dayLet", "()I"⟩, 44) := ⟨⟨by decide +kernel, by decide +kernel⟩, List.mem_of_getElem? (i := 789) (by decide +kernel), List.mem_of_getElem? (i := 1077) (by decide +kernel), List.mem_of_getElem? (i := 1078) (by decide +kernel)⟩
theorem lw_p43 : lw_okq (⟨"BellSecondsModel", "layBells", "()V"⟩, 44) := ⟨⟨by decide +kernel, by decide +kernel⟩, List.mem_of_getElem? (i := 789) (by decide +kernel), List.mem_of_getElem? (i := 1081) (by decide +kernel), List.mem_of_getElem? (i := 1082) (by decide +kernel)⟩
theorem lw_p44 : lw_okq (⟨"BellSecondsModel", "isHeard", "()Z"⟩, 44) := ⟨⟨by decide +kernel, by decide +kernel⟩, List.mem_of_getElem? (i := 789) (by decide +kernel), List.mem_of_getElem? (i := 1085) (by decide +kernel), List.mem_of_getElem? (i := 1086) (by decide +kernel)⟩
theorem lw_p45 : lw_okq (⟨"BellSecondsModel", "mayHave", "(IZ)Z"⟩, 44) := ⟨⟨by decide +kernel, by decide +kernel⟩, List.mem_of_getElem? (i := 789) (by decide +kernel), List.mem_of_getElem? (i := 1089) (by decide +kernel), List.mem_of_getElem? (i := 1090) (by decide +kernel)⟩
theorem lw_p46 : lw_okq (⟨"BellSecondsModel", "clashAt", "(IIII)Z"⟩, 44) := ⟨⟨by decide +kernel, by decide +kernel⟩, List.mem_of_getElem? (i := 789) (by decide +kernel), List.mem_of_getElem? (i := 1093) (by decide +kernel), List.mem_of_getElem? (i := 1094) (by decide +kernel)⟩
theorem lw_p47 : lw_okq (⟨"BellSecondsModel", "bestOfSet", "(I)I"⟩, 44) := ⟨⟨by decide +kernel, by decide +kernel⟩, List.mem_of_getElem? (i := 789) (by decide +kernel), List.mem_of_getElem? (i := 1097) (by decide +kernel), List.mem_of_getElem? (i := 1098) (by decide +kernel)⟩
def lw_privs_3 : List (MethodName × Nat) := [(⟨"BellSecondsModel", "mayBegin", "(II)Z"⟩, 44), (⟨"BellSecondsModel", "clashesOf", "(II)I"⟩, 44), (⟨"BellSecondsModel", "clash", "(IIII)Z"⟩, 44), (⟨"BellSecondsModel", "canBe", "(II)Z"⟩, 44), (⟨"BellSecondsModel", "keepAct", "()V"⟩, 44), (⟨"BellSecondsModel", "letNow", "()I"⟩, 44), (⟨"BellSecondsModel", "coinsOf", "(I)I"⟩, 44), (⟨"BellSecondsModel", "goThrough", "(Z)V"⟩, 44), (⟨"BellSecondsModel", "layTables", "()V"⟩, 44), (⟨"BellSecondsModel", "lookAt", "()V"⟩, 44), (⟨"BellSecondsModel", "dayLet", "()I"⟩, 44), (⟨"BellSecondsModel", "layBells", "()V"⟩, 44), (⟨"BellSecondsModel", "isHeard", "()Z"⟩, 44), (⟨"BellSecondsModel", "mayHave", "(IZ)Z"⟩, 44), (⟨"BellSecondsModel", "clashAt", "(IIII)Z"⟩, 44), (⟨"BellSecondsModel", "bestOfSet", "(I)I"⟩, 44)]
theorem lw_r3 : ∀ q ∈ lw_privs_3, lw_okq q := List.forall_mem_cons.mpr ⟨lw_p32, List.forall_mem_cons.mpr ⟨lw_p33, List.forall_mem_cons.mpr ⟨lw_p34, List.forall_mem_cons.mpr ⟨lw_p35, List.forall_mem_cons.mpr ⟨lw_p36, List.forall_mem_cons.mpr ⟨lw_p37, List.forall_mem_cons.mpr ⟨lw_p38, List.forall_mem_cons.mpr ⟨lw_p39, List.forall_mem_cons.mpr ⟨lw_p40, List.forall_mem_cons.mpr ⟨lw_p41, List.forall_mem_cons.mpr ⟨lw_p42, List.forall_mem_cons.mpr ⟨lw_p43, List.forall_mem_cons.mpr ⟨lw_p44, List.forall_mem_cons.mpr ⟨lw_p45, List.forall_mem_cons.mpr ⟨lw_p46, List.forall_mem_cons.mpr ⟨lw_p47, fun _ h => absurd h List.not_mem_nil⟩⟩⟩⟩⟩⟩⟩⟩⟩⟩⟩⟩⟩⟩⟩⟩
theorem lw_p48 : lw_okq (⟨"BellSecondsModel", "layStrokes", "()V"⟩, 44) := ⟨⟨by decide +kernel, by decide +kernel⟩, List.mem_of_getElem? (i := 789) (by decide +kernel), List.mem_of_getElem? (i := 1128) (by decide +kernel), List.mem_of_getElem? (i := 1129) (by decide +kernel)⟩
theorem lw_p49 : lw_okq (⟨"BellSecondsModel", "grow", "(I)Z"⟩, 44) := ⟨⟨by decide +kernel, by decide +kernel⟩, List.mem_of_getElem? (i := 789) (by decide +kernel), List.mem_of_getElem? (i := 1132) (by decide +kernel), List.mem_of_getElem? (i := 1133) (by decide +kernel)⟩
theorem lw_p50 : lw_okq (⟨"BellSecondsModel", "reaches", "(II)Z"⟩, 44) := ⟨⟨by decide +kernel, by decide +kernel⟩, List.mem_of_getElem? (i := 789) (by decide +kernel), List.mem_of_getElem? (i := 1136) (by decide +kernel), List.mem_of_getElem? (i := 1137) (by decide +kernel)⟩
theorem lw_p51 : lw_okq (⟨"BellSecondsModel", "turn", "(I)V"⟩, 44) := ⟨⟨by decide +kernel, by decide +kernel⟩, List.mem_of_getElem? (i := 789) (by decide +kernel), List.mem_of_getElem? (i := 1140) (by decide +kernel), List.mem_of_getElem? (i := 1141) (by decide +kernel)⟩
theorem lw_p52 : lw_okq (⟨"BellSecondsModel", "hold", "(Z)V"⟩, 44) := ⟨⟨by decide +kernel, by decide +kernel⟩, List.mem_of_getElem? (i := 789) (by decide +kernel), List.mem_of_getElem? (i := 1152) (by decide +kernel), List.mem_of_getElem? (i := 1153) (by decide +kernel)⟩
def lw_privs_4 : List (MethodName × Nat) := [(⟨"BellSecondsModel", "layStrokes", "()V"⟩, 44), (⟨"BellSecondsModel", "grow", "(I)Z"⟩, 44), (⟨"BellSecondsModel", "reaches", "(II)Z"⟩, 44), (⟨"BellSecondsModel", "turn", "(I)V"⟩, 44), (⟨"BellSecondsModel", "hold", "(Z)V"⟩, 44)]
theorem lw_r4 : ∀ q ∈ lw_privs_4, lw_okq q := List.forall_mem_cons.mpr ⟨lw_p48, List.forall_mem_cons.mpr ⟨lw_p49, List.forall_mem_cons.mpr ⟨lw_p50, List.forall_mem_cons.mpr ⟨lw_p51, List.forall_mem_cons.mpr ⟨lw_p52, fun _ h => absurd h List.not_mem_nil⟩⟩⟩⟩⟩
def lw_privs : List (MethodName × Nat) := lw_privs_1 ++ (lw_privs_2 ++ (lw_privs_3 ++ (lw_privs_4)))
def lw_tbl : List Cond := k2_sels lw_privs ++ tables_1
theorem lw_privs_ok : ∀ q ∈ lw_privs, lw_okq q := by
  show ∀ q ∈ lw_privs_1 ++ (lw_privs_2 ++ (lw_privs_3 ++ (lw_privs_4))), lw_okq q
  exact List.forall_mem_append.mpr ⟨lw_r1, List.forall_mem_append.mpr ⟨lw_r2, List.forall_mem_append.mpr ⟨lw_r3, lw_r4⟩⟩⟩
-- ===== end of PART A; then your names; then what follows =====
/-! THE CLAIM OUT OF ONE WALK OF THE LAW'S BODY. Your part is whole_start (and what it stands on); all else here is the same for every law, but numbers. -/
def R_law : String := "BellSecondsLaw"
def lw_P (b : Addr) (xs : List Int32) (args : Array Value) (s : State) : Prop := args = #[.ref b] ∧ s.IntsAt b xs ∧ xs.length ≤ 2048 ∧ (Jvm.Cond.and given_1 narrow_1).before args s = true
def lw_Q (_ : Array Value) (s : State) (o : Outcome) (t : State) : Prop := o = .returned (some (.int 1)) ∧ Framed s o t [] 600000 7302250
def lw_Z (below : List Frame) (a : Array Value) (s : State) : State → Prop := fun t => ∃ o, t.status = .running ∧ Ended t below o ∧ lw_Q a s o t
/-- the law's own end, with 1 on the stack, nothing written that was there before, its room as the claim has it -/
theorem lw_ret {p : Program} {l : Launch} {e : Env} {s : State} {m : MethodId} {below : List Frame} {meth : Method} {c : Code} {b : Nat} (hx : p.tables.exec = Jvm.exec) (hb : c.code = code) (hr : meth.sig.returnType = ret) (hlocks : meth.locks = false) {pc : Nat} {H : Heap} {ls : Array Slot} (hdg : decode code pc = .ok (.ireturn, 1)) : W p l e room_1 s m #[Value.ref b] below meth c H [] 600000 7302250 (lw_Z below #[Value.ref b] s) (F0 m pc ls [.int 1]) := by
  intro T hT X
  obtain ⟨fs, hret, hrun, hended, hW, hframe⟩ := X.leave (v := some (.int 1)) (hlocks := hlocks) (fun h => by rw [hr] at h; cases h)
  have hmeth' : T.vm.method? m = some meth := X.method'
  refine ⟨T.setFrames fs, ?_, .returned (some (.int 1)), hrun, hended, rfl, ⟨_, rfl⟩, hW, hframe⟩
  jvm_step X.here [X.here.top, hx, hb, hdg, hmeth', hr, ret, narrow_b1]
  (try refine ⟨rfl, ?_⟩); (try refine ⟨rfl, ?_⟩)
  first | (intro acts; rw [hret _ acts rfl rfl rfl]) | rw [hret _ _ rfl rfl rfl]
  exact Steps.refl _
/-- what holds at the law's entry: the machine, the code, the tables' words (any of lw_tbl by 'hts w (by decide +kernel)'), the script of L ints xs at the cell b, what the Statement gives of the start (any of its parts by flat_of_before) -/
def lw_At (p : Program) (s : State) (m : MethodId) (meth : Method) (c : Code) (b L : Nat) (xs : Nat → Int32) : Prop :=
  p.tables.exec = Jvm.exec ∧ c.code = code ∧ meth.sig.returnType = ret ∧ c.maxLocals = 4 ∧ s.vm.findClass R_law = some m.cls ∧ (∀ w ∈ lw_tbl, w.before #[Value.ref b] s = true) ∧ va_X b L xs s s.heap ∧ b < s.heap.size ∧ meth.locks = false ∧ (Jvm.Cond.and given_1 narrow_1).before #[Value.ref b] s = true
def RX0 : String := "BellSeconds$Acts"
def TX0 : u_T := fun k => match k with
  | 0 => ("BellSeconds$Acts", "who", "[I", true)
  | 1 => ("BellSeconds$Acts", "was", "[I", true)
  | _ => ("BellSeconds$Acts", "size", "I", false)
def tyX0 : Nat → FieldType := fun k => match k with
  | 0 => .array .int
  | 1 => .array .int
  | _ => .int
abbrev wsX00 : List Cond := u_ws RX0 TX0 3
theorem nmX0 : ∀ a, a < 3 → ∀ b, b < 3 → a ≠ b → (TX0 a).2.1 ≠ (TX0 b).2.1 := by decide +kernel
theorem tyX0_ok : ∀ k, k < 3 → parseFieldDescriptor (TX0 k).2.2.1 = some (tyX0 k) := by decide +kernel
abbrev cX0_init : ByteArray := prog_2_method_1_code
def yX0_init : MethodName := ⟨RX0, "<init>", "()V"⟩
abbrev cX0_clear : ByteArray := prog_2_method_2_code
def yX0_clear : MethodName := ⟨RX0, "clear", "()V"⟩
abbrev cX0_append : ByteArray := prog_2_method_3_code
def yX0_append : MethodName := ⟨RX0, "append", "(II)V"⟩
abbrev cX0_forgetFirst : ByteArray := prog_2_method_4_code
def yX0_forgetFirst : MethodName := ⟨RX0, "forgetFirst", "()V"⟩
abbrev cX0_takeBack : ByteArray := prog_2_method_5_code
def yX0_takeBack : MethodName := ⟨RX0, "takeBack", "(LBellSeconds$Day;)V"⟩
def RX1 : String := "BellSeconds$Day"
def TX1 : u_T := fun k => match k with
  | 0 => ("BellSeconds$Day", "tower", "LBellSeconds$Tower;", true)
  | _ => ("BellSeconds$Day", "told", "[I", true)
def tyX1 : Nat → FieldType := fun k => match k with
  | 0 => .object "BellSeconds$Tower"
  | _ => .array .int
abbrev wsX10 : List Cond := u_ws RX1 TX1 2
theorem nmX1 : ∀ a, a < 2 → ∀ b, b < 2 → a ≠ b → (TX1 a).2.1 ≠ (TX1 b).2.1 := by decide +kernel
theorem tyX1_ok : ∀ k, k < 2 → parseFieldDescriptor (TX1 k).2.2.1 = some (tyX1 k) := by decide +kernel
abbrev cX1_init : ByteArray := prog_3_method_1_code
def yX1_init : MethodName := ⟨RX1, "<init>", "(LBellSeconds$Tower;)V"⟩
abbrev cX1_clear : ByteArray := prog_3_method_2_code
def yX1_clear : MethodName := ⟨RX1, "clear", "()V"⟩
abbrev cX1_copy : ByteArray := prog_3_method_3_code
def yX1_copy : MethodName := ⟨RX1, "copy", "(LBellSeconds$Day;)V"⟩
abbrev cX1_tell : ByteArray := prog_3_method_4_code
def yX1_tell : MethodName := ⟨RX1, "tell", "(II)V"⟩
abbrev cX1_toldOf : ByteArray := prog_3_method_5_code
def yX1_toldOf : MethodName := ⟨RX1, "toldOf", "(I)I"⟩
abbrev cX1_isLet : ByteArray := prog_3_method_6_code
def yX1_isLet : MethodName := ⟨RX1, "isLet", "(I)Z"⟩
abbrev cX1_secondOf : ByteArray := prog_3_method_7_code
def yX1_secondOf : MethodName := ⟨RX1, "secondOf", "(I)I"⟩
abbrev cX1_everyoneLet : ByteArray := prog_3_method_8_code
def yX1_everyoneLet : MethodName := ⟨RX1, "everyoneLet", "()I"⟩
abbrev cX1_worth : ByteArray := prog_3_method_9_code
def yX1_worth : MethodName := ⟨RX1, "worth", "()I"⟩
abbrev cX1_worthOf : ByteArray := prog_3_method_10_code
def yX1_worthOf : MethodName := ⟨RX1, "worthOf", "(I)I"⟩
abbrev cX1_ringing : ByteArray := prog_3_method_11_code
def yX1_ringing : MethodName := ⟨RX1, "ringing", "()I"⟩
abbrev cX1_clashing : ByteArray := prog_3_method_12_code
def yX1_clashing : MethodName := ⟨RX1, "clashing", "(II)I"⟩
abbrev cX1_fits : ByteArray := prog_3_method_13_code
def yX1_fits : MethodName := ⟨RX1, "fits", "(II)Z"⟩
abbrev cX1_letIfCan : ByteArray := prog_3_method_14_code
def yX1_letIfCan : MethodName := ⟨RX1, "letIfCan", "(II)Z"⟩
abbrev cX1_cheapestBegin : ByteArray := prog_3_method_15_code
def yX1_cheapestBegin : MethodName := ⟨RX1, "cheapestBegin", "(I)I"⟩
def RX2 : String := "BellSeconds$Fitting"
def TX2 : u_T := fun k => match k with
  | 0 => ("BellSeconds$Fitting", "tower", "LBellSeconds$Tower;", true)
  | 1 => ("BellSeconds$Fitting", "days", "I", false)
  | 2 => ("BellSeconds$Fitting", "silentDays", "I", false)
  | 3 => ("BellSeconds$Fitting", "inAll", "I", false)
  | 4 => ("BellSeconds$Fitting", "inSome", "I", false)
  | 5 => ("BellSeconds$Fitting", "must", "I", false)
  | 6 => ("BellSeconds$Fitting", "asked", "I", false)
  | 7 => ("BellSeconds$Fitting", "bellDays", "I", false)
  | 8 => ("BellSeconds$Fitting", "bellSilentDays", "I", false)
  | 9 => ("BellSeconds$Fitting", "bellInAll", "I", false)
  | _ => ("BellSeconds$Fitting", "bellInSome", "I", false)
def tyX2 : Nat → FieldType := fun k => match k with
  | 0 => .object "BellSeconds$Tower"
  | 1 => .int
  | 2 => .int
  | 3 => .int
  | 4 => .int
  | 5 => .int
  | 6 => .int
  | 7 => .int
  | 8 => .int
  | 9 => .int
  | _ => .int
abbrev wsX20 : List Cond := u_ws RX2 TX2 11
theorem nmX2 : ∀ a, a < 11 → ∀ b, b < 11 → a ≠ b → (TX2 a).2.1 ≠ (TX2 b).2.1 := by decide +kernel
theorem tyX2_ok : ∀ k, k < 11 → parseFieldDescriptor (TX2 k).2.2.1 = some (tyX2 k) := by decide +kernel
abbrev cX2_init : ByteArray := prog_4_method_1_code
def yX2_init : MethodName := ⟨RX2, "<init>", "(LBellSeconds$Tower;)V"⟩
abbrev cX2_tally : ByteArray := prog_4_method_2_code
def yX2_tally : MethodName := ⟨RX2, "tally", "(LBellSeconds$Heard;I)V"⟩
abbrev cX2_areQuiets : ByteArray := prog_4_method_3_code
def yX2_areQuiets : MethodName := ⟨RX2, "areQuiets", "(I)Z"⟩
abbrev cX2_tallyBeside : ByteArray := prog_4_method_4_code
def yX2_tallyBeside : MethodName := ⟨RX2, "tallyBeside", "(II)V"⟩
abbrev cX2_tallyBell : ByteArray := prog_4_method_5_code
def yX2_tallyBell : MethodName := ⟨RX2, "tallyBell", "(II)V"⟩
abbrev cX2_walk : ByteArray := prog_4_method_6_code
def yX2_walk : MethodName := ⟨RX2, "walk", "(IIJIII)V"⟩
abbrev cX2_tallyDay : ByteArray := prog_4_method_7_code
def yX2_tallyDay : MethodName := ⟨RX2, "tallyDay", "(III)V"⟩
def RX3 : String := "BellSeconds$Heard"
def TX3 : u_T := fun k => match k with
  | 0 => ("BellSeconds$Heard", "seconds", "[I", true)
  | 1 => ("BellSeconds$Heard", "bells", "[I", true)
  | _ => ("BellSeconds$Heard", "size", "I", false)
def tyX3 : Nat → FieldType := fun k => match k with
  | 0 => .array .int
  | 1 => .array .int
  | _ => .int
abbrev wsX30 : List Cond := u_ws RX3 TX3 3
theorem nmX3 : ∀ a, a < 3 → ∀ b, b < 3 → a ≠ b → (TX3 a).2.1 ≠ (TX3 b).2.1 := by decide +kernel
theorem tyX3_ok : ∀ k, k < 3 → parseFieldDescriptor (TX3 k).2.2.1 = some (tyX3 k) := by decide +kernel
abbrev cX3_init : ByteArray := prog_5_method_1_code
def yX3_init : MethodName := ⟨RX3, "<init>", "()V"⟩
abbrev cX3_append : ByteArray := prog_5_method_2_code
def yX3_append : MethodName := ⟨RX3, "append", "(II)I"⟩
abbrev cX3_clear : ByteArray := prog_5_method_3_code
def yX3_clear : MethodName := ⟨RX3, "clear", "()I"⟩
abbrev cX3_told : ByteArray := prog_5_method_4_code
def yX3_told : MethodName := ⟨RX3, "told", "(ZI)I"⟩
def RX4 : String := "BellSeconds$Letting"
def TX4 : u_T := fun k => match k with
  | 0 => ("BellSeconds$Letting", "tower", "LBellSeconds$Tower;", true)
  | 1 => ("BellSeconds$Letting", "trial", "LBellSeconds$Day;", true)
  | 2 => ("BellSeconds$Letting", "firstDay", "LBellSeconds$Day;", true)
  | 3 => ("BellSeconds$Letting", "weight", "[I", true)
  | 4 => ("BellSeconds$Letting", "rest", "[I", true)
  | _ => ("BellSeconds$Letting", "most", "I", false)
def tyX4 : Nat → FieldType := fun k => match k with
  | 0 => .object "BellSeconds$Tower"
  | 1 => .object "BellSeconds$Day"
  | 2 => .object "BellSeconds$Day"
  | 3 => .array .int
  | 4 => .array .int
  | _ => .int
abbrev wsX40 : List Cond := u_ws RX4 TX4 6
theorem nmX4 : ∀ a, a < 6 → ∀ b, b < 6 → a ≠ b → (TX4 a).2.1 ≠ (TX4 b).2.1 := by decide +kernel
theorem tyX4_ok : ∀ k, k < 6 → parseFieldDescriptor (TX4 k).2.2.1 = some (tyX4 k) := by decide +kernel
abbrev cX4_init : ByteArray := prog_6_method_1_code
def yX4_init : MethodName := ⟨RX4, "<init>", "(LBellSeconds$Tower;)V"⟩
abbrev cX4_mostWorth : ByteArray := prog_6_method_2_code
def yX4_mostWorth : MethodName := ⟨RX4, "mostWorth", "(I)I"⟩
abbrev cX4_mostAtOnce : ByteArray := prog_6_method_3_code
def yX4_mostAtOnce : MethodName := ⟨RX4, "mostAtOnce", "()I"⟩
abbrev cX4_mostBeside : ByteArray := prog_6_method_4_code
def yX4_mostBeside : MethodName := ⟨RX4, "mostBeside", "(LBellSeconds$Day;)I"⟩
abbrev cX4_weigh : ByteArray := prog_6_method_5_code
def yX4_weigh : MethodName := ⟨RX4, "weigh", "(IZ)V"⟩
abbrev cX4_search : ByteArray := prog_6_method_6_code
def yX4_search : MethodName := ⟨RX4, "search", "(JII)I"⟩
abbrev cX4_walk : ByteArray := prog_6_method_7_code
def yX4_walk : MethodName := ⟨RX4, "walk", "(IIJII)V"⟩
def RX5 : String := "BellSeconds$Ringers"
def TX5 : u_T := fun k => match k with
  | 0 => ("BellSeconds$Ringers", "tower", "LBellSeconds$Tower;", true)
  | 1 => ("BellSeconds$Ringers", "begin", "[I", true)
  | 2 => ("BellSeconds$Ringers", "end", "[I", true)
  | 3 => ("BellSeconds$Ringers", "bellAt", "[I", true)
  | 4 => ("BellSeconds$Ringers", "comesFrom", "[I", true)
  | 5 => ("BellSeconds$Ringers", "size", "I", false)
  | _ => ("BellSeconds$Ringers", "seen", "I", false)
def tyX5 : Nat → FieldType := fun k => match k with
  | 0 => .object "BellSeconds$Tower"
  | 1 => .array .int
  | 2 => .array .int
  | 3 => .array .int
  | 4 => .array .int
  | 5 => .int
  | _ => .int
abbrev wsX50 : List Cond := u_ws RX5 TX5 7
theorem nmX5 : ∀ a, a < 7 → ∀ b, b < 7 → a ≠ b → (TX5 a).2.1 ≠ (TX5 b).2.1 := by decide +kernel
theorem tyX5_ok : ∀ k, k < 7 → parseFieldDescriptor (TX5 k).2.2.1 = some (tyX5 k) := by decide +kernel
abbrev cX5_init : ByteArray := prog_7_method_1_code
def yX5_init : MethodName := ⟨RX5, "<init>", "(LBellSeconds$Tower;)V"⟩
abbrev cX5_fewest : ByteArray := prog_7_method_2_code
def yX5_fewest : MethodName := ⟨RX5, "fewest", "(LBellSeconds$Day;)I"⟩
abbrev cX5_addStrokes : ByteArray := prog_7_method_3_code
def yX5_addStrokes : MethodName := ⟨RX5, "addStrokes", "(II)V"⟩
abbrev cX5_goesOn : ByteArray := prog_7_method_4_code
def yX5_goesOn : MethodName := ⟨RX5, "goesOn", "(II)Z"⟩
abbrev cX5_isInTime : ByteArray := prog_7_method_5_code
def yX5_isInTime : MethodName := ⟨RX5, "isInTime", "(II)Z"⟩
def RX6 : String := "BellSeconds$Slot"
def TX6 : u_T := fun k => match k with
  | 0 => ("BellSeconds$Slot", "day", "LBellSeconds$Day;", true)
  | _ => ("BellSeconds$Slot", "full", "Z", false)
def tyX6 : Nat → FieldType := fun k => match k with
  | 0 => .object "BellSeconds$Day"
  | _ => .boolean
abbrev wsX60 : List Cond := u_ws RX6 TX6 2
theorem nmX6 : ∀ a, a < 2 → ∀ b, b < 2 → a ≠ b → (TX6 a).2.1 ≠ (TX6 b).2.1 := by decide +kernel
theorem tyX6_ok : ∀ k, k < 2 → parseFieldDescriptor (TX6 k).2.2.1 = some (tyX6 k) := by decide +kernel
abbrev cX6_init : ByteArray := prog_8_method_1_code
def yX6_init : MethodName := ⟨RX6, "<init>", "(LBellSeconds$Tower;)V"⟩
abbrev cX6_fill : ByteArray := prog_8_method_2_code
def yX6_fill : MethodName := ⟨RX6, "fill", "(LBellSeconds$Day;)V"⟩
abbrev cX6_forget : ByteArray := prog_8_method_3_code
def yX6_forget : MethodName := ⟨RX6, "forget", "()V"⟩
def RX7 : String := "BellSeconds$Text"
def TX7 : u_T := fun k => match k with
  | 0 => ("BellSeconds$Text", "letters", "[I", true)
  | _ => ("BellSeconds$Text", "length", "I", false)
def tyX7 : Nat → FieldType := fun k => match k with
  | 0 => .array .int
  | _ => .int
abbrev wsX70 : List Cond := u_ws RX7 TX7 2
theorem nmX7 : ∀ a, a < 2 → ∀ b, b < 2 → a ≠ b → (TX7 a).2.1 ≠ (TX7 b).2.1 := by decide +kernel
theorem tyX7_ok : ∀ k, k < 2 → parseFieldDescriptor (TX7 k).2.2.1 = some (tyX7 k) := by decide +kernel
abbrev cX7_init : ByteArray := prog_9_method_1_code
def yX7_init : MethodName := ⟨RX7, "<init>", "()V"⟩
abbrev cX7_append : ByteArray := prog_9_method_2_code
def yX7_append : MethodName := ⟨RX7, "append", "(I)I"⟩
abbrev cX7_clear : ByteArray := prog_9_method_3_code
def yX7_clear : MethodName := ⟨RX7, "clear", "()I"⟩
abbrev cX7_letterAt : ByteArray := prog_9_method_4_code
def yX7_letterAt : MethodName := ⟨RX7, "letterAt", "(I)I"⟩
abbrev cX7_figureAt : ByteArray := prog_9_method_5_code
def yX7_figureAt : MethodName := ⟨RX7, "figureAt", "(I)I"⟩
abbrev cX7_firstFault : ByteArray := prog_9_method_6_code
def yX7_firstFault : MethodName := ⟨RX7, "firstFault", "()I"⟩
abbrev cX7_faultInPart : ByteArray := prog_9_method_7_code
def yX7_faultInPart : MethodName := ⟨RX7, "faultInPart", "(III)I"⟩
abbrev cX7_mayBeTold : ByteArray := prog_9_method_8_code
def yX7_mayBeTold : MethodName := ⟨RX7, "mayBeTold", "(III)Z"⟩
abbrev cX7_sizeOf : ByteArray := prog_9_method_9_code
def yX7_sizeOf : MethodName := ⟨RX7, "sizeOf", "(I)I"⟩
abbrev cX7_least : ByteArray := prog_9_method_10_code
def yX7_least : MethodName := ⟨RX7, "least", "(III)I"⟩
abbrev cX7_most : ByteArray := prog_9_method_11_code
def yX7_most : MethodName := ⟨RX7, "most", "(III)I"⟩
def RX8 : String := "BellSeconds$Tower"
def TX8 : u_T := fun k => match k with
  | 0 => ("BellSeconds$Tower", "bells", "I", false)
  | 1 => ("BellSeconds$Tower", "bidders", "I", false)
  | 2 => ("BellSeconds$Tower", "ringTime", "[I", true)
  | 3 => ("BellSeconds$Tower", "dampTime", "[I", true)
  | 4 => ("BellSeconds$Tower", "bellOf", "[I", true)
  | 5 => ("BellSeconds$Tower", "strokes", "[I", true)
  | 6 => ("BellSeconds$Tower", "between", "[I", true)
  | 7 => ("BellSeconds$Tower", "from", "[I", true)
  | 8 => ("BellSeconds$Tower", "to", "[I", true)
  | 9 => ("BellSeconds$Tower", "coins", "[I", true)
  | 10 => ("BellSeconds$Tower", "begins", "[I", true)
  | 11 => ("BellSeconds$Tower", "wanted", "[I", true)
  | 12 => ("BellSeconds$Tower", "taken", "[J", true)
  | _ => ("BellSeconds$Tower", "rung", "[I", true)
def tyX8 : Nat → FieldType := fun k => match k with
  | 0 => .int
  | 1 => .int
  | 2 => .array .int
  | 3 => .array .int
  | 4 => .array .int
  | 5 => .array .int
  | 6 => .array .int
  | 7 => .array .int
  | 8 => .array .int
  | 9 => .array .int
  | 10 => .array .int
  | 11 => .array .int
  | 12 => .array .long
  | _ => .array .int
abbrev wsX80 : List Cond := u_ws RX8 TX8 14
theorem nmX8 : ∀ a, a < 14 → ∀ b, b < 14 → a ≠ b → (TX8 a).2.1 ≠ (TX8 b).2.1 := by decide +kernel
theorem tyX8_ok : ∀ k, k < 14 → parseFieldDescriptor (TX8 k).2.2.1 = some (tyX8 k) := by decide +kernel
abbrev cX8_init : ByteArray := prog_10_method_1_code
def yX8_init : MethodName := ⟨RX8, "<init>", "()V"⟩
abbrev cX8_hasBell : ByteArray := prog_10_method_2_code
def yX8_hasBell : MethodName := ⟨RX8, "hasBell", "(I)Z"⟩
abbrev cX8_hasBidder : ByteArray := prog_10_method_3_code
def yX8_hasBidder : MethodName := ⟨RX8, "hasBidder", "(I)Z"⟩
abbrev cX8_everyBell : ByteArray := prog_10_method_4_code
def yX8_everyBell : MethodName := ⟨RX8, "everyBell", "()I"⟩
abbrev cX8_everyone : ByteArray := prog_10_method_5_code
def yX8_everyone : MethodName := ⟨RX8, "everyone", "()I"⟩
abbrev cX8_mayBegin : ByteArray := prog_10_method_6_code
def yX8_mayBegin : MethodName := ⟨RX8, "mayBegin", "(II)Z"⟩
abbrev cX8_isQuiet : ByteArray := prog_10_method_7_code
def yX8_isQuiet : MethodName := ⟨RX8, "isQuiet", "(I)Z"⟩
abbrev cX8_isPealOf : ByteArray := prog_10_method_8_code
def yX8_isPealOf : MethodName := ⟨RX8, "isPealOf", "(II)Z"⟩
abbrev cX8_takes : ByteArray := prog_10_method_9_code
def yX8_takes : MethodName := ⟨RX8, "takes", "(II)J"⟩
abbrev cX8_ringing : ByteArray := prog_10_method_10_code
def yX8_ringing : MethodName := ⟨RX8, "ringing", "(II)I"⟩
abbrev cX8_wants : ByteArray := prog_10_method_11_code
def yX8_wants : MethodName := ⟨RX8, "wants", "(I)I"⟩
abbrev cX8_wantedSeconds : ByteArray := prog_10_method_12_code
def yX8_wantedSeconds : MethodName := ⟨RX8, "wantedSeconds", "()I"⟩
abbrev cX8_build : ByteArray := prog_10_method_13_code
def yX8_build : MethodName := ⟨RX8, "build", "(LBellSeconds$Text;)V"⟩
abbrev cX8_clear : ByteArray := prog_10_method_14_code
def yX8_clear : MethodName := ⟨RX8, "clear", "()V"⟩
abbrev cX8_addBell : ByteArray := prog_10_method_15_code
def yX8_addBell : MethodName := ⟨RX8, "addBell", "(II)V"⟩
abbrev cX8_addBidder : ByteArray := prog_10_method_16_code
def yX8_addBidder : MethodName := ⟨RX8, "addBidder", "(ILBellSeconds$Text;I)V"⟩
abbrev cX8_layPeal : ByteArray := prog_10_method_17_code
def yX8_layPeal : MethodName := ⟨RX8, "layPeal", "(I)V"⟩
abbrev cX8_layPlace : ByteArray := prog_10_method_18_code
def yX8_layPlace : MethodName := ⟨RX8, "layPlace", "(IIJI)V"⟩
abbrev cX8_clash : ByteArray := prog_10_method_19_code
def yX8_clash : MethodName := ⟨RX8, "clash", "(IIII)Z"⟩
def RX9 : String := "BellSeconds"
def TX9 : u_T := fun k => match k with
  | 0 => ("BellSeconds", "text", "LBellSeconds$Text;", true)
  | 1 => ("BellSeconds", "tower", "LBellSeconds$Tower;", true)
  | 2 => ("BellSeconds", "now", "LBellSeconds$Day;", true)
  | 3 => ("BellSeconds", "trial", "LBellSeconds$Day;", true)
  | 4 => ("BellSeconds", "slot0", "LBellSeconds$Slot;", true)
  | 5 => ("BellSeconds", "slot1", "LBellSeconds$Slot;", true)
  | 6 => ("BellSeconds", "acts", "LBellSeconds$Acts;", true)
  | 7 => ("BellSeconds", "letting", "LBellSeconds$Letting;", true)
  | 8 => ("BellSeconds", "heard", "LBellSeconds$Heard;", true)
  | 9 => ("BellSeconds", "fitting", "LBellSeconds$Fitting;", true)
  | 10 => ("BellSeconds", "ringers", "LBellSeconds$Ringers;", true)
  | 11 => ("BellSeconds", "things", "[I", true)
  | _ => ("BellSeconds", "seed", "J", false)
def tyX9 : Nat → FieldType := fun k => match k with
  | 0 => .object "BellSeconds$Text"
  | 1 => .object "BellSeconds$Tower"
  | 2 => .object "BellSeconds$Day"
  | 3 => .object "BellSeconds$Day"
  | 4 => .object "BellSeconds$Slot"
  | 5 => .object "BellSeconds$Slot"
  | 6 => .object "BellSeconds$Acts"
  | 7 => .object "BellSeconds$Letting"
  | 8 => .object "BellSeconds$Heard"
  | 9 => .object "BellSeconds$Fitting"
  | 10 => .object "BellSeconds$Ringers"
  | 11 => .array .int
  | _ => .long
abbrev wsX90 : List Cond := u_ws RX9 TX9 13
theorem nmX9 : ∀ a, a < 13 → ∀ b, b < 13 → a ≠ b → (TX9 a).2.1 ≠ (TX9 b).2.1 := by decide +kernel
theorem tyX9_ok : ∀ k, k < 13 → parseFieldDescriptor (TX9 k).2.2.1 = some (tyX9 k) := by decide +kernel
abbrev cX9_init : ByteArray := prog_1_method_1_code
def yX9_init : MethodName := ⟨RX9, "<init>", "()V"⟩
abbrev cX9_write : ByteArray := prog_1_method_2_code
def yX9_write : MethodName := ⟨RX9, "write", "(I)I"⟩
abbrev cX9_wipe : ByteArray := prog_1_method_3_code
def yX9_wipe : MethodName := ⟨RX9, "wipe", "()I"⟩
abbrev cX9_fault : ByteArray := prog_1_method_4_code
def yX9_fault : MethodName := ⟨RX9, "fault", "()I"⟩
abbrev cX9_tower : ByteArray := prog_1_method_5_code
def yX9_tower : MethodName := ⟨RX9, "tower", "()I"⟩
abbrev cX9_bell : ByteArray := prog_1_method_6_code
def yX9_bell : MethodName := ⟨RX9, "bell", "(II)I"⟩
abbrev cX9_bidder : ByteArray := prog_1_method_7_code
def yX9_bidder : MethodName := ⟨RX9, "bidder", "(II)I"⟩
abbrev cX9_rings : ByteArray := prog_1_method_8_code
def yX9_rings : MethodName := ⟨RX9, "rings", "(I)I"⟩
abbrev cX9_clashes : ByteArray := prog_1_method_9_code
def yX9_clashes : MethodName := ⟨RX9, "clashes", "(II)I"⟩
abbrev cX9_let : ByteArray := prog_1_method_10_code
def yX9_let : MethodName := ⟨RX9, "let", "(II)I"⟩
abbrev cX9_revoke : ByteArray := prog_1_method_11_code
def yX9_revoke : MethodName := ⟨RX9, "revoke", "(I)I"⟩
abbrev cX9_move : ByteArray := prog_1_method_12_code
def yX9_move : MethodName := ⟨RX9, "move", "(II)I"⟩
abbrev cX9_undo : ByteArray := prog_1_method_13_code
def yX9_undo : MethodName := ⟨RX9, "undo", "()I"⟩
abbrev cX9_act : ByteArray := prog_1_method_14_code
def yX9_act : MethodName := ⟨RX9, "act", "(II)V"⟩
abbrev cX9_best : ByteArray := prog_1_method_15_code
def yX9_best : MethodName := ⟨RX9, "best", "(I)I"⟩
abbrev cX9_bestOf : ByteArray := prog_1_method_16_code
def yX9_bestOf : MethodName := ⟨RX9, "bestOf", "(I)I"⟩
abbrev cX9_beside : ByteArray := prog_1_method_17_code
def yX9_beside : MethodName := ⟨RX9, "beside", "()I"⟩
abbrev cX9_price : ByteArray := prog_1_method_18_code
def yX9_price : MethodName := ⟨RX9, "price", "(I)I"⟩
abbrev cX9_many : ByteArray := prog_1_method_19_code
def yX9_many : MethodName := ⟨RX9, "many", "()I"⟩
abbrev cX9_room : ByteArray := prog_1_method_20_code
def yX9_room : MethodName := ⟨RX9, "room", "(II)I"⟩
abbrev cX9_hands : ByteArray := prog_1_method_21_code
def yX9_hands : MethodName := ⟨RX9, "hands", "()I"⟩
abbrev cX9_judge : ByteArray := prog_1_method_22_code
def yX9_judge : MethodName := ⟨RX9, "judge", "(IJ)I"⟩
abbrev cX9_firstThatCanNotBe : ByteArray := prog_1_method_23_code
def yX9_firstThatCanNotBe : MethodName := ⟨RX9, "firstThatCanNotBe", "(I)I"⟩
abbrev cX9_hear : ByteArray := prog_1_method_24_code
def yX9_hear : MethodName := ⟨RX9, "hear", "(II)I"⟩
abbrev cX9_unhear : ByteArray := prog_1_method_25_code
def yX9_unhear : MethodName := ⟨RX9, "unhear", "()I"⟩
abbrev cX9_fit : ByteArray := prog_1_method_26_code
def yX9_fit : MethodName := ⟨RX9, "fit", "(I)I"⟩
abbrev cX9_likely : ByteArray := prog_1_method_27_code
def yX9_likely : MethodName := ⟨RX9, "likely", "(IZ)I"⟩
abbrev cX9_unwanted : ByteArray := prog_1_method_28_code
def yX9_unwanted : MethodName := ⟨RX9, "unwanted", "()I"⟩
abbrev cX9_sealed : ByteArray := prog_1_method_29_code
def yX9_sealed : MethodName := ⟨RX9, "sealed", "(III)I"⟩
abbrev cX9_seed : ByteArray := prog_1_method_30_code
def yX9_seed : MethodName := ⟨RX9, "seed", "(J)J"⟩
abbrev cX9_day : ByteArray := prog_1_method_31_code
def yX9_day : MethodName := ⟨RX9, "day", "(I)I"⟩
abbrev cX9_keep : ByteArray := prog_1_method_32_code
def yX9_keep : MethodName := ⟨RX9, "keep", "(I)I"⟩
abbrev cX9_again : ByteArray := prog_1_method_33_code
def yX9_again : MethodName := ⟨RX9, "again", "(I)I"⟩
abbrev cX9_count : ByteArray := prog_1_method_34_code
def yX9_count : MethodName := ⟨RX9, "count", "(I)I"⟩
abbrev cX9_slotOf : ByteArray := prog_1_method_35_code
def yX9_slotOf : MethodName := ⟨RX9, "slotOf", "(I)LBellSeconds$Slot;"⟩
abbrev cX9_isSecond : ByteArray := prog_1_method_36_code
def yX9_isSecond : MethodName := ⟨RX9, "isSecond", "(I)Z"⟩
abbrev cX9_isBid : ByteArray := prog_1_method_37_code
def yX9_isBid : MethodName := ⟨RX9, "isBid", "(I)Z"⟩
abbrev cX9_at : ByteArray := prog_1_method_38_code
def yX9_at : MethodName := ⟨RX9, "at", "([II)I"⟩
abbrev cX9_stretch : ByteArray := prog_1_method_39_code
def yX9_stretch : MethodName := ⟨RX9, "stretch", "(II)I"⟩
abbrev cX9_secondsOf : ByteArray := prog_1_method_40_code
def yX9_secondsOf : MethodName := ⟨RX9, "secondsOf", "(II)I"⟩
abbrev cX9_ofAnyBell : ByteArray := prog_1_method_41_code
def yX9_ofAnyBell : MethodName := ⟨RX9, "ofAnyBell", "(I)I"⟩
abbrev cX9_bellsAt : ByteArray := prog_1_method_42_code
def yX9_bellsAt : MethodName := ⟨RX9, "bellsAt", "(II)I"⟩
abbrev cX9_commonDivisor : ByteArray := prog_1_method_43_code
def yX9_commonDivisor : MethodName := ⟨RX9, "commonDivisor", "(II)I"⟩
abbrev cX9_rests : ByteArray := prog_1_method_44_code
def yX9_rests : MethodName := ⟨RX9, "rests", "(IIII)Z"⟩
abbrev cX9_gainOfOne : ByteArray := prog_1_method_45_code
def yX9_gainOfOne : MethodName := ⟨RX9, "gainOfOne", "(III)I"⟩
abbrev cX9_gainOfOther : ByteArray := prog_1_method_46_code
def yX9_gainOfOther : MethodName := ⟨RX9, "gainOfOther", "(III)I"⟩
def RX10 : String := "BellSecondsModel"
def TX10 : u_T := fun k => match k with
  | 0 => ("BellSecondsModel", "bells", "I", false)
  | 1 => ("BellSecondsModel", "bidders", "I", false)
  | 2 => ("BellSecondsModel", "rung", "[I", true)
  | 3 => ("BellSecondsModel", "damped", "[I", true)
  | 4 => ("BellSecondsModel", "of", "[I", true)
  | 5 => ("BellSecondsModel", "readBell", "[I", true)
  | 6 => ("BellSecondsModel", "readOf", "[I", true)
  | 7 => ("BellSecondsModel", "now", "[I", true)
  | 8 => ("BellSecondsModel", "text", "[I", true)
  | 9 => ("BellSecondsModel", "length", "I", false)
  | 10 => ("BellSecondsModel", "at", "I", false)
  | 11 => ("BellSecondsModel", "faultAt", "I", false)
  | 12 => ("BellSecondsModel", "readBells", "I", false)
  | 13 => ("BellSecondsModel", "readBidders", "I", false)
  | 14 => ("BellSecondsModel", "acts", "I", false)
  | 15 => ("BellSecondsModel", "next", "I", false)
  | 16 => ("BellSecondsModel", "row", "[I", true)
  | 17 => ("BellSecondsModel", "day", "[I", true)
  | 18 => ("BellSecondsModel", "bestDay", "[I", true)
  | 19 => ("BellSecondsModel", "isSet", "[Z", true)
  | 20 => ("BellSecondsModel", "most", "I", false)
  | 21 => ("BellSecondsModel", "fits", "I", false)
  | 22 => ("BellSecondsModel", "inAll", "I", false)
  | 23 => ("BellSecondsModel", "inSome", "I", false)
  | 24 => ("BellSecondsModel", "ringsAt", "[I", true)
  | 25 => ("BellSecondsModel", "mayAt", "[Z", true)
  | 26 => ("BellSecondsModel", "ringAt", "[I", true)
  | 27 => ("BellSecondsModel", "takeAt", "[I", true)
  | 28 => ("BellSecondsModel", "bellAt", "[I", true)
  | 29 => ("BellSecondsModel", "strokes", "I", false)
  | 30 => ("BellSecondsModel", "begin", "[I", true)
  | 31 => ("BellSecondsModel", "end", "[I", true)
  | 32 => ("BellSecondsModel", "onBell", "[I", true)
  | 33 => ("BellSecondsModel", "behind", "[I", true)
  | 34 => ("BellSecondsModel", "ahead", "[I", true)
  | 35 => ("BellSecondsModel", "by", "[I", true)
  | 36 => ("BellSecondsModel", "line", "[I", true)
  | 37 => ("BellSecondsModel", "held", "[I", true)
  | 38 => ("BellSecondsModel", "heard", "I", false)
  | 39 => ("BellSecondsModel", "heardAt", "[I", true)
  | 40 => ("BellSecondsModel", "heardBells", "[I", true)
  | 41 => ("BellSecondsModel", "seed", "J", false)
  | 42 => ("BellSecondsModel", "isKept", "[Z", true)
  | _ => ("BellSecondsModel", "kept", "[I", true)
def tyX10 : Nat → FieldType := fun k => match k with
  | 0 => .int
  | 1 => .int
  | 2 => .array .int
  | 3 => .array .int
  | 4 => .array .int
  | 5 => .array .int
  | 6 => .array .int
  | 7 => .array .int
  | 8 => .array .int
  | 9 => .int
  | 10 => .int
  | 11 => .int
  | 12 => .int
  | 13 => .int
  | 14 => .int
  | 15 => .int
  | 16 => .array .int
  | 17 => .array .int
  | 18 => .array .int
  | 19 => .array .boolean
  | 20 => .int
  | 21 => .int
  | 22 => .int
  | 23 => .int
  | 24 => .array .int
  | 25 => .array .boolean
  | 26 => .array .int
  | 27 => .array .int
  | 28 => .array .int
  | 29 => .int
  | 30 => .array .int
  | 31 => .array .int
  | 32 => .array .int
  | 33 => .array .int
  | 34 => .array .int
  | 35 => .array .int
  | 36 => .array .int
  | 37 => .array .int
  | 38 => .int
  | 39 => .array .int
  | 40 => .array .int
  | 41 => .long
  | 42 => .array .boolean
  | _ => .array .int
abbrev wsX100 : List Cond := u_ws RX10 TX10 44
theorem nmX10 : ∀ a, a < 44 → ∀ b, b < 44 → a ≠ b → (TX10 a).2.1 ≠ (TX10 b).2.1 := by decide +kernel
theorem tyX10_ok : ∀ k, k < 44 → parseFieldDescriptor (TX10 k).2.2.1 = some (tyX10 k) := by decide +kernel
abbrev cX10_init : ByteArray := prog_12_method_1_code
def yX10_init : MethodName := ⟨RX10, "<init>", "()V"⟩
abbrev cX10_in : ByteArray := prog_12_method_3_code
def yX10_in : MethodName := ⟨RX10, "in", "(JJJ)Z"⟩
abbrev cX10_has : ByteArray := prog_12_method_4_code
def yX10_has : MethodName := ⟨RX10, "has", "(II)Z"⟩
abbrev cX10_ones : ByteArray := prog_12_method_5_code
def yX10_ones : MethodName := ⟨RX10, "ones", "(I)I"⟩
abbrev cX10_write : ByteArray := prog_12_method_6_code
def yX10_write : MethodName := ⟨RX10, "write", "(I)I"⟩
abbrev cX10_wipe : ByteArray := prog_12_method_7_code
def yX10_wipe : MethodName := ⟨RX10, "wipe", "()I"⟩
abbrev cX10_figure : ByteArray := prog_12_method_8_code
def yX10_figure : MethodName := ⟨RX10, "figure", "(II)I"⟩
abbrev cX10_readText : ByteArray := prog_12_method_9_code
def yX10_readText : MethodName := ⟨RX10, "readText", "()I"⟩
abbrev cX10_readPart : ByteArray := prog_12_method_10_code
def yX10_readPart : MethodName := ⟨RX10, "readPart", "(I)V"⟩
abbrev cX10_readSpan : ByteArray := prog_12_method_11_code
def yX10_readSpan : MethodName := ⟨RX10, "readSpan", "(I)V"⟩
abbrev cX10_fault : ByteArray := prog_12_method_12_code
def yX10_fault : MethodName := ⟨RX10, "fault", "()I"⟩
abbrev cX10_tower : ByteArray := prog_12_method_13_code
def yX10_tower : MethodName := ⟨RX10, "tower", "()I"⟩
abbrev cX10_isBell : ByteArray := prog_12_method_14_code
def yX10_isBell : MethodName := ⟨RX10, "isBell", "(I)Z"⟩
abbrev cX10_isBidder : ByteArray := prog_12_method_15_code
def yX10_isBidder : MethodName := ⟨RX10, "isBidder", "(I)Z"⟩
abbrev cX10_isQuiet : ByteArray := prog_12_method_16_code
def yX10_isQuiet : MethodName := ⟨RX10, "isQuiet", "(I)Z"⟩
abbrev cX10_strokeAt : ByteArray := prog_12_method_17_code
def yX10_strokeAt : MethodName := ⟨RX10, "strokeAt", "(III)I"⟩
abbrev cX10_mayBegin : ByteArray := prog_12_method_18_code
def yX10_mayBegin : MethodName := ⟨RX10, "mayBegin", "(II)Z"⟩
abbrev cX10_span : ByteArray := prog_12_method_19_code
def yX10_span : MethodName := ⟨RX10, "span", "(II)I"⟩
abbrev cX10_seconds : ByteArray := prog_12_method_20_code
def yX10_seconds : MethodName := ⟨RX10, "seconds", "(IIZ)I"⟩
abbrev cX10_clash : ByteArray := prog_12_method_21_code
def yX10_clash : MethodName := ⟨RX10, "clash", "(IIII)Z"⟩
abbrev cX10_clashesOf : ByteArray := prog_12_method_22_code
def yX10_clashesOf : MethodName := ⟨RX10, "clashesOf", "(II)I"⟩
abbrev cX10_coinsOf : ByteArray := prog_12_method_23_code
def yX10_coinsOf : MethodName := ⟨RX10, "coinsOf", "(I)I"⟩
abbrev cX10_letNow : ByteArray := prog_12_method_24_code
def yX10_letNow : MethodName := ⟨RX10, "letNow", "()I"⟩
abbrev cX10_ringing : ByteArray := prog_12_method_25_code
def yX10_ringing : MethodName := ⟨RX10, "ringing", "(I)I"⟩
abbrev cX10_bell : ByteArray := prog_12_method_26_code
def yX10_bell : MethodName := ⟨RX10, "bell", "(II)I"⟩
abbrev cX10_begins : ByteArray := prog_12_method_27_code
def yX10_begins : MethodName := ⟨RX10, "begins", "(I)I"⟩
abbrev cX10_bidder : ByteArray := prog_12_method_28_code
def yX10_bidder : MethodName := ⟨RX10, "bidder", "(II)I"⟩
abbrev cX10_rings : ByteArray := prog_12_method_29_code
def yX10_rings : MethodName := ⟨RX10, "rings", "(I)I"⟩
abbrev cX10_clashes : ByteArray := prog_12_method_30_code
def yX10_clashes : MethodName := ⟨RX10, "clashes", "(II)I"⟩
abbrev cX10_keepAct : ByteArray := prog_12_method_31_code
def yX10_keepAct : MethodName := ⟨RX10, "keepAct", "()V"⟩
abbrev cX10_canBe : ByteArray := prog_12_method_32_code
def yX10_canBe : MethodName := ⟨RX10, "canBe", "(II)Z"⟩
abbrev cX10_let : ByteArray := prog_12_method_33_code
def yX10_let : MethodName := ⟨RX10, "let", "(II)I"⟩
abbrev cX10_revoke : ByteArray := prog_12_method_34_code
def yX10_revoke : MethodName := ⟨RX10, "revoke", "(I)I"⟩
abbrev cX10_move : ByteArray := prog_12_method_35_code
def yX10_move : MethodName := ⟨RX10, "move", "(II)I"⟩
abbrev cX10_undo : ByteArray := prog_12_method_36_code
def yX10_undo : MethodName := ⟨RX10, "undo", "()I"⟩
abbrev cX10_mayHave : ByteArray := prog_12_method_37_code
def yX10_mayHave : MethodName := ⟨RX10, "mayHave", "(IZ)Z"⟩
abbrev cX10_clashAt : ByteArray := prog_12_method_38_code
def yX10_clashAt : MethodName := ⟨RX10, "clashAt", "(IIII)Z"⟩
abbrev cX10_layTables : ByteArray := prog_12_method_39_code
def yX10_layTables : MethodName := ⟨RX10, "layTables", "()V"⟩
abbrev cX10_layBells : ByteArray := prog_12_method_40_code
def yX10_layBells : MethodName := ⟨RX10, "layBells", "()V"⟩
abbrev cX10_dayLet : ByteArray := prog_12_method_41_code
def yX10_dayLet : MethodName := ⟨RX10, "dayLet", "()I"⟩
abbrev cX10_lookAt : ByteArray := prog_12_method_42_code
def yX10_lookAt : MethodName := ⟨RX10, "lookAt", "()V"⟩
abbrev cX10_goThrough : ByteArray := prog_12_method_43_code
def yX10_goThrough : MethodName := ⟨RX10, "goThrough", "(Z)V"⟩
abbrev cX10_bestOfSet : ByteArray := prog_12_method_44_code
def yX10_bestOfSet : MethodName := ⟨RX10, "bestOfSet", "(I)I"⟩
abbrev cX10_best : ByteArray := prog_12_method_45_code
def yX10_best : MethodName := ⟨RX10, "best", "(I)I"⟩
abbrev cX10_bestOf : ByteArray := prog_12_method_46_code
def yX10_bestOf : MethodName := ⟨RX10, "bestOf", "(I)I"⟩
abbrev cX10_beside : ByteArray := prog_12_method_47_code
def yX10_beside : MethodName := ⟨RX10, "beside", "()I"⟩
abbrev cX10_price : ByteArray := prog_12_method_48_code
def yX10_price : MethodName := ⟨RX10, "price", "(I)I"⟩
abbrev cX10_many : ByteArray := prog_12_method_49_code
def yX10_many : MethodName := ⟨RX10, "many", "()I"⟩
abbrev cX10_room : ByteArray := prog_12_method_50_code
def yX10_room : MethodName := ⟨RX10, "room", "(II)I"⟩
abbrev cX10_layStrokes : ByteArray := prog_12_method_51_code
def yX10_layStrokes : MethodName := ⟨RX10, "layStrokes", "()V"⟩
abbrev cX10_reaches : ByteArray := prog_12_method_52_code
def yX10_reaches : MethodName := ⟨RX10, "reaches", "(II)Z"⟩
abbrev cX10_grow : ByteArray := prog_12_method_53_code
def yX10_grow : MethodName := ⟨RX10, "grow", "(I)Z"⟩
abbrev cX10_turn : ByteArray := prog_12_method_54_code
def yX10_turn : MethodName := ⟨RX10, "turn", "(I)V"⟩
abbrev cX10_hands : ByteArray := prog_12_method_55_code
def yX10_hands : MethodName := ⟨RX10, "hands", "()I"⟩
abbrev cX10_tenTo : ByteArray := prog_12_method_56_code
def yX10_tenTo : MethodName := ⟨RX10, "tenTo", "(I)J"⟩
abbrev cX10_hold : ByteArray := prog_12_method_57_code
def yX10_hold : MethodName := ⟨RX10, "hold", "(Z)V"⟩
abbrev cX10_judge : ByteArray := prog_12_method_58_code
def yX10_judge : MethodName := ⟨RX10, "judge", "(IJ)I"⟩
abbrev cX10_hear : ByteArray := prog_12_method_59_code
def yX10_hear : MethodName := ⟨RX10, "hear", "(II)I"⟩
abbrev cX10_unhear : ByteArray := prog_12_method_60_code
def yX10_unhear : MethodName := ⟨RX10, "unhear", "()I"⟩
abbrev cX10_isHeard : ByteArray := prog_12_method_61_code
def yX10_isHeard : MethodName := ⟨RX10, "isHeard", "()Z"⟩
abbrev cX10_fit : ByteArray := prog_12_method_62_code
def yX10_fit : MethodName := ⟨RX10, "fit", "(I)I"⟩
abbrev cX10_common : ByteArray := prog_12_method_63_code
def yX10_common : MethodName := ⟨RX10, "common", "(II)I"⟩
abbrev cX10_likely : ByteArray := prog_12_method_64_code
def yX10_likely : MethodName := ⟨RX10, "likely", "(IZ)I"⟩
abbrev cX10_unwanted : ByteArray := prog_12_method_65_code
def yX10_unwanted : MethodName := ⟨RX10, "unwanted", "()I"⟩
abbrev cX10_gain : ByteArray := prog_12_method_66_code
def yX10_gain : MethodName := ⟨RX10, "gain", "(IIIZ)I"⟩
abbrev cX10_sealed : ByteArray := prog_12_method_67_code
def yX10_sealed : MethodName := ⟨RX10, "sealed", "(III)I"⟩
abbrev cX10_seed : ByteArray := prog_12_method_68_code
def yX10_seed : MethodName := ⟨RX10, "seed", "(J)J"⟩
abbrev cX10_day : ByteArray := prog_12_method_69_code
def yX10_day : MethodName := ⟨RX10, "day", "(I)I"⟩
abbrev cX10_keep : ByteArray := prog_12_method_70_code
def yX10_keep : MethodName := ⟨RX10, "keep", "(I)I"⟩
abbrev cX10_again : ByteArray := prog_12_method_71_code
def yX10_again : MethodName := ⟨RX10, "again", "(I)I"⟩
abbrev cX10_count : ByteArray := prog_12_method_72_code
def yX10_count : MethodName := ⟨RX10, "count", "(I)I"⟩
def RJ9 : String := "java/lang/Math"
def TJ9 : u_T := fun k => match k with
  | _ => ("", "", "", false)
def tyJ9 : Nat → FieldType := fun k => match k with
  | _ => .int
abbrev wsJ90 : List Cond := u_ws RJ9 TJ9 0
theorem nmJ9 : ∀ a, a < 0 → ∀ b, b < 0 → a ≠ b → (TJ9 a).2.1 ≠ (TJ9 b).2.1 := by decide +kernel
theorem tyJ9_ok : ∀ k, k < 0 → parseFieldDescriptor (TJ9 k).2.2.1 = some (tyJ9 k) := by decide +kernel
abbrev cJ9_abs_0f7a4 : ByteArray := prog_13_method_59_code
def yJ9_abs_0f7a4 : MethodName := ⟨RJ9, "abs", "(I)I"⟩
def RL : String := "BellSecondsLaw"
abbrev cL_law : ByteArray := code
def yL_law : MethodName := ⟨RL, "law", "([I)Z"⟩
abbrev vwCl : List vw_C := [(RX0, TX0, 3), (RX1, TX1, 2), (RX2, TX2, 11), (RX3, TX3, 3), (RX4, TX4, 6), (RX5, TX5, 7), (RX6, TX6, 2), (RX7, TX7, 2), (RX8, TX8, 14), (RX9, TX9, 13), (RX10, TX10, 44)]
