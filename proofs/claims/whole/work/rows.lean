section
-- ===== PART A: goes FIRST, ahead of the names: the tables' words, and 'selects' of the private methods out of them =====
/-- a private method of a class that the tables say can be made, by its rows of tables_1 -/
def lw_okq (q : MethodName × Nat) : Prop := (q.1.cls ≠ "java/lang/invoke/MethodHandle" ∧ q.1.cls ≠ "java/lang/invoke/VarHandle") ∧ Cond.instantiable q.1.cls q.2 ∈ tables_1 ∧ Cond.privateMethod q.1 ∈ tables_1 ∧ Cond.instanceMethod q.1 ∈ tables_1
theorem lw_p0 : lw_okq (⟨"BellSeconds$Text", "faultInPart", "(III)I"⟩, 2) := ⟨⟨by decide +kernel, by decide +kernel⟩, List.mem_of_getElem? (i := 22) (by decide +kernel), List.mem_of_getElem? (i := 347) (by decide +kernel), List.mem_of_getElem? (i := 348) (by decide +kernel)⟩
theorem lw_p1 : lw_okq (⟨"BellSeconds$Tower", "clear", "()V"⟩, 14) := ⟨⟨by decide +kernel, by decide +kernel⟩, List.mem_of_getElem? (i := 38) (by decide +kernel), List.mem_of_getElem? (i := 369) (by decide +kernel), List.mem_of_getElem? (i := 370) (by decide +kernel)⟩
theorem lw_p2 : lw_okq (⟨"BellSeconds$Tower", "layPlace", "(IIJI)V"⟩, 14) := ⟨⟨by decide +kernel, by decide +kernel⟩, List.mem_of_getElem? (i := 38) (by decide +kernel), List.mem_of_getElem? (i := 373) (by decide +kernel), List.mem_of_getElem? (i := 374) (by decide +kernel)⟩
theorem lw_p3 : lw_okq (⟨"BellSeconds$Tower", "addBell", "(II)V"⟩, 14) := ⟨⟨by decide +kernel, by decide +kernel⟩, List.mem_of_getElem? (i := 38) (by decide +kernel), List.mem_of_getElem? (i := 379) (by decide +kernel), List.mem_of_getElem? (i := 380) (by decide +kernel)⟩
theorem lw_p4 : lw_okq (⟨"BellSeconds$Tower", "addBidder", "(ILBellSeconds$Text;I)V"⟩, 14) := ⟨⟨by decide +kernel, by decide +kernel⟩, List.mem_of_getElem? (i := 38) (by decide +kernel), List.mem_of_getElem? (i := 383) (by decide +kernel), List.mem_of_getElem? (i := 384) (by decide +kernel)⟩
theorem lw_p5 : lw_okq (⟨"BellSeconds$Tower", "layPeal", "(I)V"⟩, 14) := ⟨⟨by decide +kernel, by decide +kernel⟩, List.mem_of_getElem? (i := 38) (by decide +kernel), List.mem_of_getElem? (i := 387) (by decide +kernel), List.mem_of_getElem? (i := 388) (by decide +kernel)⟩
theorem lw_p6 : lw_okq (⟨"BellSeconds", "act", "(II)V"⟩, 13) := ⟨⟨by decide +kernel, by decide +kernel⟩, List.mem_of_getElem? (i := 14) (by decide +kernel), List.mem_of_getElem? (i := 495) (by decide +kernel), List.mem_of_getElem? (i := 496) (by decide +kernel)⟩
theorem lw_p7 : lw_okq (⟨"BellSeconds$Acts", "forgetFirst", "()V"⟩, 3) := ⟨⟨by decide +kernel, by decide +kernel⟩, List.mem_of_getElem? (i := 136) (by decide +kernel), List.mem_of_getElem? (i := 504) (by decide +kernel), List.mem_of_getElem? (i := 505) (by decide +kernel)⟩
theorem lw_p8 : lw_okq (⟨"BellSeconds$Letting", "weigh", "(IZ)V"⟩, 6) := ⟨⟨by decide +kernel, by decide +kernel⟩, List.mem_of_getElem? (i := 153) (by decide +kernel), List.mem_of_getElem? (i := 554) (by decide +kernel), List.mem_of_getElem? (i := 555) (by decide +kernel)⟩
theorem lw_p9 : lw_okq (⟨"BellSeconds$Letting", "search", "(JII)I"⟩, 6) := ⟨⟨by decide +kernel, by decide +kernel⟩, List.mem_of_getElem? (i := 153) (by decide +kernel), List.mem_of_getElem? (i := 559) (by decide +kernel), List.mem_of_getElem? (i := 560) (by decide +kernel)⟩
theorem lw_p10 : lw_okq (⟨"BellSeconds$Letting", "walk", "(IIJII)V"⟩, 6) := ⟨⟨by decide +kernel, by decide +kernel⟩, List.mem_of_getElem? (i := 153) (by decide +kernel), List.mem_of_getElem? (i := 563) (by decide +kernel), List.mem_of_getElem? (i := 564) (by decide +kernel)⟩
theorem lw_p11 : lw_okq (⟨"BellSeconds$Ringers", "addStrokes", "(II)V"⟩, 7) := ⟨⟨by decide +kernel, by decide +kernel⟩, List.mem_of_getElem? (i := 242) (by decide +kernel), List.mem_of_getElem? (i := 623) (by decide +kernel), List.mem_of_getElem? (i := 624) (by decide +kernel)⟩
theorem lw_p12 : lw_okq (⟨"BellSeconds$Ringers", "goesOn", "(II)Z"⟩, 7) := ⟨⟨by decide +kernel, by decide +kernel⟩, List.mem_of_getElem? (i := 242) (by decide +kernel), List.mem_of_getElem? (i := 628) (by decide +kernel), List.mem_of_getElem? (i := 629) (by decide +kernel)⟩
theorem lw_p13 : lw_okq (⟨"BellSeconds$Ringers", "isInTime", "(II)Z"⟩, 7) := ⟨⟨by decide +kernel, by decide +kernel⟩, List.mem_of_getElem? (i := 242) (by decide +kernel), List.mem_of_getElem? (i := 632) (by decide +kernel), List.mem_of_getElem? (i := 633) (by decide +kernel)⟩
theorem lw_p14 : lw_okq (⟨"BellSeconds", "firstThatCanNotBe", "(I)I"⟩, 13) := ⟨⟨by decide +kernel, by decide +kernel⟩, List.mem_of_getElem? (i := 14) (by decide +kernel), List.mem_of_getElem? (i := 644) (by decide +kernel), List.mem_of_getElem? (i := 645) (by decide +kernel)⟩
theorem lw_p15 : lw_okq (⟨"BellSeconds$Fitting", "areQuiets", "(I)Z"⟩, 11) := ⟨⟨by decide +kernel, by decide +kernel⟩, List.mem_of_getElem? (i := 198) (by decide +kernel), List.mem_of_getElem? (i := 687) (by decide +kernel), List.mem_of_getElem? (i := 688) (by decide +kernel)⟩
def lw_privs_1 : List (MethodName × Nat) := [(⟨"BellSeconds$Text", "faultInPart", "(III)I"⟩, 2), (⟨"BellSeconds$Tower", "clear", "()V"⟩, 14), (⟨"BellSeconds$Tower", "layPlace", "(IIJI)V"⟩, 14), (⟨"BellSeconds$Tower", "addBell", "(II)V"⟩, 14), (⟨"BellSeconds$Tower", "addBidder", "(ILBellSeconds$Text;I)V"⟩, 14), (⟨"BellSeconds$Tower", "layPeal", "(I)V"⟩, 14), (⟨"BellSeconds", "act", "(II)V"⟩, 13), (⟨"BellSeconds$Acts", "forgetFirst", "()V"⟩, 3), (⟨"BellSeconds$Letting", "weigh", "(IZ)V"⟩, 6), (⟨"BellSeconds$Letting", "search", "(JII)I"⟩, 6), (⟨"BellSeconds$Letting", "walk", "(IIJII)V"⟩, 6), (⟨"BellSeconds$Ringers", "addStrokes", "(II)V"⟩, 7), (⟨"BellSeconds$Ringers", "goesOn", "(II)Z"⟩, 7), (⟨"BellSeconds$Ringers", "isInTime", "(II)Z"⟩, 7), (⟨"BellSeconds", "firstThatCanNotBe", "(I)I"⟩, 13), (⟨"BellSeconds$Fitting", "areQuiets", "(I)Z"⟩, 11)]
theorem lw_r1 : ∀ q ∈ lw_privs_1, lw_okq q := List.forall_mem_cons.mpr ⟨lw_p0, List.forall_mem_cons.mpr ⟨lw_p1, List.forall_mem_cons.mpr ⟨lw_p2, List.forall_mem_cons.mpr ⟨lw_p3, List.forall_mem_cons.mpr ⟨lw_p4, List.forall_mem_cons.mpr ⟨lw_p5, List.forall_mem_cons.mpr ⟨lw_p6, List.forall_mem_cons.mpr ⟨lw_p7, List.forall_mem_cons.mpr ⟨lw_p8, List.forall_mem_cons.mpr ⟨lw_p9, List.forall_mem_cons.mpr ⟨lw_p10, List.forall_mem_cons.mpr ⟨lw_p11, List.forall_mem_cons.mpr ⟨lw_p12, List.forall_mem_cons.mpr ⟨lw_p13, List.forall_mem_cons.mpr ⟨lw_p14, List.forall_mem_cons.mpr ⟨lw_p15, fun _ h => absurd h List.not_mem_nil⟩⟩⟩⟩⟩⟩⟩⟩⟩⟩⟩⟩⟩⟩⟩⟩
theorem lw_p16 : lw_okq (⟨"BellSeconds$Fitting", "tallyBeside", "(II)V"⟩, 11) := ⟨⟨by decide +kernel, by decide +kernel⟩, List.mem_of_getElem? (i := 198) (by decide +kernel), List.mem_of_getElem? (i := 696) (by decide +kernel), List.mem_of_getElem? (i := 697) (by decide +kernel)⟩
theorem lw_p17 : lw_okq (⟨"BellSeconds$Fitting", "tallyBell", "(II)V"⟩, 11) := ⟨⟨by decide +kernel, by decide +kernel⟩, List.mem_of_getElem? (i := 198) (by decide +kernel), List.mem_of_getElem? (i := 701) (by decide +kernel), List.mem_of_getElem? (i := 702) (by decide +kernel)⟩
theorem lw_p18 : lw_okq (⟨"BellSeconds$Fitting", "walk", "(IIJIII)V"⟩, 11) := ⟨⟨by decide +kernel, by decide +kernel⟩, List.mem_of_getElem? (i := 198) (by decide +kernel), List.mem_of_getElem? (i := 705) (by decide +kernel), List.mem_of_getElem? (i := 706) (by decide +kernel)⟩
theorem lw_p19 : lw_okq (⟨"BellSeconds$Fitting", "tallyDay", "(III)V"⟩, 11) := ⟨⟨by decide +kernel, by decide +kernel⟩, List.mem_of_getElem? (i := 198) (by decide +kernel), List.mem_of_getElem? (i := 709) (by decide +kernel), List.mem_of_getElem? (i := 710) (by decide +kernel)⟩
theorem lw_p20 : lw_okq (⟨"BellSeconds", "slotOf", "(I)LBellSeconds$Slot;"⟩, 13) := ⟨⟨by decide +kernel, by decide +kernel⟩, List.mem_of_getElem? (i := 14) (by decide +kernel), List.mem_of_getElem? (i := 770) (by decide +kernel), List.mem_of_getElem? (i := 771) (by decide +kernel)⟩
theorem lw_p21 : lw_okq (⟨"BellSecondsModel", "readText", "()I"⟩, 44) := ⟨⟨by decide +kernel, by decide +kernel⟩, List.mem_of_getElem? (i := 789) (by decide +kernel), List.mem_of_getElem? (i := 945) (by decide +kernel), List.mem_of_getElem? (i := 946) (by decide +kernel)⟩
theorem lw_p22 : lw_okq (⟨"BellSecondsModel", "readPart", "(I)V"⟩, 44) := ⟨⟨by decide +kernel, by decide +kernel⟩, List.mem_of_getElem? (i := 789) (by decide +kernel), List.mem_of_getElem? (i := 949) (by decide +kernel), List.mem_of_getElem? (i := 950) (by decide +kernel)⟩
theorem lw_p23 : lw_okq (⟨"BellSecondsModel", "figure", "(II)I"⟩, 44) := ⟨⟨by decide +kernel, by decide +kernel⟩, List.mem_of_getElem? (i := 789) (by decide +kernel), List.mem_of_getElem? (i := 953) (by decide +kernel), List.mem_of_getElem? (i := 954) (by decide +kernel)⟩
theorem lw_p24 : lw_okq (⟨"BellSecondsModel", "readSpan", "(I)V"⟩, 44) := ⟨⟨by decide +kernel, by decide +kernel⟩, List.mem_of_getElem? (i := 789) (by decide +kernel), List.mem_of_getElem? (i := 957) (by decide +kernel), List.mem_of_getElem? (i := 958) (by decide +kernel)⟩
theorem lw_p25 : lw_okq (⟨"BellSecondsModel", "isBell", "(I)Z"⟩, 44) := ⟨⟨by decide +kernel, by decide +kernel⟩, List.mem_of_getElem? (i := 789) (by decide +kernel), List.mem_of_getElem? (i := 969) (by decide +kernel), List.mem_of_getElem? (i := 970) (by decide +kernel)⟩
theorem lw_p26 : lw_okq (⟨"BellSecondsModel", "ringing", "(I)I"⟩, 44) := ⟨⟨by decide +kernel, by decide +kernel⟩, List.mem_of_getElem? (i := 789) (by decide +kernel), List.mem_of_getElem? (i := 973) (by decide +kernel), List.mem_of_getElem? (i := 974) (by decide +kernel)⟩
theorem lw_p27 : lw_okq (⟨"BellSecondsModel", "isQuiet", "(I)Z"⟩, 44) := ⟨⟨by decide +kernel, by decide +kernel⟩, List.mem_of_getElem? (i := 789) (by decide +kernel), List.mem_of_getElem? (i := 977) (by decide +kernel), List.mem_of_getElem? (i := 978) (by decide +kernel)⟩
theorem lw_p28 : lw_okq (⟨"BellSecondsModel", "seconds", "(IIZ)I"⟩, 44) := ⟨⟨by decide +kernel, by decide +kernel⟩, List.mem_of_getElem? (i := 789) (by decide +kernel), List.mem_of_getElem? (i := 981) (by decide +kernel), List.mem_of_getElem? (i := 982) (by decide +kernel)⟩
theorem lw_p29 : lw_okq (⟨"BellSecondsModel", "strokeAt", "(III)I"⟩, 44) := ⟨⟨by decide +kernel, by decide +kernel⟩, List.mem_of_getElem? (i := 789) (by decide +kernel), List.mem_of_getElem? (i := 988) (by decide +kernel), List.mem_of_getElem? (i := 989) (by decide +kernel)⟩
theorem lw_p30 : lw_okq (⟨"BellSecondsModel", "isBidder", "(I)Z"⟩, 44) := ⟨⟨by decide +kernel, by decide +kernel⟩, List.mem_of_getElem? (i := 789) (by decide +kernel), List.mem_of_getElem? (i := 996) (by decide +kernel), List.mem_of_getElem? (i := 997) (by decide +kernel)⟩
theorem lw_p31 : lw_okq (⟨"BellSecondsModel", "begins", "(I)I"⟩, 44) := ⟨⟨by decide +kernel, by decide +kernel⟩, List.mem_of_getElem? (i := 789) (by decide +kernel), List.mem_of_getElem? (i := 1001) (by decide +kernel), List.mem_of_getElem? (i := 1002) (by decide +kernel)⟩
def lw_privs_2 : List (MethodName × Nat) := [(⟨"BellSeconds$Fitting", "tallyBeside", "(II)V"⟩, 11), (⟨"BellSeconds$Fitting", "tallyBell", "(II)V"⟩, 11), (⟨"BellSeconds$Fitting", "walk", "(IIJIII)V"⟩, 11), (⟨"BellSeconds$Fitting", "tallyDay", "(III)V"⟩, 11), (⟨"BellSeconds", "slotOf", "(I)LBellSeconds$Slot;"⟩, 13), (⟨"BellSecondsModel", "readText", "()I"⟩, 44), (⟨"BellSecondsModel", "readPart", "(I)V"⟩, 44), (⟨"BellSecondsModel", "figure", "(II)I"⟩, 44), (⟨"BellSecondsModel", "readSpan", "(I)V"⟩, 44), (⟨"BellSecondsModel", "isBell", "(I)Z"⟩, 44), (⟨"BellSecondsModel", "ringing", "(I)I"⟩, 44), (⟨"BellSecondsModel", "isQuiet", "(I)Z"⟩, 44), (⟨"BellSecondsModel", "seconds", "(IIZ)I"⟩, 44), (⟨"BellSecondsModel", "strokeAt", "(III)I"⟩, 44), (⟨"BellSecondsModel", "isBidder", "(I)Z"⟩, 44), (⟨"BellSecondsModel", "begins", "(I)I"⟩, 44)]
theorem lw_r2 : ∀ q ∈ lw_privs_2, lw_okq q := List.forall_mem_cons.mpr ⟨lw_p16, List.forall_mem_cons.mpr ⟨lw_p17, List.forall_mem_cons.mpr ⟨lw_p18, List.forall_mem_cons.mpr ⟨lw_p19, List.forall_mem_cons.mpr ⟨lw_p20, List.forall_mem_cons.mpr ⟨lw_p21, List.forall_mem_cons.mpr ⟨lw_p22, List.forall_mem_cons.mpr ⟨lw_p23, List.forall_mem_cons.mpr ⟨lw_p24, List.forall_mem_cons.mpr ⟨lw_p25, List.forall_mem_cons.mpr ⟨lw_p26, List.forall_mem_cons.mpr ⟨lw_p27, List.forall_mem_cons.mpr ⟨lw_p28, List.forall_mem_cons.mpr ⟨lw_p29, List.forall_mem_cons.mpr ⟨lw_p30, List.forall_mem_cons.mpr ⟨lw_p31, fun _ h => absurd h List.not_mem_nil⟩⟩⟩⟩⟩⟩⟩⟩⟩⟩⟩⟩⟩⟩⟩⟩
theorem lw_p32 : lw_okq (⟨"BellSecondsModel", "mayBegin", "(II)Z"⟩, 44) := ⟨⟨by decide +kernel, by decide +kernel⟩, List.mem_of_getElem? (i := 789) (by decide +kernel), List.mem_of_getElem? (i := 1005) (by decide +kernel), List.mem_of_getElem? (i := 1006) (by decide +kernel)⟩
theorem lw_p33 : lw_okq (⟨"BellSecondsModel", "clashesOf", "(II)I"⟩, 44) := ⟨⟨by decide +kernel, by decide +kernel⟩, List.mem_of_getElem? (i := 789) (by decide +kernel), List.mem_of_getElem? (i := 1021) (by decide +kernel), List.mem_of_getElem? (i := 1022) (by decide +kernel)⟩
theorem lw_p34 : lw_okq (⟨"BellSecondsModel", "clash", "(IIII)Z"⟩, 44) := ⟨⟨by decide +kernel, by decide +kernel⟩, List.mem_of_getElem? (i := 789) (by decide +kernel), List.mem_of_getElem? (i := 1025) (by decide +kernel), List.mem_of_getElem? (i := 1026) (by decide +kernel)⟩
theorem lw_p35 : lw_okq (⟨"BellSecondsModel", "canBe", "(II)Z"⟩, 44) := ⟨⟨by decide +kernel, by decide +kernel⟩, List.mem_of_getElem? (i := 789) (by decide +kernel), List.mem_of_getElem? (i := 1033) (by decide +kernel), List.mem_of_getElem? (i := 1034) (by decide +kernel)⟩
theorem lw_p36 : lw_okq (⟨"BellSecondsModel", "keepAct", "()V"⟩, 44) := ⟨⟨by decide +kernel, by decide +kernel⟩, List.mem_of_getElem? (i := 789) (by decide +kernel), List.mem_of_getElem? (i := 1037) (by decide +kernel), List.mem_of_getElem? (i := 1038) (by decide +kernel)⟩
theorem lw_p37 : lw_okq (⟨"BellSecondsModel", "letNow", "()I"⟩, 44) := ⟨⟨by decide +kernel, by decide +kernel⟩, List.mem_of_getElem? (i := 789) (by decide +kernel), List.mem_of_getElem? (i := 1041) (by decide +kernel), List.mem_of_getElem? (i := 1042) (by decide +kernel)⟩
theorem lw_p38 : lw_okq (⟨"BellSecondsModel", "coinsOf", "(I)I"⟩, 44) := ⟨⟨by decide +kernel, by decide +kernel⟩, List.mem_of_getElem? (i := 789) (by decide +kernel), List.mem_of_getElem? (i := 1045) (by decide +kernel), List.mem_of_getElem? (i := 1046) (by decide +kernel)⟩
theorem lw_p39 : lw_okq (⟨"BellSecondsModel", "goThrough", "(Z)V"⟩, 44) := ⟨⟨by decide +kernel, by decide +kernel⟩, List.mem_of_getElem? (i := 789) (by decide +kernel), List.mem_of_getElem? (i := 1065) (by decide +kernel), List.mem_of_getElem? (i := 1066) (by decide +kernel)⟩
theorem lw_p40 : lw_okq (⟨"BellSecondsModel", "layTables", "()V"⟩, 44) := ⟨⟨by decide +kernel, by decide +kernel⟩, List.mem_of_getElem? (i := 789) (by decide +kernel), List.mem_of_getElem? (i := 1069) (by decide +kernel), List.mem_of_getElem? (i := 1070) (by decide +kernel)⟩
theorem lw_p41 : lw_okq (⟨"BellSecondsModel", "lookAt", "()V"⟩, 44) := ⟨⟨by decide +kernel, by decide +kernel⟩, List.mem_of_getElem? (i := 789) (by decide +kernel), List.mem_of_getElem? (i := 1073) (by decide +kernel), List.mem_of_getElem? (i := 1074) (by decide +kernel)⟩
theorem lw_p42 : lw_okq (⟨"BellSecondsModel", "dayLet", "()I"⟩, 44) := ⟨⟨by decide +kernel, by decide +kernel⟩, List.mem_of_getElem? (i := 789) (by decide +kernel), List.mem_of_getElem? (i := 1077) (by decide +kernel), List.mem_of_getElem? (i := 1078) (by decide +kernel)⟩
theorem lw_p43 : lw_okq (⟨"BellSecondsModel", "layBells", "()V"⟩, 44) := ⟨⟨by decide +kernel, by decide +kernel⟩, List.mem_of_getElem? (i := 789) (by decide +kernel), List.mem_of_getElem? (i := 1081) (by decide +kernel), List.mem_of_getElem? (i := 1082) (by decide +kernel)⟩
theorem lw_p44 : lw_okq (⟨"BellSecondsModel", "isHeard", "()Z"⟩, 44) := ⟨⟨by decide +kernel, by decide +kernel⟩, List.mem_of_getElem? (i := 789) (by decide +kernel), List.mem_of_getElem? (i := 1085) (by decide +kernel), List.mem_of_getElem? (i := 1086) (by decide +kernel)⟩
theorem lw_p45 : lw_okq (⟨"BellSecondsModel", "mayHave", "(IZ)Z"⟩, 44) := ⟨⟨by decide +kernel, by decide +kernel⟩, List.mem_of_getElem? (i := 789) (by decide +kernel), List.mem_of_getElem? (i := 1089) (by decide +kernel), List.mem_of_getElem? (i := 1090) (by decide +kernel)⟩
theorem lw_p46 : lw_okq (⟨"BellSecondsModel", "clashAt", "(IIII)Z"⟩, 44) := ⟨⟨by decide +kernel, by decide +kernel⟩, List.mem_of_getElem? (i := 789) (by decide +kernel), List.mem_of_getElem? (i := 1093) (by decide +kernel), List.mem_of_getElem? (i := 1094) (by decide +kernel)⟩
theorem lw_p47 : lw_okq (⟨"BellSecondsModel", "bestOfSet", "(I)I"⟩, 44) := ⟨⟨by decide +kernel, by decide +kernel⟩, List.mem_of_getElem? (i := 789) (by decide +kernel), List.mem_of_getElem? (i := 1097) (by decide +kernel), List.mem_of_getElem? (i := 1098) (by decide +kernel)⟩
def lw_privs_3 : List (MethodName × Nat) := [(⟨"BellSecondsModel", "mayBegin", "(II)Z"⟩, 44), (⟨"BellSecondsModel", "clashesOf", "(II)I"⟩, 44), (⟨"BellSecondsModel", "clash", "(IIII)Z"⟩, 44), (⟨"BellSecondsModel", "canBe", "(II)Z"⟩, 44), (⟨"BellSecondsModel", "keepAct", "()V"⟩, 44), (⟨"BellSecondsModel", "letNow", "()I"⟩, 44), (⟨"BellSecondsModel", "coinsOf", "(I)I"⟩, 44), (⟨"BellSecondsModel", "goThrough", "(Z)V"⟩, 44), (⟨"BellSecondsModel", "layTables", "()V"⟩, 44), (⟨"BellSecondsModel", "lookAt", "()V"⟩, 44), (⟨"BellSecondsModel", "dayLet", "()I"⟩, 44), (⟨"BellSecondsModel", "layBells", "()V"⟩, 44), (⟨"BellSecondsModel", "isHeard", "()Z"⟩, 44), (⟨"BellSecondsModel", "mayHave", "(IZ)Z"⟩, 44), (⟨"BellSecondsModel", "clashAt", "(IIII)Z"⟩, 44), (⟨"BellSecondsModel", "bestOfSet", "(I)I"⟩, 44)]
theorem lw_r3 : ∀ q ∈ lw_privs_3, lw_okq q := List.forall_mem_cons.mpr ⟨lw_p32, List.forall_mem_cons.mpr ⟨lw_p33, List.forall_mem_cons.mpr ⟨lw_p34, List.forall_mem_cons.mpr ⟨lw_p35, List.forall_mem_cons.mpr ⟨lw_p36, List.forall_mem_cons.mpr ⟨lw_p37, List.forall_mem_cons.mpr ⟨lw_p38, List.forall_mem_cons.mpr ⟨lw_p39, List.forall_mem_cons.mpr ⟨lw_p40, List.forall_mem_cons.mpr ⟨lw_p41, List.forall_mem_cons.mpr ⟨lw_p42, List.forall_mem_cons.mpr ⟨lw_p43, List.forall_mem_cons.mpr ⟨lw_p44, List.forall_mem_cons.mpr ⟨lw_p45, List.forall_mem_cons.mpr ⟨lw_p46, List.forall_mem_cons.mpr ⟨lw_p47, fun _ h => absurd h List.not_mem_nil⟩⟩⟩⟩⟩⟩⟩⟩⟩⟩⟩⟩⟩⟩⟩⟩
theorem lw_p48 : lw_okq (⟨"BellSecondsModel", "layStrokes", "()V"⟩, 44) := ⟨⟨by decide +kernel, by decide +kernel⟩, List.mem_of_getElem? (i := 789) (by decide +kernel), List.mem_of_getElem? (i := 1128) (by decide +kernel), List.mem_of_getElem? (i := 1129) (by decide +kernel)⟩
theorem lw_p49 : lw_okq (⟨"BellSecondsModel", "grow", "(I)Z"⟩, 44) := ⟨⟨by decide +kernel, by decide +kernel⟩, List.mem_of_getElem? (i := 789) (by decide +kernel), List.mem_of_getElem? (i := 1132) (by decide +kernel), List.mem_of_getElem? (i := 1133) (by decide +kernel)⟩
theorem lw_p50 : lw_okq (⟨"BellSecondsModel", "reaches", "(II)Z"⟩, 44) := ⟨⟨by decide +kernel, by decide +kernel⟩, List.mem_of_getElem? (i := 789) (by decide +kernel), List.mem_of_getElem? (i := 1136) (by decide +kernel), List.mem_of_getElem? (i := 1137) (by decide +kernel)⟩
theorem lw_p51 : lw_okq (⟨"BellSecondsModel", "turn", "(I)V"⟩, 44) := ⟨⟨by decide +kernel, by decide +kernel⟩, List.mem_of_getElem? (i := 789) (by decide +kernel), List.mem_of_getElem? (i := 1140) (by decide +kernel), List.mem_of_getElem? (i := 1141) (by decide +kernel)⟩
theorem lw_p52 : lw_okq (⟨"BellSecondsModel", "hold", "(Z)V"⟩, 44) := ⟨⟨by decide +kernel, by decide +kernel⟩, List.mem_of_getElem? (i := 789) (by decide +kernel), List.mem_of_getElem? (i := 1152) (by decide +kernel), List.mem_of_getElem? (i := 1153) (by decide +kernel)⟩
def lw_privs_4 : List (MethodName × Nat) := [(⟨"BellSecondsModel", "layStrokes", "()V"⟩, 44), (⟨"BellSecondsModel", "grow", "(I)Z"⟩, 44), (⟨"BellSecondsModel", "reaches", "(II)Z"⟩, 44), (⟨"BellSecondsModel", "turn", "(I)V"⟩, 44), (⟨"BellSecondsModel", "hold", "(Z)V"⟩, 44)]
theorem lw_r4 : ∀ q ∈ lw_privs_4, lw_okq q := List.forall_mem_cons.mpr ⟨lw_p48, List.forall_mem_cons.mpr ⟨lw_p49, List.forall_mem_cons.mpr ⟨lw_p50, List.forall_mem_cons.mpr ⟨lw_p51, List.forall_mem_cons.mpr ⟨lw_p52, fun _ h => absurd h List.not_mem_nil⟩⟩⟩⟩⟩
def lw_privs : List (MethodName × Nat) := lw_privs_1 ++ (lw_privs_2 ++ (lw_privs_3 ++ (lw_privs_4)))
def lw_tbl : List Cond := k2_sels lw_privs ++ tables_1
theorem lw_privs_ok : ∀ q ∈ lw_privs, lw_okq q := by
  show ∀ q ∈ lw_privs_1 ++ (lw_privs_2 ++ (lw_privs_3 ++ (lw_privs_4))), lw_okq q
  exact List.forall_mem_append.mpr ⟨lw_r1, List.forall_mem_append.mpr ⟨lw_r2, List.forall_mem_append.mpr ⟨lw_r3, lw_r4⟩⟩⟩
-- ===== end of PART A; then your names; then what follows =====
/-! THE CLAIM OUT OF ONE WALK OF THE LAW'S BODY. Your part is whole_start (and what it stands on); all else here is the same for every law, but numbers. -/
def R_law : String := "BellSecondsLaw"
def lw_P (b : Addr) (xs : List Int32) (args : Array Value) (s : State) : Prop := args = #[.ref b] ∧ s.IntsAt b xs ∧ xs.length ≤ 2048 ∧ (Jvm.Cond.and given_1 narrow_1).before args s = true
def lw_Q (_ : Array Value) (s : State) (o : Outcome) (t : State) : Prop := o = .returned (some (.int 1)) ∧ Framed s o t [] 600000 7302250
def lw_Z (below : List Frame) (a : Array Value) (s : State) : State → Prop := fun t => ∃ o, t.status = .running ∧ Ended t below o ∧ lw_Q a s o t
/-- the law's own end, with 1 on the stack, nothing written that was there before, its room as the claim has it -/
theorem lw_ret {p : Program} {l : Launch} {e : Env} {s : State} {m : MethodId} {below : List Frame} {meth : Method} {c : Code} {b : Nat} (hx : p.tables.exec = Jvm.exec) (hb : c.code = code) (hr : meth.sig.returnType = ret) (hlocks : meth.locks = false) {pc : Nat} {H : Heap} {ls : Array Slot} (hdg : decode code pc = .ok (.ireturn, 1)) : W p l e room_1 s m #[Value.ref b] below meth c H [] 600000 7302250 (lw_Z below #[Value.ref b] s) (F0 m pc ls [.int 1]) := by
  intro T hT X
  obtain ⟨fs, hret, hrun, hended, hW, hframe⟩ := X.leave (v := some (.int 1)) (hlocks := hlocks) (fun h => by rw [hr] at h; cases h)
  have hmeth' : T.vm.method? m = some meth := X.method'
  refine ⟨T.setFrames fs, ?_, .returned (some (.int 1)), hrun, hended, rfl, ⟨_, rfl⟩, hW, hframe⟩
  jvm_step X.here [X.here.top, hx, hb, hdg, hmeth', hr, ret, narrow_b1]
  (try refine ⟨rfl, ?_⟩); (try refine ⟨rfl, ?_⟩)
  first | (intro acts; rw [hret _ acts rfl rfl rfl]) | rw [hret _ _ rfl rfl rfl]
  exact Steps.refl _
/-- what holds at the law's entry: the machine, the code, the tables' words (any of lw_tbl by 'hts w (by decide +kernel)'), the script of L ints xs at the cell b, what the Statement gives of the start (any of its parts by flat_of_before) -/
def lw_At (p : Program) (s : State) (m : MethodId) (meth : Method) (c : Code) (b L : Nat) (xs : Nat → Int32) : Prop :=
  p.tables.exec = Jvm.exec ∧ c.code = code ∧ meth.sig.returnType = ret ∧ c.maxLocals = 4 ∧ s.vm.findClass R_law = some m.cls ∧ (∀ w ∈ lw_tbl, w.before #[Value.ref b] s = true) ∧ va_X b L xs s s.heap ∧ b < s.heap.size ∧ meth.locks = false ∧ (Jvm.Cond.and given_1 narrow_1).before #[Value.ref b] s = true
def RX0 : String := "BellSeconds$Acts"
def TX0 : u_T := fun k => match k with
  | 0 => ("BellSeconds$Acts", "who", "[I", true)
  | 1 => ("BellSeconds$Acts", "was", "[I", true)
  | _ => ("BellSeconds$Acts", "size", "I", false)
def tyX0 : Nat → FieldType := fun k => match k with
  | 0 => .array .int
  | 1 => .array .int
  | _ => .int
abbrev wsX00 : List Cond := u_ws RX0 TX0 3
theorem nmX0 : ∀ a, a < 3 → ∀ b, b < 3 → a ≠ b → (TX0 a).2.1 ≠ (TX0 b).2.1 := by decide +kernel
theorem tyX0_ok : ∀ k, k < 3 → parseFieldDescriptor (TX0 k).2.2.1 = some (tyX0 k) := by decide +kernel
abbrev cX0_init : ByteArray := prog_2_method_1_code
def yX0_init : MethodName := ⟨RX0, "<init>", "()V"⟩
abbrev cX0_clear : ByteArray := prog_2_method_2_code
def yX0_clear : MethodName := ⟨RX0, "clear", "()V"⟩
abbrev cX0_append : ByteArray := prog_2_method_3_code
def yX0_append : MethodName := ⟨RX0, "append", "(II)V"⟩
abbrev cX0_forgetFirst : ByteArray := prog_2_method_4_code
def yX0_forgetFirst : MethodName := ⟨RX0, "forgetFirst", "()V"⟩
abbrev cX0_takeBack : ByteArray := prog_2_method_5_code
def yX0_takeBack : MethodName := ⟨RX0, "takeBack", "(LBellSeconds$Day;)V"⟩
def RX1 : String := "BellSeconds$Day"
def TX1 : u_T := fun k => match k with
  | 0 => ("BellSeconds$Day", "tower", "LBellSeconds$Tower;", true)
  | _ => ("BellSeconds$Day", "told", "[I", true)
def tyX1 : Nat → FieldType := fun k => match k with
  | 0 => .object "BellSeconds$Tower"
  | _ => .array .int
abbrev wsX10 : List Cond := u_ws RX1 TX1 2
theorem nmX1 : ∀ a, a < 2 → ∀ b, b < 2 → a ≠ b → (TX1 a).2.1 ≠ (TX1 b).2.1 := by decide +kernel
theorem tyX1_ok : ∀ k, k < 2 → parseFieldDescriptor (TX1 k).2.2.1 = some (tyX1 k) := by decide +kernel
abbrev cX1_init : ByteArray := prog_3_method_1_code
def yX1_init : MethodName := ⟨RX1, "<init>", "(LBellSeconds$Tower;)V"⟩
abbrev cX1_clear : ByteArray := prog_3_method_2_code
def yX1_clear : MethodName := ⟨RX1, "clear", "()V"⟩
abbrev cX1_copy : ByteArray := prog_3_method_3_code
def yX1_copy : MethodName := ⟨RX1, "copy", "(LBellSeconds$Day;)V"⟩
abbrev cX1_tell : ByteArray := prog_3_method_4_code
def yX1_tell : MethodName := ⟨RX1, "tell", "(II)V"⟩
abbrev cX1_toldOf : ByteArray := prog_3_method_5_code
def yX1_toldOf : MethodName := ⟨RX1, "toldOf", "(I)I"⟩
abbrev cX1_isLet : ByteArray := prog_3_method_6_code
def yX1_isLet : MethodName := ⟨RX1, "isLet", "(I)Z"⟩
abbrev cX1_secondOf : ByteArray := prog_3_method_7_code
def yX1_secondOf : MethodName := ⟨RX1, "secondOf", "(I)I"⟩
abbrev cX1_everyoneLet : ByteArray := prog_3_method_8_code
def yX1_everyoneLet : MethodName := ⟨RX1, "everyoneLet", "()I"⟩
abbrev cX1_worth : ByteArray := prog_3_method_9_code
def yX1_worth : MethodName := ⟨RX1, "worth", "()I"⟩
abbrev cX1_worthOf : ByteArray := prog_3_method_10_code
def yX1_worthOf : MethodName := ⟨RX1, "worthOf", "(I)I"⟩
abbrev cX1_ringing : ByteArray := prog_3_method_11_code
def yX1_ringing : MethodName := ⟨RX1, "ringing", "()I"⟩
abbrev cX1_clashing : ByteArray := prog_3_method_12_code
def yX1_clashing : MethodName := ⟨RX1, "clashing", "(II)I"⟩
abbrev cX1_fits : ByteArray := prog_3_method_13_code
def yX1_fits : MethodName := ⟨RX1, "fits", "(II)Z"⟩
abbrev cX1_letIfCan : ByteArray := prog_3_method_14_code
def yX1_letIfCan : MethodName := ⟨RX1, "letIfCan", "(II)Z"⟩
abbrev cX1_cheapestBegin : ByteArray := prog_3_method_15_code
def yX1_cheapestBegin : MethodName := ⟨RX1, "cheapestBegin", "(I)I"⟩
def RX2 : String := "BellSeconds$Fitting"
def TX2 : u_T := fun k => match k with
  | 0 => ("BellSeconds$Fitting", "tower", "LBellSeconds$Tower;", true)
  | 1 => ("BellSeconds$Fitting", "days", "I", false)
  | 2 => ("BellSeconds$Fitting", "silentDays", "I", false)
  | 3 => ("BellSeconds$Fitting", "inAll", "I", false)
  | 4 => ("BellSeconds$Fitting", "inSome", "I", false)
  | 5 => ("BellSeconds$Fitting", "must", "I", false)
  | 6 => ("BellSeconds$Fitting", "asked", "I", false)
  | 7 => ("BellSeconds$Fitting", "bellDays", "I", false)
  | 8 => ("BellSeconds$Fitting", "bellSilentDays", "I", false)
  | 9 => ("BellSeconds$Fitting", "bellInAll", "I", false)
  | _ => ("BellSeconds$Fitting", "bellInSome", "I", false)
def tyX2 : Nat → FieldType := fun k => match k with
  | 0 => .object "BellSeconds$Tower"
  | 1 => .int
  | 2 => .int
  | 3 => .int
  | 4 => .int
  | 5 => .int
  | 6 => .int
  | 7 => .int
  | 8 => .int
  | 9 => .int
  | _ => .int
abbrev wsX20 : List Cond := u_ws RX2 TX2 11
theorem nmX2 : ∀ a, a < 11 → ∀ b, b < 11 → a ≠ b → (TX2 a).2.1 ≠ (TX2 b).2.1 := by decide +kernel
theorem tyX2_ok : ∀ k, k < 11 → parseFieldDescriptor (TX2 k).2.2.1 = some (tyX2 k) := by decide +kernel
abbrev cX2_init : ByteArray := prog_4_method_1_code
def yX2_init : MethodName := ⟨RX2, "<init>", "(LBellSeconds$Tower;)V"⟩
abbrev cX2_tally : ByteArray := prog_4_method_2_code
def yX2_tally : MethodName := ⟨RX2, "tally", "(LBellSeconds$Heard;I)V"⟩
abbrev cX2_areQuiets : ByteArray := prog_4_method_3_code
def yX2_areQuiets : MethodName := ⟨RX2, "areQuiets", "(I)Z"⟩
abbrev cX2_tallyBeside : ByteArray := prog_4_method_4_code
def yX2_tallyBeside : MethodName := ⟨RX2, "tallyBeside", "(II)V"⟩
abbrev cX2_tallyBell : ByteArray := prog_4_method_5_code
def yX2_tallyBell : MethodName := ⟨RX2, "tallyBell", "(II)V"⟩
abbrev cX2_walk : ByteArray := prog_4_method_6_code
def yX2_walk : MethodName := ⟨RX2, "walk", "(IIJIII)V"⟩
abbrev cX2_tallyDay : ByteArray := prog_4_method_7_code
def yX2_tallyDay : MethodName := ⟨RX2, "tallyDay", "(III)V"⟩
def RX3 : String := "BellSeconds$Heard"
def TX3 : u_T := fun k => match k with
  | 0 => ("BellSeconds$Heard", "seconds", "[I", true)
  | 1 => ("BellSeconds$Heard", "bells", "[I", true)
  | _ => ("BellSeconds$Heard", "size", "I", false)
def tyX3 : Nat → FieldType := fun k => match k with
  | 0 => .array .int
  | 1 => .array .int
  | _ => .int
abbrev wsX30 : List Cond := u_ws RX3 TX3 3
theorem nmX3 : ∀ a, a < 3 → ∀ b, b < 3 → a ≠ b → (TX3 a).2.1 ≠ (TX3 b).2.1 := by decide +kernel
theorem tyX3_ok : ∀ k, k < 3 → parseFieldDescriptor (TX3 k).2.2.1 = some (tyX3 k) := by decide +kernel
abbrev cX3_init : ByteArray := prog_5_method_1_code
def yX3_init : MethodName := ⟨RX3, "<init>", "()V"⟩
abbrev cX3_append : ByteArray := prog_5_method_2_code
def yX3_append : MethodName := ⟨RX3, "append", "(II)I"⟩
abbrev cX3_clear : ByteArray := prog_5_method_3_code
def yX3_clear : MethodName := ⟨RX3, "clear", "()I"⟩
abbrev cX3_told : ByteArray := prog_5_method_4_code
def yX3_told : MethodName := ⟨RX3, "told", "(ZI)I"⟩
def RX4 : String := "BellSeconds$Letting"
def TX4 : u_T := fun k => match k with
  | 0 => ("BellSeconds$Letting", "tower", "LBellSeconds$Tower;", true)
  | 1 => ("BellSeconds$Letting", "trial", "LBellSeconds$Day;", true)
  | 2 => ("BellSeconds$Letting", "firstDay", "LBellSeconds$Day;", true)
  | 3 => ("BellSeconds$Letting", "weight", "[I", true)
  | 4 => ("BellSeconds$Letting", "rest", "[I", true)
  | _ => ("BellSeconds$Letting", "most", "I", false)
def tyX4 : Nat → FieldType := fun k => match k with
  | 0 => .object "BellSeconds$Tower"
  | 1 => .object "BellSeconds$Day"
  | 2 => .object "BellSeconds$Day"
  | 3 => .array .int
  | 4 => .array .int
  | _ => .int
abbrev wsX40 : List Cond := u_ws RX4 TX4 6
theorem nmX4 : ∀ a, a < 6 → ∀ b, b < 6 → a ≠ b → (TX4 a).2.1 ≠ (TX4 b).2.1 := by decide +kernel
theorem tyX4_ok : ∀ k, k < 6 → parseFieldDescriptor (TX4 k).2.2.1 = some (tyX4 k) := by decide +kernel
abbrev cX4_init : ByteArray := prog_6_method_1_code
def yX4_init : MethodName := ⟨RX4, "<init>", "(LBellSeconds$Tower;)V"⟩
abbrev cX4_mostWorth : ByteArray := prog_6_method_2_code
def yX4_mostWorth : MethodName := ⟨RX4, "mostWorth", "(I)I"⟩
abbrev cX4_mostAtOnce : ByteArray := prog_6_method_3_code
def yX4_mostAtOnce : MethodName := ⟨RX4, "mostAtOnce", "()I"⟩
abbrev cX4_mostBeside : ByteArray := prog_6_method_4_code
def yX4_mostBeside : MethodName := ⟨RX4, "mostBeside", "(LBellSeconds$Day;)I"⟩
abbrev cX4_weigh : ByteArray := prog_6_method_5_code
def yX4_weigh : MethodName := ⟨RX4, "weigh", "(IZ)V"⟩
abbrev cX4_search : ByteArray := prog_6_method_6_code
def yX4_search : MethodName := ⟨RX4, "search", "(JII)I"⟩
abbrev cX4_walk : ByteArray := prog_6_method_7_code
def yX4_walk : MethodName := ⟨RX4, "walk", "(IIJII)V"⟩
def RX5 : String := "BellSeconds$Ringers"
def TX5 : u_T := fun k => match k with
  | 0 => ("BellSeconds$Ringers", "tower", "LBellSeconds$Tower;", true)
  | 1 => ("BellSeconds$Ringers", "begin", "[I", true)
  | 2 => ("BellSeconds$Ringers", "end", "[I", true)
  | 3 => ("BellSeconds$Ringers", "bellAt", "[I", true)
  | 4 => ("BellSeconds$Ringers", "comesFrom", "[I", true)
  | 5 => ("BellSeconds$Ringers", "size", "I", false)
  | _ => ("BellSeconds$Ringers", "seen", "I", false)
def tyX5 : Nat → FieldType := fun k => match k with
  | 0 => .object "BellSeconds$Tower"
  | 1 => .array .int
  | 2 => .array .int
  | 3 => .array .int
  | 4 => .array .int
  | 5 => .int
  | _ => .int
abbrev wsX50 : List Cond := u_ws RX5 TX5 7
theorem nmX5 : ∀ a, a < 7 → ∀ b, b < 7 → a ≠ b → (TX5 a).2.1 ≠ (TX5 b).2.1 := by decide +kernel
theorem tyX5_ok : ∀ k, k < 7 → parseFieldDescriptor (TX5 k).2.2.1 = some (tyX5 k) := by decide +kernel
abbrev cX5_init : ByteArray := prog_7_method_1_code
def yX5_init : MethodName := ⟨RX5, "<init>", "(LBellSeconds$Tower;)V"⟩
abbrev cX5_fewest : ByteArray := prog_7_method_2_code
def yX5_fewest : MethodName := ⟨RX5, "fewest", "(LBellSeconds$Day;)I"⟩
abbrev cX5_addStrokes : ByteArray := prog_7_method_3_code
def yX5_addStrokes : MethodName := ⟨RX5, "addStrokes", "(II)V"⟩
abbrev cX5_goesOn : ByteArray := prog_7_method_4_code
def yX5_goesOn : MethodName := ⟨RX5, "goesOn", "(II)Z"⟩
abbrev cX5_isInTime : ByteArray := prog_7_method_5_code
def yX5_isInTime : MethodName := ⟨RX5, "isInTime", "(II)Z"⟩
def RX6 : String := "BellSeconds$Slot"
def TX6 : u_T := fun k => match k with
  | 0 => ("BellSeconds$Slot", "day", "LBellSeconds$Day;", true)
  | _ => ("BellSeconds$Slot", "full", "Z", false)
def tyX6 : Nat → FieldType := fun k => match k with
  | 0 => .object "BellSeconds$Day"
  | _ => .boolean
abbrev wsX60 : List Cond := u_ws RX6 TX6 2
theorem nmX6 : ∀ a, a < 2 → ∀ b, b < 2 → a ≠ b → (TX6 a).2.1 ≠ (TX6 b).2.1 := by decide +kernel
theorem tyX6_ok : ∀ k, k < 2 → parseFieldDescriptor (TX6 k).2.2.1 = some (tyX6 k) := by decide +kernel
abbrev cX6_init : ByteArray := prog_8_method_1_code
def yX6_init : MethodName := ⟨RX6, "<init>", "(LBellSeconds$Tower;)V"⟩
abbrev cX6_fill : ByteArray := prog_8_method_2_code
def yX6_fill : MethodName := ⟨RX6, "fill", "(LBellSeconds$Day;)V"⟩
abbrev cX6_forget : ByteArray := prog_8_method_3_code
def yX6_forget : MethodName := ⟨RX6, "forget", "()V"⟩
def RX7 : String := "BellSeconds$Text"
def TX7 : u_T := fun k => match k with
  | 0 => ("BellSeconds$Text", "letters", "[I", true)
  | _ => ("BellSeconds$Text", "length", "I", false)
def tyX7 : Nat → FieldType := fun k => match k with
  | 0 => .array .int
  | _ => .int
abbrev wsX70 : List Cond := u_ws RX7 TX7 2
theorem nmX7 : ∀ a, a < 2 → ∀ b, b < 2 → a ≠ b → (TX7 a).2.1 ≠ (TX7 b).2.1 := by decide +kernel
theorem tyX7_ok : ∀ k, k < 2 → parseFieldDescriptor (TX7 k).2.2.1 = some (tyX7 k) := by decide +kernel
abbrev cX7_init : ByteArray := prog_9_method_1_code
def yX7_init : MethodName := ⟨RX7, "<init>", "()V"⟩
abbrev cX7_append : ByteArray := prog_9_method_2_code
def yX7_append : MethodName := ⟨RX7, "append", "(I)I"⟩
abbrev cX7_clear : ByteArray := prog_9_method_3_code
def yX7_clear : MethodName := ⟨RX7, "clear", "()I"⟩
abbrev cX7_letterAt : ByteArray := prog_9_method_4_code
def yX7_letterAt : MethodName := ⟨RX7, "letterAt", "(I)I"⟩
abbrev cX7_figureAt : ByteArray := prog_9_method_5_code
def yX7_figureAt : MethodName := ⟨RX7, "figureAt", "(I)I"⟩
abbrev cX7_firstFault : ByteArray := prog_9_method_6_code
def yX7_firstFault : MethodName := ⟨RX7, "firstFault", "()I"⟩
abbrev cX7_faultInPart : ByteArray := prog_9_method_7_code
def yX7_faultInPart : MethodName := ⟨RX7, "faultInPart", "(III)I"⟩
abbrev cX7_mayBeTold : ByteArray := prog_9_method_8_code
def yX7_mayBeTold : MethodName := ⟨RX7, "mayBeTold", "(III)Z"⟩
abbrev cX7_sizeOf : ByteArray := prog_9_method_9_code
def yX7_sizeOf : MethodName := ⟨RX7, "sizeOf", "(I)I"⟩
abbrev cX7_least : ByteArray := prog_9_method_10_code
def yX7_least : MethodName := ⟨RX7, "least", "(III)I"⟩
abbrev cX7_most : ByteArray := prog_9_method_11_code
def yX7_most : MethodName := ⟨RX7, "most", "(III)I"⟩
def RX8 : String := "BellSeconds$Tower"
def TX8 : u_T := fun k => match k with
  | 0 => ("BellSeconds$Tower", "bells", "I", false)
  | 1 => ("BellSeconds$Tower", "bidders", "I", false)
  | 2 => ("BellSeconds$Tower", "ringTime", "[I", true)
  | 3 => ("BellSeconds$Tower", "dampTime", "[I", true)
  | 4 => ("BellSeconds$Tower", "bellOf", "[I", true)
  | 5 => ("BellSeconds$Tower", "strokes", "[I", true)
  | 6 => ("BellSeconds$Tower", "between", "[I", true)
  | 7 => ("BellSeconds$Tower", "from", "[I", true)
  | 8 => ("BellSeconds$Tower", "to", "[I", true)
  | 9 => ("BellSeconds$Tower", "coins", "[I", true)
  | 10 => ("BellSeconds$Tower", "begins", "[I", true)
  | 11 => ("BellSeconds$Tower", "wanted", "[I", true)
  | 12 => ("BellSeconds$Tower", "taken", "[J", true)
  | _ => ("BellSeconds$Tower", "rung", "[I", true)
def tyX8 : Nat → FieldType := fun k => match k with
  | 0 => .int
  | 1 => .int
  | 2 => .array .int
  | 3 => .array .int
  | 4 => .array .int
  | 5 => .array .int
  | 6 => .array .int
  | 7 => .array .int
  | 8 => .array .int
  | 9 => .array .int
  | 10 => .array .int
  | 11 => .array .int
  | 12 => .array .long
  | _ => .array .int
abbrev wsX80 : List Cond := u_ws RX8 TX8 14
theorem nmX8 : ∀ a, a < 14 → ∀ b, b < 14 → a ≠ b → (TX8 a).2.1 ≠ (TX8 b).2.1 := by decide +kernel
theorem tyX8_ok : ∀ k, k < 14 → parseFieldDescriptor (TX8 k).2.2.1 = some (tyX8 k) := by decide +kernel
abbrev cX8_init : ByteArray := prog_10_method_1_code
def yX8_init : MethodName := ⟨RX8, "<init>", "()V"⟩
abbrev cX8_hasBell : ByteArray := prog_10_method_2_code
def yX8_hasBell : MethodName := ⟨RX8, "hasBell", "(I)Z"⟩
abbrev cX8_hasBidder : ByteArray := prog_10_method_3_code
def yX8_hasBidder : MethodName := ⟨RX8, "hasBidder", "(I)Z"⟩
abbrev cX8_everyBell : ByteArray := prog_10_method_4_code
def yX8_everyBell : MethodName := ⟨RX8, "everyBell", "()I"⟩
abbrev cX8_everyone : ByteArray := prog_10_method_5_code
def yX8_everyone : MethodName := ⟨RX8, "everyone", "()I"⟩
abbrev cX8_mayBegin : ByteArray := prog_10_method_6_code
def yX8_mayBegin : MethodName := ⟨RX8, "mayBegin", "(II)Z"⟩
abbrev cX8_isQuiet : ByteArray := prog_10_method_7_code
def yX8_isQuiet : MethodName := ⟨RX8, "isQuiet", "(I)Z"⟩
abbrev cX8_isPealOf : ByteArray := prog_10_method_8_code
def yX8_isPealOf : MethodName := ⟨RX8, "isPealOf", "(II)Z"⟩
abbrev cX8_takes : ByteArray := prog_10_method_9_code
def yX8_takes : MethodName := ⟨RX8, "takes", "(II)J"⟩
abbrev cX8_ringing : ByteArray := prog_10_method_10_code
def yX8_ringing : MethodName := ⟨RX8, "ringing", "(II)I"⟩
abbrev cX8_wants : ByteArray := prog_10_method_11_code
def yX8_wants : MethodName := ⟨RX8, "wants", "(I)I"⟩
abbrev cX8_wantedSeconds : ByteArray := prog_10_method_12_code
def yX8_wantedSeconds : MethodName := ⟨RX8, "wantedSeconds", "()I"⟩
abbrev cX8_build : ByteArray := prog_10_method_13_code
def yX8_build : MethodName := ⟨RX8, "build", "(LBellSeconds$Text;)V"⟩
abbrev cX8_clear : ByteArray := prog_10_method_14_code
def yX8_clear : MethodName := ⟨RX8, "clear", "()V"⟩
abbrev cX8_addBell : ByteArray := prog_10_method_15_code
def yX8_addBell : MethodName := ⟨RX8, "addBell", "(II)V"⟩
abbrev cX8_addBidder : ByteArray := prog_10_method_16_code
def yX8_addBidder : MethodName := ⟨RX8, "addBidder", "(ILBellSeconds$Text;I)V"⟩
abbrev cX8_layPeal : ByteArray := prog_10_method_17_code
def yX8_layPeal : MethodName := ⟨RX8, "layPeal", "(I)V"⟩
abbrev cX8_layPlace : ByteArray := prog_10_method_18_code
def yX8_layPlace : MethodName := ⟨RX8, "layPlace", "(IIJI)V"⟩
abbrev cX8_clash : ByteArray := prog_10_method_19_code
def yX8_clash : MethodName := ⟨RX8, "clash", "(IIII)Z"⟩
def RX9 : String := "BellSeconds"
def TX9 : u_T := fun k => match k with
  | 0 => ("BellSeconds", "text", "LBellSeconds$Text;", true)
  | 1 => ("BellSeconds", "tower", "LBellSeconds$Tower;", true)
  | 2 => ("BellSeconds", "now", "LBellSeconds$Day;", true)
  | 3 => ("BellSeconds", "trial", "LBellSeconds$Day;", true)
  | 4 => ("BellSeconds", "slot0", "LBellSeconds$Slot;", true)
  | 5 => ("BellSeconds", "slot1", "LBellSeconds$Slot;", true)
  | 6 => ("BellSeconds", "acts", "LBellSeconds$Acts;", true)
  | 7 => ("BellSeconds", "letting", "LBellSeconds$Letting;", true)
  | 8 => ("BellSeconds", "heard", "LBellSeconds$Heard;", true)
  | 9 => ("BellSeconds", "fitting", "LBellSeconds$Fitting;", true)
  | 10 => ("BellSeconds", "ringers", "LBellSeconds$Ringers;", true)
  | 11 => ("BellSeconds", "things", "[I", true)
  | _ => ("BellSeconds", "seed", "J", false)
def tyX9 : Nat → FieldType := fun k => match k with
  | 0 => .object "BellSeconds$Text"
  | 1 => .object "BellSeconds$Tower"
  | 2 => .object "BellSeconds$Day"
  | 3 => .object "BellSeconds$Day"
  | 4 => .object "BellSeconds$Slot"
  | 5 => .object "BellSeconds$Slot"
  | 6 => .object "BellSeconds$Acts"
  | 7 => .object "BellSeconds$Letting"
  | 8 => .object "BellSeconds$Heard"
  | 9 => .object "BellSeconds$Fitting"
  | 10 => .object "BellSeconds$Ringers"
  | 11 => .array .int
  | _ => .long
abbrev wsX90 : List Cond := u_ws RX9 TX9 13
theorem nmX9 : ∀ a, a < 13 → ∀ b, b < 13 → a ≠ b → (TX9 a).2.1 ≠ (TX9 b).2.1 := by decide +kernel
theorem tyX9_ok : ∀ k, k < 13 → parseFieldDescriptor (TX9 k).2.2.1 = some (tyX9 k) := by decide +kernel
abbrev cX9_init : ByteArray := prog_1_method_1_code
def yX9_init : MethodName := ⟨RX9, "<init>", "()V"⟩
abbrev cX9_write : ByteArray := prog_1_method_2_code
def yX9_write : MethodName := ⟨RX9, "write", "(I)I"⟩
abbrev cX9_wipe : ByteArray := prog_1_method_3_code
def yX9_wipe : MethodName := ⟨RX9, "wipe", "()I"⟩
abbrev cX9_fault : ByteArray := prog_1_method_4_code
def yX9_fault : MethodName := ⟨RX9, "fault", "()I"⟩
abbrev cX9_tower : ByteArray := prog_1_method_5_code
def yX9_tower : MethodName := ⟨RX9, "tower", "()I"⟩
abbrev cX9_bell : ByteArray := prog_1_method_6_code
def yX9_bell : MethodName := ⟨RX9, "bell", "(II)I"⟩
abbrev cX9_bidder : ByteArray := prog_1_method_7_code
def yX9_bidder : MethodName := ⟨RX9, "bidder", "(II)I"⟩
abbrev cX9_rings : ByteArray := prog_1_method_8_code
def yX9_rings : MethodName := ⟨RX9, "rings", "(I)I"⟩
abbrev cX9_clashes : ByteArray := prog_1_method_9_code
def yX9_clashes : MethodName := ⟨RX9, "clashes", "(II)I"⟩
abbrev cX9_let : ByteArray := prog_1_method_10_code
def yX9_let : MethodName := ⟨RX9, "let", "(II)I"⟩
abbrev cX9_revoke : ByteArray := prog_1_method_11_code
def yX9_revoke : MethodName := ⟨RX9, "revoke", "(I)I"⟩
abbrev cX9_move : ByteArray := prog_1_method_12_code
def yX9_move : MethodName := ⟨RX9, "move", "(II)I"⟩
abbrev cX9_undo : ByteArray := prog_1_method_13_code
def yX9_undo : MethodName := ⟨RX9, "undo", "()I"⟩
abbrev cX9_act : ByteArray := prog_1_method_14_code
def yX9_act : MethodName := ⟨RX9, "act", "(II)V"⟩
abbrev cX9_best : ByteArray := prog_1_method_15_code
def yX9_best : MethodName := ⟨RX9, "best", "(I)I"⟩
abbrev cX9_bestOf : ByteArray := prog_1_method_16_code
def yX9_bestOf : MethodName := ⟨RX9, "bestOf", "(I)I"⟩
abbrev cX9_beside : ByteArray := prog_1_method_17_code
def yX9_beside : MethodName := ⟨RX9, "beside", "()I"⟩
abbrev cX9_price : ByteArray := prog_1_method_18_code
def yX9_price : MethodName := ⟨RX9, "price", "(I)I"⟩
abbrev cX9_many : ByteArray := prog_1_method_19_code
def yX9_many : MethodName := ⟨RX9, "many", "()I"⟩
abbrev cX9_room : ByteArray := prog_1_method_20_code
def yX9_room : MethodName := ⟨RX9, "room", "(II)I"⟩
abbrev cX9_hands : ByteArray := prog_1_method_21_code
def yX9_hands : MethodName := ⟨RX9, "hands", "()I"⟩
abbrev cX9_judge : ByteArray := prog_1_method_22_code
def yX9_judge : MethodName := ⟨RX9, "judge", "(IJ)I"⟩
abbrev cX9_firstThatCanNotBe : ByteArray := prog_1_method_23_code
def yX9_firstThatCanNotBe : MethodName := ⟨RX9, "firstThatCanNotBe", "(I)I"⟩
abbrev cX9_hear : ByteArray := prog_1_method_24_code
def yX9_hear : MethodName := ⟨RX9, "hear", "(II)I"⟩
abbrev cX9_unhear : ByteArray := prog_1_method_25_code
def yX9_unhear : MethodName := ⟨RX9, "unhear", "()I"⟩
abbrev cX9_fit : ByteArray := prog_1_method_26_code
def yX9_fit : MethodName := ⟨RX9, "fit", "(I)I"⟩
abbrev cX9_likely : ByteArray := prog_1_method_27_code
def yX9_likely : MethodName := ⟨RX9, "likely", "(IZ)I"⟩
abbrev cX9_unwanted : ByteArray := prog_1_method_28_code
def yX9_unwanted : MethodName := ⟨RX9, "unwanted", "()I"⟩
abbrev cX9_sealed : ByteArray := prog_1_method_29_code
def yX9_sealed : MethodName := ⟨RX9, "sealed", "(III)I"⟩
abbrev cX9_seed : ByteArray := prog_1_method_30_code
def yX9_seed : MethodName := ⟨RX9, "seed", "(J)J"⟩
abbrev cX9_day : ByteArray := prog_1_method_31_code
def yX9_day : MethodName := ⟨RX9, "day", "(I)I"⟩
abbrev cX9_keep : ByteArray := prog_1_method_32_code
def yX9_keep : MethodName := ⟨RX9, "keep", "(I)I"⟩
abbrev cX9_again : ByteArray := prog_1_method_33_code
def yX9_again : MethodName := ⟨RX9, "again", "(I)I"⟩
abbrev cX9_count : ByteArray := prog_1_method_34_code
def yX9_count : MethodName := ⟨RX9, "count", "(I)I"⟩
abbrev cX9_slotOf : ByteArray := prog_1_method_35_code
def yX9_slotOf : MethodName := ⟨RX9, "slotOf", "(I)LBellSeconds$Slot;"⟩
abbrev cX9_isSecond : ByteArray := prog_1_method_36_code
def yX9_isSecond : MethodName := ⟨RX9, "isSecond", "(I)Z"⟩
abbrev cX9_isBid : ByteArray := prog_1_method_37_code
def yX9_isBid : MethodName := ⟨RX9, "isBid", "(I)Z"⟩
abbrev cX9_at : ByteArray := prog_1_method_38_code
def yX9_at : MethodName := ⟨RX9, "at", "([II)I"⟩
abbrev cX9_stretch : ByteArray := prog_1_method_39_code
def yX9_stretch : MethodName := ⟨RX9, "stretch", "(II)I"⟩
abbrev cX9_secondsOf : ByteArray := prog_1_method_40_code
def yX9_secondsOf : MethodName := ⟨RX9, "secondsOf", "(II)I"⟩
abbrev cX9_ofAnyBell : ByteArray := prog_1_method_41_code
def yX9_ofAnyBell : MethodName := ⟨RX9, "ofAnyBell", "(I)I"⟩
abbrev cX9_bellsAt : ByteArray := prog_1_method_42_code
def yX9_bellsAt : MethodName := ⟨RX9, "bellsAt", "(II)I"⟩
abbrev cX9_commonDivisor : ByteArray := prog_1_method_43_code
def yX9_commonDivisor : MethodName := ⟨RX9, "commonDivisor", "(II)I"⟩
abbrev cX9_rests : ByteArray := prog_1_method_44_code
def yX9_rests : MethodName := ⟨RX9, "rests", "(IIII)Z"⟩
abbrev cX9_gainOfOne : ByteArray := prog_1_method_45_code
def yX9_gainOfOne : MethodName := ⟨RX9, "gainOfOne", "(III)I"⟩
abbrev cX9_gainOfOther : ByteArray := prog_1_method_46_code
def yX9_gainOfOther : MethodName := ⟨RX9, "gainOfOther", "(III)I"⟩
def RX10 : String := "BellSecondsModel"
def TX10 : u_T := fun k => match k with
  | 0 => ("BellSecondsModel", "bells", "I", false)
  | 1 => ("BellSecondsModel", "bidders", "I", false)
  | 2 => ("BellSecondsModel", "rung", "[I", true)
  | 3 => ("BellSecondsModel", "damped", "[I", true)
  | 4 => ("BellSecondsModel", "of", "[I", true)
  | 5 => ("BellSecondsModel", "readBell", "[I", true)
  | 6 => ("BellSecondsModel", "readOf", "[I", true)
  | 7 => ("BellSecondsModel", "now", "[I", true)
  | 8 => ("BellSecondsModel", "text", "[I", true)
  | 9 => ("BellSecondsModel", "length", "I", false)
  | 10 => ("BellSecondsModel", "at", "I", false)
  | 11 => ("BellSecondsModel", "faultAt", "I", false)
  | 12 => ("BellSecondsModel", "readBells", "I", false)
  | 13 => ("BellSecondsModel", "readBidders", "I", false)
  | 14 => ("BellSecondsModel", "acts", "I", false)
  | 15 => ("BellSecondsModel", "next", "I", false)
  | 16 => ("BellSecondsModel", "row", "[I", true)
  | 17 => ("BellSecondsModel", "day", "[I", true)
  | 18 => ("BellSecondsModel", "bestDay", "[I", true)
  | 19 => ("BellSecondsModel", "isSet", "[Z", true)
  | 20 => ("BellSecondsModel", "most", "I", false)
  | 21 => ("BellSecondsModel", "fits", "I", false)
  | 22 => ("BellSecondsModel", "inAll", "I", false)
  | 23 => ("BellSecondsModel", "inSome", "I", false)
  | 24 => ("BellSecondsModel", "ringsAt", "[I", true)
  | 25 => ("BellSecondsModel", "mayAt", "[Z", true)
  | 26 => ("BellSecondsModel", "ringAt", "[I", true)
  | 27 => ("BellSecondsModel", "takeAt", "[I", true)
  | 28 => ("BellSecondsModel", "bellAt", "[I", true)
  | 29 => ("BellSecondsModel", "strokes", "I", false)
  | 30 => ("BellSecondsModel", "begin", "[I", true)
  | 31 => ("BellSecondsModel", "end", "[I", true)
  | 32 => ("BellSecondsModel", "onBell", "[I", true)
  | 33 => ("BellSecondsModel", "behind", "[I", true)
  | 34 => ("BellSecondsModel", "ahead", "[I", true)
  | 35 => ("BellSecondsModel", "by", "[I", true)
  | 36 => ("BellSecondsModel", "line", "[I", true)
  | 37 => ("BellSecondsModel", "held", "[I", true)
  | 38 => ("BellSecondsModel", "heard", "I", false)
  | 39 => ("BellSecondsModel", "heardAt", "[I", true)
  | 40 => ("BellSecondsModel", "heardBells", "[I", true)
  | 41 => ("BellSecondsModel", "seed", "J", false)
  | 42 => ("BellSecondsModel", "isKept", "[Z", true)
  | _ => ("BellSecondsModel", "kept", "[I", true)
def tyX10 : Nat → FieldType := fun k => match k with
  | 0 => .int
  | 1 => .int
  | 2 => .array .int
  | 3 => .array .int
  | 4 => .array .int
  | 5 => .array .int
  | 6 => .array .int
  | 7 => .array .int
  | 8 => .array .int
  | 9 => .int
  | 10 => .int
  | 11 => .int
  | 12 => .int
  | 13 => .int
  | 14 => .int
  | 15 => .int
  | 16 => .array .int
  | 17 => .array .int
  | 18 => .array .int
  | 19 => .array .boolean
  | 20 => .int
  | 21 => .int
  | 22 => .int
  | 23 => .int
  | 24 => .array .int
  | 25 => .array .boolean
  | 26 => .array .int
  | 27 => .array .int
  | 28 => .array .int
  | 29 => .int
  | 30 => .array .int
  | 31 => .array .int
  | 32 => .array .int
  | 33 => .array .int
  | 34 => .array .int
  | 35 => .array .int
  | 36 => .array .int
  | 37 => .array .int
  | 38 => .int
  | 39 => .array .int
  | 40 => .array .int
  | 41 => .long
  | 42 => .array .boolean
  | _ => .array .int
abbrev wsX100 : List Cond := u_ws RX10 TX10 44
theorem nmX10 : ∀ a, a < 44 → ∀ b, b < 44 → a ≠ b → (TX10 a).2.1 ≠ (TX10 b).2.1 := by decide +kernel
theorem tyX10_ok : ∀ k, k < 44 → parseFieldDescriptor (TX10 k).2.2.1 = some (tyX10 k) := by decide +kernel
abbrev cX10_init : ByteArray := prog_12_method_1_code
def yX10_init : MethodName := ⟨RX10, "<init>", "()V"⟩
abbrev cX10_in : ByteArray := prog_12_method_3_code
def yX10_in : MethodName := ⟨RX10, "in", "(JJJ)Z"⟩
abbrev cX10_has : ByteArray := prog_12_method_4_code
def yX10_has : MethodName := ⟨RX10, "has", "(II)Z"⟩
abbrev cX10_ones : ByteArray := prog_12_method_5_code
def yX10_ones : MethodName := ⟨RX10, "ones", "(I)I"⟩
abbrev cX10_write : ByteArray := prog_12_method_6_code
def yX10_write : MethodName := ⟨RX10, "write", "(I)I"⟩
abbrev cX10_wipe : ByteArray := prog_12_method_7_code
def yX10_wipe : MethodName := ⟨RX10, "wipe", "()I"⟩
abbrev cX10_figure : ByteArray := prog_12_method_8_code
def yX10_figure : MethodName := ⟨RX10, "figure", "(II)I"⟩
abbrev cX10_readText : ByteArray := prog_12_method_9_code
def yX10_readText : MethodName := ⟨RX10, "readText", "()I"⟩
abbrev cX10_readPart : ByteArray := prog_12_method_10_code
def yX10_readPart : MethodName := ⟨RX10, "readPart", "(I)V"⟩
abbrev cX10_readSpan : ByteArray := prog_12_method_11_code
def yX10_readSpan : MethodName := ⟨RX10, "readSpan", "(I)V"⟩
abbrev cX10_fault : ByteArray := prog_12_method_12_code
def yX10_fault : MethodName := ⟨RX10, "fault", "()I"⟩
abbrev cX10_tower : ByteArray := prog_12_method_13_code
def yX10_tower : MethodName := ⟨RX10, "tower", "()I"⟩
abbrev cX10_isBell : ByteArray := prog_12_method_14_code
def yX10_isBell : MethodName := ⟨RX10, "isBell", "(I)Z"⟩
abbrev cX10_isBidder : ByteArray := prog_12_method_15_code
def yX10_isBidder : MethodName := ⟨RX10, "isBidder", "(I)Z"⟩
abbrev cX10_isQuiet : ByteArray := prog_12_method_16_code
def yX10_isQuiet : MethodName := ⟨RX10, "isQuiet", "(I)Z"⟩
abbrev cX10_strokeAt : ByteArray := prog_12_method_17_code
def yX10_strokeAt : MethodName := ⟨RX10, "strokeAt", "(III)I"⟩
abbrev cX10_mayBegin : ByteArray := prog_12_method_18_code
def yX10_mayBegin : MethodName := ⟨RX10, "mayBegin", "(II)Z"⟩
abbrev cX10_span : ByteArray := prog_12_method_19_code
def yX10_span : MethodName := ⟨RX10, "span", "(II)I"⟩
abbrev cX10_seconds : ByteArray := prog_12_method_20_code
def yX10_seconds : MethodName := ⟨RX10, "seconds", "(IIZ)I"⟩
abbrev cX10_clash : ByteArray := prog_12_method_21_code
def yX10_clash : MethodName := ⟨RX10, "clash", "(IIII)Z"⟩
abbrev cX10_clashesOf : ByteArray := prog_12_method_22_code
def yX10_clashesOf : MethodName := ⟨RX10, "clashesOf", "(II)I"⟩
abbrev cX10_coinsOf : ByteArray := prog_12_method_23_code
def yX10_coinsOf : MethodName := ⟨RX10, "coinsOf", "(I)I"⟩
abbrev cX10_letNow : ByteArray := prog_12_method_24_code
def yX10_letNow : MethodName := ⟨RX10, "letNow", "()I"⟩
abbrev cX10_ringing : ByteArray := prog_12_method_25_code
def yX10_ringing : MethodName := ⟨RX10, "ringing", "(I)I"⟩
abbrev cX10_bell : ByteArray := prog_12_method_26_code
def yX10_bell : MethodName := ⟨RX10, "bell", "(II)I"⟩
abbrev cX10_begins : ByteArray := prog_12_method_27_code
def yX10_begins : MethodName := ⟨RX10, "begins", "(I)I"⟩
abbrev cX10_bidder : ByteArray := prog_12_method_28_code
def yX10_bidder : MethodName := ⟨RX10, "bidder", "(II)I"⟩
abbrev cX10_rings : ByteArray := prog_12_method_29_code
def yX10_rings : MethodName := ⟨RX10, "rings", "(I)I"⟩
abbrev cX10_clashes : ByteArray := prog_12_method_30_code
def yX10_clashes : MethodName := ⟨RX10, "clashes", "(II)I"⟩
abbrev cX10_keepAct : ByteArray := prog_12_method_31_code
def yX10_keepAct : MethodName := ⟨RX10, "keepAct", "()V"⟩
abbrev cX10_canBe : ByteArray := prog_12_method_32_code
def yX10_canBe : MethodName := ⟨RX10, "canBe", "(II)Z"⟩
abbrev cX10_let : ByteArray := prog_12_method_33_code
def yX10_let : MethodName := ⟨RX10, "let", "(II)I"⟩
abbrev cX10_revoke : ByteArray := prog_12_method_34_code
def yX10_revoke : MethodName := ⟨RX10, "revoke", "(I)I"⟩
abbrev cX10_move : ByteArray := prog_12_method_35_code
def yX10_move : MethodName := ⟨RX10, "move", "(II)I"⟩
abbrev cX10_undo : ByteArray := prog_12_method_36_code
def yX10_undo : MethodName := ⟨RX10, "undo", "()I"⟩
abbrev cX10_mayHave : ByteArray := prog_12_method_37_code
def yX10_mayHave : MethodName := ⟨RX10, "mayHave", "(IZ)Z"⟩
abbrev cX10_clashAt : ByteArray := prog_12_method_38_code
def yX10_clashAt : MethodName := ⟨RX10, "clashAt", "(IIII)Z"⟩
abbrev cX10_layTables : ByteArray := prog_12_method_39_code
def yX10_layTables : MethodName := ⟨RX10, "layTables", "()V"⟩
abbrev cX10_layBells : ByteArray := prog_12_method_40_code
def yX10_layBells : MethodName := ⟨RX10, "layBells", "()V"⟩
abbrev cX10_dayLet : ByteArray := prog_12_method_41_code
def yX10_dayLet : MethodName := ⟨RX10, "dayLet", "()I"⟩
abbrev cX10_lookAt : ByteArray := prog_12_method_42_code
def yX10_lookAt : MethodName := ⟨RX10, "lookAt", "()V"⟩
abbrev cX10_goThrough : ByteArray := prog_12_method_43_code
def yX10_goThrough : MethodName := ⟨RX10, "goThrough", "(Z)V"⟩
abbrev cX10_bestOfSet : ByteArray := prog_12_method_44_code
def yX10_bestOfSet : MethodName := ⟨RX10, "bestOfSet", "(I)I"⟩
abbrev cX10_best : ByteArray := prog_12_method_45_code
def yX10_best : MethodName := ⟨RX10, "best", "(I)I"⟩
abbrev cX10_bestOf : ByteArray := prog_12_method_46_code
def yX10_bestOf : MethodName := ⟨RX10, "bestOf", "(I)I"⟩
abbrev cX10_beside : ByteArray := prog_12_method_47_code
def yX10_beside : MethodName := ⟨RX10, "beside", "()I"⟩
abbrev cX10_price : ByteArray := prog_12_method_48_code
def yX10_price : MethodName := ⟨RX10, "price", "(I)I"⟩
abbrev cX10_many : ByteArray := prog_12_method_49_code
def yX10_many : MethodName := ⟨RX10, "many", "()I"⟩
abbrev cX10_room : ByteArray := prog_12_method_50_code
def yX10_room : MethodName := ⟨RX10, "room", "(II)I"⟩
abbrev cX10_layStrokes : ByteArray := prog_12_method_51_code
def yX10_layStrokes : MethodName := ⟨RX10, "layStrokes", "()V"⟩
abbrev cX10_reaches : ByteArray := prog_12_method_52_code
def yX10_reaches : MethodName := ⟨RX10, "reaches", "(II)Z"⟩
abbrev cX10_grow : ByteArray := prog_12_method_53_code
def yX10_grow : MethodName := ⟨RX10, "grow", "(I)Z"⟩
abbrev cX10_turn : ByteArray := prog_12_method_54_code
def yX10_turn : MethodName := ⟨RX10, "turn", "(I)V"⟩
abbrev cX10_hands : ByteArray := prog_12_method_55_code
def yX10_hands : MethodName := ⟨RX10, "hands", "()I"⟩
abbrev cX10_tenTo : ByteArray := prog_12_method_56_code
def yX10_tenTo : MethodName := ⟨RX10, "tenTo", "(I)J"⟩
abbrev cX10_hold : ByteArray := prog_12_method_57_code
def yX10_hold : MethodName := ⟨RX10, "hold", "(Z)V"⟩
abbrev cX10_judge : ByteArray := prog_12_method_58_code
def yX10_judge : MethodName := ⟨RX10, "judge", "(IJ)I"⟩
abbrev cX10_hear : ByteArray := prog_12_method_59_code
def yX10_hear : MethodName := ⟨RX10, "hear", "(II)I"⟩
abbrev cX10_unhear : ByteArray := prog_12_method_60_code
def yX10_unhear : MethodName := ⟨RX10, "unhear", "()I"⟩
abbrev cX10_isHeard : ByteArray := prog_12_method_61_code
def yX10_isHeard : MethodName := ⟨RX10, "isHeard", "()Z"⟩
abbrev cX10_fit : ByteArray := prog_12_method_62_code
def yX10_fit : MethodName := ⟨RX10, "fit", "(I)I"⟩
abbrev cX10_common : ByteArray := prog_12_method_63_code
def yX10_common : MethodName := ⟨RX10, "common", "(II)I"⟩
abbrev cX10_likely : ByteArray := prog_12_method_64_code
def yX10_likely : MethodName := ⟨RX10, "likely", "(IZ)I"⟩
abbrev cX10_unwanted : ByteArray := prog_12_method_65_code
def yX10_unwanted : MethodName := ⟨RX10, "unwanted", "()I"⟩
abbrev cX10_gain : ByteArray := prog_12_method_66_code
def yX10_gain : MethodName := ⟨RX10, "gain", "(IIIZ)I"⟩
abbrev cX10_sealed : ByteArray := prog_12_method_67_code
def yX10_sealed : MethodName := ⟨RX10, "sealed", "(III)I"⟩
abbrev cX10_seed : ByteArray := prog_12_method_68_code
def yX10_seed : MethodName := ⟨RX10, "seed", "(J)J"⟩
abbrev cX10_day : ByteArray := prog_12_method_69_code
def yX10_day : MethodName := ⟨RX10, "day", "(I)I"⟩
abbrev cX10_keep : ByteArray := prog_12_method_70_code
def yX10_keep : MethodName := ⟨RX10, "keep", "(I)I"⟩
abbrev cX10_again : ByteArray := prog_12_method_71_code
def yX10_again : MethodName := ⟨RX10, "again", "(I)I"⟩
abbrev cX10_count : ByteArray := prog_12_method_72_code
def yX10_count : MethodName := ⟨RX10, "count", "(I)I"⟩
def RJ9 : String := "java/lang/Math"
def TJ9 : u_T := fun k => match k with
  | _ => ("", "", "", false)
def tyJ9 : Nat → FieldType := fun k => match k with
  | _ => .int
abbrev wsJ90 : List Cond := u_ws RJ9 TJ9 0
theorem nmJ9 : ∀ a, a < 0 → ∀ b, b < 0 → a ≠ b → (TJ9 a).2.1 ≠ (TJ9 b).2.1 := by decide +kernel
theorem tyJ9_ok : ∀ k, k < 0 → parseFieldDescriptor (TJ9 k).2.2.1 = some (tyJ9 k) := by decide +kernel
abbrev cJ9_abs_0f7a4 : ByteArray := prog_13_method_59_code
def yJ9_abs_0f7a4 : MethodName := ⟨RJ9, "abs", "(I)I"⟩
def RL : String := "BellSecondsLaw"
abbrev cL_law : ByteArray := code
def yL_law : MethodName := ⟨RL, "law", "([I)Z"⟩
abbrev vwCl : List vw_C := [(RX0, TX0, 3), (RX1, TX1, 2), (RX2, TX2, 11), (RX3, TX3, 3), (RX4, TX4, 6), (RX5, TX5, 7), (RX6, TX6, 2), (RX7, TX7, 2), (RX8, TX8, 14), (RX9, TX9, 13), (RX10, TX10, 44)]
end
section
theorem dX0_init_0 : decode cX0_init 0 = .ok (.aload_n 0, 1) := by decide +kernel
theorem dX0_init_1 : decode cX0_init 1 = .ok (.invokespecial 3, 3) := by decide +kernel
theorem dX0_init_4 : decode cX0_init 4 = .ok (.aload_n 0, 1) := by decide +kernel
theorem dX0_init_5 : decode cX0_init 5 = .ok (.bipush 16, 2) := by decide +kernel
theorem dX0_init_7 : decode cX0_init 7 = .ok (.newarray .int, 2) := by decide +kernel
theorem dX0_init_9 : decode cX0_init 9 = .ok (.putfield 9, 3) := by decide +kernel
theorem dX0_init_12 : decode cX0_init 12 = .ok (.aload_n 0, 1) := by decide +kernel
theorem dX0_init_13 : decode cX0_init 13 = .ok (.bipush 16, 2) := by decide +kernel
theorem dX0_init_15 : decode cX0_init 15 = .ok (.newarray .int, 2) := by decide +kernel
theorem dX0_init_17 : decode cX0_init 17 = .ok (.putfield 15, 3) := by decide +kernel
theorem dX0_init_20 : decode cX0_init 20 = .ok (.aload_n 0, 1) := by decide +kernel
theorem dX0_init_21 : decode cX0_init 21 = .ok (.iconst 0, 1) := by decide +kernel
theorem dX0_init_22 : decode cX0_init 22 = .ok (.putfield 18, 3) := by decide +kernel
theorem dX0_init_25 : decode cX0_init 25 = .ok (.return_, 1) := by decide +kernel
theorem dX0_clear_0 : decode cX0_clear 0 = .ok (.aload_n 0, 1) := by decide +kernel
theorem dX0_clear_1 : decode cX0_clear 1 = .ok (.iconst 0, 1) := by decide +kernel
theorem dX0_clear_2 : decode cX0_clear 2 = .ok (.putfield 18, 3) := by decide +kernel
theorem dX0_clear_5 : decode cX0_clear 5 = .ok (.return_, 1) := by decide +kernel
theorem dX0_append_0 : decode cX0_append 0 = .ok (.aload_n 0, 1) := by decide +kernel
theorem dX0_append_1 : decode cX0_append 1 = .ok (.getfield 18, 3) := by decide +kernel
theorem dX0_append_4 : decode cX0_append 4 = .ok (.bipush 16, 2) := by decide +kernel
theorem dX0_append_6 : decode cX0_append 6 = .ok (.if_icmp .lt 7, 3) := by decide +kernel
theorem dX0_append_9 : decode cX0_append 9 = .ok (.aload_n 0, 1) := by decide +kernel
theorem dX0_append_10 : decode cX0_append 10 = .ok (.invokevirtual 22, 3) := by decide +kernel
theorem dX0_append_13 : decode cX0_append 13 = .ok (.aload_n 0, 1) := by decide +kernel
theorem dX0_append_14 : decode cX0_append 14 = .ok (.getfield 18, 3) := by decide +kernel
theorem dX0_append_17 : decode cX0_append 17 = .ok (.ifCond .lt 42, 3) := by decide +kernel
theorem dX0_append_20 : decode cX0_append 20 = .ok (.aload_n 0, 1) := by decide +kernel
theorem dX0_append_21 : decode cX0_append 21 = .ok (.getfield 18, 3) := by decide +kernel
theorem dX0_append_24 : decode cX0_append 24 = .ok (.bipush 16, 2) := by decide +kernel
theorem dX0_append_26 : decode cX0_append 26 = .ok (.if_icmp .ge 33, 3) := by decide +kernel
theorem dX0_append_29 : decode cX0_append 29 = .ok (.aload_n 0, 1) := by decide +kernel
theorem dX0_append_30 : decode cX0_append 30 = .ok (.getfield 9, 3) := by decide +kernel
theorem dX0_append_33 : decode cX0_append 33 = .ok (.aload_n 0, 1) := by decide +kernel
theorem dX0_append_34 : decode cX0_append 34 = .ok (.getfield 18, 3) := by decide +kernel
theorem dX0_append_37 : decode cX0_append 37 = .ok (.iload_n 1, 1) := by decide +kernel
theorem dX0_append_38 : decode cX0_append 38 = .ok (.iastore, 1) := by decide +kernel
theorem dX0_append_39 : decode cX0_append 39 = .ok (.aload_n 0, 1) := by decide +kernel
theorem dX0_append_40 : decode cX0_append 40 = .ok (.getfield 15, 3) := by decide +kernel
theorem dX0_append_43 : decode cX0_append 43 = .ok (.aload_n 0, 1) := by decide +kernel
theorem dX0_append_44 : decode cX0_append 44 = .ok (.getfield 18, 3) := by decide +kernel
theorem dX0_append_47 : decode cX0_append 47 = .ok (.iload_n 2, 1) := by decide +kernel
theorem dX0_append_48 : decode cX0_append 48 = .ok (.iastore, 1) := by decide +kernel
theorem dX0_append_49 : decode cX0_append 49 = .ok (.aload_n 0, 1) := by decide +kernel
theorem dX0_append_50 : decode cX0_append 50 = .ok (.dup, 1) := by decide +kernel
theorem dX0_append_51 : decode cX0_append 51 = .ok (.getfield 18, 3) := by decide +kernel
theorem dX0_append_54 : decode cX0_append 54 = .ok (.iconst 1, 1) := by decide +kernel
theorem dX0_append_55 : decode cX0_append 55 = .ok (.iadd, 1) := by decide +kernel
theorem dX0_append_56 : decode cX0_append 56 = .ok (.putfield 18, 3) := by decide +kernel
theorem dX0_append_59 : decode cX0_append 59 = .ok (.return_, 1) := by decide +kernel
theorem dX0_forgetFirst_0 : decode cX0_forgetFirst 0 = .ok (.iconst 1, 1) := by decide +kernel
theorem dX0_forgetFirst_1 : decode cX0_forgetFirst 1 = .ok (.istore_n 1, 1) := by decide +kernel
theorem dX0_forgetFirst_2 : decode cX0_forgetFirst 2 = .ok (.iload_n 1, 1) := by decide +kernel
theorem dX0_forgetFirst_3 : decode cX0_forgetFirst 3 = .ok (.bipush 16, 2) := by decide +kernel
theorem dX0_forgetFirst_5 : decode cX0_forgetFirst 5 = .ok (.if_icmp .ge 37, 3) := by decide +kernel
theorem dX0_forgetFirst_8 : decode cX0_forgetFirst 8 = .ok (.aload_n 0, 1) := by decide +kernel
theorem dX0_forgetFirst_9 : decode cX0_forgetFirst 9 = .ok (.getfield 9, 3) := by decide +kernel
theorem dX0_forgetFirst_12 : decode cX0_forgetFirst 12 = .ok (.iload_n 1, 1) := by decide +kernel
theorem dX0_forgetFirst_13 : decode cX0_forgetFirst 13 = .ok (.iconst 1, 1) := by decide +kernel
theorem dX0_forgetFirst_14 : decode cX0_forgetFirst 14 = .ok (.isub, 1) := by decide +kernel
theorem dX0_forgetFirst_15 : decode cX0_forgetFirst 15 = .ok (.aload_n 0, 1) := by decide +kernel
theorem dX0_forgetFirst_16 : decode cX0_forgetFirst 16 = .ok (.getfield 9, 3) := by decide +kernel
theorem dX0_forgetFirst_19 : decode cX0_forgetFirst 19 = .ok (.iload_n 1, 1) := by decide +kernel
theorem dX0_forgetFirst_20 : decode cX0_forgetFirst 20 = .ok (.iaload, 1) := by decide +kernel
theorem dX0_forgetFirst_21 : decode cX0_forgetFirst 21 = .ok (.iastore, 1) := by decide +kernel
theorem dX0_forgetFirst_22 : decode cX0_forgetFirst 22 = .ok (.aload_n 0, 1) := by decide +kernel
theorem dX0_forgetFirst_23 : decode cX0_forgetFirst 23 = .ok (.getfield 15, 3) := by decide +kernel
theorem dX0_forgetFirst_26 : decode cX0_forgetFirst 26 = .ok (.iload_n 1, 1) := by decide +kernel
theorem dX0_forgetFirst_27 : decode cX0_forgetFirst 27 = .ok (.iconst 1, 1) := by decide +kernel
theorem dX0_forgetFirst_28 : decode cX0_forgetFirst 28 = .ok (.isub, 1) := by decide +kernel
theorem dX0_forgetFirst_29 : decode cX0_forgetFirst 29 = .ok (.aload_n 0, 1) := by decide +kernel
theorem dX0_forgetFirst_30 : decode cX0_forgetFirst 30 = .ok (.getfield 15, 3) := by decide +kernel
theorem dX0_forgetFirst_33 : decode cX0_forgetFirst 33 = .ok (.iload_n 1, 1) := by decide +kernel
theorem dX0_forgetFirst_34 : decode cX0_forgetFirst 34 = .ok (.iaload, 1) := by decide +kernel
theorem dX0_forgetFirst_35 : decode cX0_forgetFirst 35 = .ok (.iastore, 1) := by decide +kernel
theorem dX0_forgetFirst_36 : decode cX0_forgetFirst 36 = .ok (.iinc 1 1, 3) := by decide +kernel
theorem dX0_forgetFirst_39 : decode cX0_forgetFirst 39 = .ok (.goto (-37), 3) := by decide +kernel
theorem dX0_forgetFirst_42 : decode cX0_forgetFirst 42 = .ok (.aload_n 0, 1) := by decide +kernel
theorem dX0_forgetFirst_43 : decode cX0_forgetFirst 43 = .ok (.bipush 15, 2) := by decide +kernel
theorem dX0_forgetFirst_45 : decode cX0_forgetFirst 45 = .ok (.putfield 18, 3) := by decide +kernel
theorem dX0_forgetFirst_48 : decode cX0_forgetFirst 48 = .ok (.return_, 1) := by decide +kernel
theorem dX0_takeBack_0 : decode cX0_takeBack 0 = .ok (.aload_n 0, 1) := by decide +kernel
theorem dX0_takeBack_1 : decode cX0_takeBack 1 = .ok (.getfield 18, 3) := by decide +kernel
theorem dX0_takeBack_4 : decode cX0_takeBack 4 = .ok (.ifCond .le 44, 3) := by decide +kernel
theorem dX0_takeBack_7 : decode cX0_takeBack 7 = .ok (.aload_n 0, 1) := by decide +kernel
theorem dX0_takeBack_8 : decode cX0_takeBack 8 = .ok (.getfield 18, 3) := by decide +kernel
theorem dX0_takeBack_11 : decode cX0_takeBack 11 = .ok (.bipush 16, 2) := by decide +kernel
theorem dX0_takeBack_13 : decode cX0_takeBack 13 = .ok (.if_icmp .gt 35, 3) := by decide +kernel
theorem dX0_takeBack_16 : decode cX0_takeBack 16 = .ok (.aload_n 0, 1) := by decide +kernel
theorem dX0_takeBack_17 : decode cX0_takeBack 17 = .ok (.dup, 1) := by decide +kernel
theorem dX0_takeBack_18 : decode cX0_takeBack 18 = .ok (.getfield 18, 3) := by decide +kernel
theorem dX0_takeBack_21 : decode cX0_takeBack 21 = .ok (.iconst 1, 1) := by decide +kernel
theorem dX0_takeBack_22 : decode cX0_takeBack 22 = .ok (.isub, 1) := by decide +kernel
theorem dX0_takeBack_23 : decode cX0_takeBack 23 = .ok (.putfield 18, 3) := by decide +kernel
theorem dX0_takeBack_26 : decode cX0_takeBack 26 = .ok (.aload_n 1, 1) := by decide +kernel
theorem dX0_takeBack_27 : decode cX0_takeBack 27 = .ok (.aload_n 0, 1) := by decide +kernel
theorem dX0_takeBack_28 : decode cX0_takeBack 28 = .ok (.getfield 9, 3) := by decide +kernel
theorem dX0_takeBack_31 : decode cX0_takeBack 31 = .ok (.aload_n 0, 1) := by decide +kernel
theorem dX0_takeBack_32 : decode cX0_takeBack 32 = .ok (.getfield 18, 3) := by decide +kernel
theorem dX0_takeBack_35 : decode cX0_takeBack 35 = .ok (.iaload, 1) := by decide +kernel
theorem dX0_takeBack_36 : decode cX0_takeBack 36 = .ok (.aload_n 0, 1) := by decide +kernel
theorem dX0_takeBack_37 : decode cX0_takeBack 37 = .ok (.getfield 15, 3) := by decide +kernel
theorem dX0_takeBack_40 : decode cX0_takeBack 40 = .ok (.aload_n 0, 1) := by decide +kernel
theorem dX0_takeBack_41 : decode cX0_takeBack 41 = .ok (.getfield 18, 3) := by decide +kernel
theorem dX0_takeBack_44 : decode cX0_takeBack 44 = .ok (.iaload, 1) := by decide +kernel
theorem dX0_takeBack_45 : decode cX0_takeBack 45 = .ok (.invokevirtual 25, 3) := by decide +kernel
theorem dX0_takeBack_48 : decode cX0_takeBack 48 = .ok (.return_, 1) := by decide +kernel
end
section
theorem dX1_init_0 : decode cX1_init 0 = .ok (.aload_n 0, 1) := by decide +kernel
theorem dX1_init_1 : decode cX1_init 1 = .ok (.invokespecial 3, 3) := by decide +kernel
theorem dX1_init_4 : decode cX1_init 4 = .ok (.aload_n 0, 1) := by decide +kernel
theorem dX1_init_5 : decode cX1_init 5 = .ok (.iconst 5, 1) := by decide +kernel
theorem dX1_init_6 : decode cX1_init 6 = .ok (.newarray .int, 2) := by decide +kernel
theorem dX1_init_8 : decode cX1_init 8 = .ok (.putfield 9, 3) := by decide +kernel
theorem dX1_init_11 : decode cX1_init 11 = .ok (.aload_n 0, 1) := by decide +kernel
theorem dX1_init_12 : decode cX1_init 12 = .ok (.aload_n 1, 1) := by decide +kernel
theorem dX1_init_13 : decode cX1_init 13 = .ok (.putfield 15, 3) := by decide +kernel
theorem dX1_init_16 : decode cX1_init 16 = .ok (.return_, 1) := by decide +kernel
theorem dX1_clear_0 : decode cX1_clear 0 = .ok (.iconst 0, 1) := by decide +kernel
theorem dX1_clear_1 : decode cX1_clear 1 = .ok (.istore_n 1, 1) := by decide +kernel
theorem dX1_clear_2 : decode cX1_clear 2 = .ok (.iload_n 1, 1) := by decide +kernel
theorem dX1_clear_3 : decode cX1_clear 3 = .ok (.iconst 5, 1) := by decide +kernel
theorem dX1_clear_4 : decode cX1_clear 4 = .ok (.if_icmp .ge 16, 3) := by decide +kernel
theorem dX1_clear_7 : decode cX1_clear 7 = .ok (.aload_n 0, 1) := by decide +kernel
theorem dX1_clear_8 : decode cX1_clear 8 = .ok (.getfield 9, 3) := by decide +kernel
theorem dX1_clear_11 : decode cX1_clear 11 = .ok (.iload_n 1, 1) := by decide +kernel
theorem dX1_clear_12 : decode cX1_clear 12 = .ok (.iconst 0, 1) := by decide +kernel
theorem dX1_clear_13 : decode cX1_clear 13 = .ok (.iastore, 1) := by decide +kernel
theorem dX1_clear_14 : decode cX1_clear 14 = .ok (.iinc 1 1, 3) := by decide +kernel
theorem dX1_clear_17 : decode cX1_clear 17 = .ok (.goto (-15), 3) := by decide +kernel
theorem dX1_clear_20 : decode cX1_clear 20 = .ok (.return_, 1) := by decide +kernel
theorem dX1_copy_0 : decode cX1_copy 0 = .ok (.iconst 0, 1) := by decide +kernel
theorem dX1_copy_1 : decode cX1_copy 1 = .ok (.istore_n 2, 1) := by decide +kernel
theorem dX1_copy_2 : decode cX1_copy 2 = .ok (.iload_n 2, 1) := by decide +kernel
theorem dX1_copy_3 : decode cX1_copy 3 = .ok (.iconst 5, 1) := by decide +kernel
theorem dX1_copy_4 : decode cX1_copy 4 = .ok (.if_icmp .ge 21, 3) := by decide +kernel
theorem dX1_copy_7 : decode cX1_copy 7 = .ok (.aload_n 0, 1) := by decide +kernel
theorem dX1_copy_8 : decode cX1_copy 8 = .ok (.getfield 9, 3) := by decide +kernel
theorem dX1_copy_11 : decode cX1_copy 11 = .ok (.iload_n 2, 1) := by decide +kernel
theorem dX1_copy_12 : decode cX1_copy 12 = .ok (.aload_n 1, 1) := by decide +kernel
theorem dX1_copy_13 : decode cX1_copy 13 = .ok (.getfield 9, 3) := by decide +kernel
theorem dX1_copy_16 : decode cX1_copy 16 = .ok (.iload_n 2, 1) := by decide +kernel
theorem dX1_copy_17 : decode cX1_copy 17 = .ok (.iaload, 1) := by decide +kernel
theorem dX1_copy_18 : decode cX1_copy 18 = .ok (.iastore, 1) := by decide +kernel
theorem dX1_copy_19 : decode cX1_copy 19 = .ok (.iinc 2 1, 3) := by decide +kernel
theorem dX1_copy_22 : decode cX1_copy 22 = .ok (.goto (-20), 3) := by decide +kernel
theorem dX1_copy_25 : decode cX1_copy 25 = .ok (.return_, 1) := by decide +kernel
theorem dX1_tell_0 : decode cX1_tell 0 = .ok (.iload_n 1, 1) := by decide +kernel
theorem dX1_tell_1 : decode cX1_tell 1 = .ok (.ifCond .lt 15, 3) := by decide +kernel
theorem dX1_tell_4 : decode cX1_tell 4 = .ok (.iload_n 1, 1) := by decide +kernel
theorem dX1_tell_5 : decode cX1_tell 5 = .ok (.iconst 5, 1) := by decide +kernel
theorem dX1_tell_6 : decode cX1_tell 6 = .ok (.if_icmp .ge 10, 3) := by decide +kernel
theorem dX1_tell_9 : decode cX1_tell 9 = .ok (.aload_n 0, 1) := by decide +kernel
theorem dX1_tell_10 : decode cX1_tell 10 = .ok (.getfield 9, 3) := by decide +kernel
theorem dX1_tell_13 : decode cX1_tell 13 = .ok (.iload_n 1, 1) := by decide +kernel
theorem dX1_tell_14 : decode cX1_tell 14 = .ok (.iload_n 2, 1) := by decide +kernel
theorem dX1_tell_15 : decode cX1_tell 15 = .ok (.iastore, 1) := by decide +kernel
theorem dX1_tell_16 : decode cX1_tell 16 = .ok (.return_, 1) := by decide +kernel
theorem dX1_toldOf_0 : decode cX1_toldOf 0 = .ok (.iload_n 1, 1) := by decide +kernel
theorem dX1_toldOf_1 : decode cX1_toldOf 1 = .ok (.ifCond .lt 17, 3) := by decide +kernel
theorem dX1_toldOf_4 : decode cX1_toldOf 4 = .ok (.iload_n 1, 1) := by decide +kernel
theorem dX1_toldOf_5 : decode cX1_toldOf 5 = .ok (.iconst 5, 1) := by decide +kernel
theorem dX1_toldOf_6 : decode cX1_toldOf 6 = .ok (.if_icmp .ge 12, 3) := by decide +kernel
theorem dX1_toldOf_9 : decode cX1_toldOf 9 = .ok (.aload_n 0, 1) := by decide +kernel
theorem dX1_toldOf_10 : decode cX1_toldOf 10 = .ok (.getfield 9, 3) := by decide +kernel
theorem dX1_toldOf_13 : decode cX1_toldOf 13 = .ok (.iload_n 1, 1) := by decide +kernel
theorem dX1_toldOf_14 : decode cX1_toldOf 14 = .ok (.iaload, 1) := by decide +kernel
theorem dX1_toldOf_15 : decode cX1_toldOf 15 = .ok (.goto 4, 3) := by decide +kernel
theorem dX1_toldOf_18 : decode cX1_toldOf 18 = .ok (.iconst 0, 1) := by decide +kernel
theorem dX1_toldOf_19 : decode cX1_toldOf 19 = .ok (.ireturn, 1) := by decide +kernel
theorem dX1_isLet_0 : decode cX1_isLet 0 = .ok (.aload_n 0, 1) := by decide +kernel
theorem dX1_isLet_1 : decode cX1_isLet 1 = .ok (.iload_n 1, 1) := by decide +kernel
theorem dX1_isLet_2 : decode cX1_isLet 2 = .ok (.invokevirtual 19, 3) := by decide +kernel
theorem dX1_isLet_5 : decode cX1_isLet 5 = .ok (.ifCond .eq 7, 3) := by decide +kernel
theorem dX1_isLet_8 : decode cX1_isLet 8 = .ok (.iconst 1, 1) := by decide +kernel
theorem dX1_isLet_9 : decode cX1_isLet 9 = .ok (.goto 4, 3) := by decide +kernel
theorem dX1_isLet_12 : decode cX1_isLet 12 = .ok (.iconst 0, 1) := by decide +kernel
theorem dX1_isLet_13 : decode cX1_isLet 13 = .ok (.ireturn, 1) := by decide +kernel
theorem dX1_secondOf_0 : decode cX1_secondOf 0 = .ok (.aload_n 0, 1) := by decide +kernel
theorem dX1_secondOf_1 : decode cX1_secondOf 1 = .ok (.iload_n 1, 1) := by decide +kernel
theorem dX1_secondOf_2 : decode cX1_secondOf 2 = .ok (.invokevirtual 19, 3) := by decide +kernel
theorem dX1_secondOf_5 : decode cX1_secondOf 5 = .ok (.istore_n 2, 1) := by decide +kernel
theorem dX1_secondOf_6 : decode cX1_secondOf 6 = .ok (.iload_n 2, 1) := by decide +kernel
theorem dX1_secondOf_7 : decode cX1_secondOf 7 = .ok (.ifCond .eq 9, 3) := by decide +kernel
theorem dX1_secondOf_10 : decode cX1_secondOf 10 = .ok (.iload_n 2, 1) := by decide +kernel
theorem dX1_secondOf_11 : decode cX1_secondOf 11 = .ok (.iconst 1, 1) := by decide +kernel
theorem dX1_secondOf_12 : decode cX1_secondOf 12 = .ok (.isub, 1) := by decide +kernel
theorem dX1_secondOf_13 : decode cX1_secondOf 13 = .ok (.goto 5, 3) := by decide +kernel
theorem dX1_secondOf_16 : decode cX1_secondOf 16 = .ok (.bipush (-9), 2) := by decide +kernel
theorem dX1_secondOf_18 : decode cX1_secondOf 18 = .ok (.ireturn, 1) := by decide +kernel
theorem dX1_everyoneLet_0 : decode cX1_everyoneLet 0 = .ok (.iconst 0, 1) := by decide +kernel
theorem dX1_everyoneLet_1 : decode cX1_everyoneLet 1 = .ok (.istore_n 1, 1) := by decide +kernel
theorem dX1_everyoneLet_2 : decode cX1_everyoneLet 2 = .ok (.iconst 0, 1) := by decide +kernel
theorem dX1_everyoneLet_3 : decode cX1_everyoneLet 3 = .ok (.istore_n 2, 1) := by decide +kernel
theorem dX1_everyoneLet_4 : decode cX1_everyoneLet 4 = .ok (.iload_n 2, 1) := by decide +kernel
theorem dX1_everyoneLet_5 : decode cX1_everyoneLet 5 = .ok (.iconst 5, 1) := by decide +kernel
theorem dX1_everyoneLet_6 : decode cX1_everyoneLet 6 = .ok (.if_icmp .ge 27, 3) := by decide +kernel
theorem dX1_everyoneLet_9 : decode cX1_everyoneLet 9 = .ok (.iload_n 1, 1) := by decide +kernel
theorem dX1_everyoneLet_10 : decode cX1_everyoneLet 10 = .ok (.aload_n 0, 1) := by decide +kernel
theorem dX1_everyoneLet_11 : decode cX1_everyoneLet 11 = .ok (.iload_n 2, 1) := by decide +kernel
theorem dX1_everyoneLet_12 : decode cX1_everyoneLet 12 = .ok (.invokevirtual 23, 3) := by decide +kernel
theorem dX1_everyoneLet_15 : decode cX1_everyoneLet 15 = .ok (.ifCond .eq 9, 3) := by decide +kernel
theorem dX1_everyoneLet_18 : decode cX1_everyoneLet 18 = .ok (.iconst 1, 1) := by decide +kernel
theorem dX1_everyoneLet_19 : decode cX1_everyoneLet 19 = .ok (.iload_n 2, 1) := by decide +kernel
theorem dX1_everyoneLet_20 : decode cX1_everyoneLet 20 = .ok (.ishl, 1) := by decide +kernel
theorem dX1_everyoneLet_21 : decode cX1_everyoneLet 21 = .ok (.goto 4, 3) := by decide +kernel
theorem dX1_everyoneLet_24 : decode cX1_everyoneLet 24 = .ok (.iconst 0, 1) := by decide +kernel
theorem dX1_everyoneLet_25 : decode cX1_everyoneLet 25 = .ok (.ior, 1) := by decide +kernel
theorem dX1_everyoneLet_26 : decode cX1_everyoneLet 26 = .ok (.istore_n 1, 1) := by decide +kernel
theorem dX1_everyoneLet_27 : decode cX1_everyoneLet 27 = .ok (.iinc 2 1, 3) := by decide +kernel
theorem dX1_everyoneLet_30 : decode cX1_everyoneLet 30 = .ok (.goto (-26), 3) := by decide +kernel
theorem dX1_everyoneLet_33 : decode cX1_everyoneLet 33 = .ok (.iload_n 1, 1) := by decide +kernel
theorem dX1_everyoneLet_34 : decode cX1_everyoneLet 34 = .ok (.ireturn, 1) := by decide +kernel
theorem dX1_worth_0 : decode cX1_worth 0 = .ok (.aload_n 0, 1) := by decide +kernel
theorem dX1_worth_1 : decode cX1_worth 1 = .ok (.aload_n 0, 1) := by decide +kernel
theorem dX1_worth_2 : decode cX1_worth 2 = .ok (.invokevirtual 27, 3) := by decide +kernel
theorem dX1_worth_5 : decode cX1_worth 5 = .ok (.invokevirtual 31, 3) := by decide +kernel
theorem dX1_worth_8 : decode cX1_worth 8 = .ok (.ireturn, 1) := by decide +kernel
theorem dX1_worthOf_0 : decode cX1_worthOf 0 = .ok (.iconst 0, 1) := by decide +kernel
theorem dX1_worthOf_1 : decode cX1_worthOf 1 = .ok (.istore_n 2, 1) := by decide +kernel
theorem dX1_worthOf_2 : decode cX1_worthOf 2 = .ok (.iconst 0, 1) := by decide +kernel
theorem dX1_worthOf_3 : decode cX1_worthOf 3 = .ok (.istore_n 3, 1) := by decide +kernel
theorem dX1_worthOf_4 : decode cX1_worthOf 4 = .ok (.iload_n 3, 1) := by decide +kernel
theorem dX1_worthOf_5 : decode cX1_worthOf 5 = .ok (.iconst 5, 1) := by decide +kernel
theorem dX1_worthOf_6 : decode cX1_worthOf 6 = .ok (.if_icmp .ge 27, 3) := by decide +kernel
theorem dX1_worthOf_9 : decode cX1_worthOf 9 = .ok (.iload_n 2, 1) := by decide +kernel
theorem dX1_worthOf_10 : decode cX1_worthOf 10 = .ok (.iload_n 1, 1) := by decide +kernel
theorem dX1_worthOf_11 : decode cX1_worthOf 11 = .ok (.iload_n 3, 1) := by decide +kernel
theorem dX1_worthOf_12 : decode cX1_worthOf 12 = .ok (.iushr, 1) := by decide +kernel
theorem dX1_worthOf_13 : decode cX1_worthOf 13 = .ok (.iconst 1, 1) := by decide +kernel
theorem dX1_worthOf_14 : decode cX1_worthOf 14 = .ok (.iand, 1) := by decide +kernel
theorem dX1_worthOf_15 : decode cX1_worthOf 15 = .ok (.aload_n 0, 1) := by decide +kernel
theorem dX1_worthOf_16 : decode cX1_worthOf 16 = .ok (.getfield 15, 3) := by decide +kernel
theorem dX1_worthOf_19 : decode cX1_worthOf 19 = .ok (.getfield 34, 3) := by decide +kernel
theorem dX1_worthOf_22 : decode cX1_worthOf 22 = .ok (.iload_n 3, 1) := by decide +kernel
theorem dX1_worthOf_23 : decode cX1_worthOf 23 = .ok (.iaload, 1) := by decide +kernel
theorem dX1_worthOf_24 : decode cX1_worthOf 24 = .ok (.imul, 1) := by decide +kernel
theorem dX1_worthOf_25 : decode cX1_worthOf 25 = .ok (.iadd, 1) := by decide +kernel
theorem dX1_worthOf_26 : decode cX1_worthOf 26 = .ok (.istore_n 2, 1) := by decide +kernel
theorem dX1_worthOf_27 : decode cX1_worthOf 27 = .ok (.iinc 3 1, 3) := by decide +kernel
theorem dX1_worthOf_30 : decode cX1_worthOf 30 = .ok (.goto (-26), 3) := by decide +kernel
theorem dX1_worthOf_33 : decode cX1_worthOf 33 = .ok (.iload_n 2, 1) := by decide +kernel
theorem dX1_worthOf_34 : decode cX1_worthOf 34 = .ok (.ireturn, 1) := by decide +kernel
theorem dX1_ringing_0 : decode cX1_ringing 0 = .ok (.iconst 0, 1) := by decide +kernel
theorem dX1_ringing_1 : decode cX1_ringing 1 = .ok (.istore_n 1, 1) := by decide +kernel
theorem dX1_ringing_2 : decode cX1_ringing 2 = .ok (.iconst 0, 1) := by decide +kernel
theorem dX1_ringing_3 : decode cX1_ringing 3 = .ok (.istore_n 2, 1) := by decide +kernel
theorem dX1_ringing_4 : decode cX1_ringing 4 = .ok (.iload_n 2, 1) := by decide +kernel
theorem dX1_ringing_5 : decode cX1_ringing 5 = .ok (.iconst 5, 1) := by decide +kernel
theorem dX1_ringing_6 : decode cX1_ringing 6 = .ok (.if_icmp .ge 25, 3) := by decide +kernel
theorem dX1_ringing_9 : decode cX1_ringing 9 = .ok (.iload_n 1, 1) := by decide +kernel
theorem dX1_ringing_10 : decode cX1_ringing 10 = .ok (.aload_n 0, 1) := by decide +kernel
theorem dX1_ringing_11 : decode cX1_ringing 11 = .ok (.getfield 15, 3) := by decide +kernel
theorem dX1_ringing_14 : decode cX1_ringing 14 = .ok (.iload_n 2, 1) := by decide +kernel
theorem dX1_ringing_15 : decode cX1_ringing 15 = .ok (.aload_n 0, 1) := by decide +kernel
theorem dX1_ringing_16 : decode cX1_ringing 16 = .ok (.iload_n 2, 1) := by decide +kernel
theorem dX1_ringing_17 : decode cX1_ringing 17 = .ok (.invokevirtual 39, 3) := by decide +kernel
theorem dX1_ringing_20 : decode cX1_ringing 20 = .ok (.invokevirtual 42, 3) := by decide +kernel
theorem dX1_ringing_23 : decode cX1_ringing 23 = .ok (.ior, 1) := by decide +kernel
theorem dX1_ringing_24 : decode cX1_ringing 24 = .ok (.istore_n 1, 1) := by decide +kernel
theorem dX1_ringing_25 : decode cX1_ringing 25 = .ok (.iinc 2 1, 3) := by decide +kernel
theorem dX1_ringing_28 : decode cX1_ringing 28 = .ok (.goto (-24), 3) := by decide +kernel
theorem dX1_ringing_31 : decode cX1_ringing 31 = .ok (.iload_n 1, 1) := by decide +kernel
theorem dX1_ringing_32 : decode cX1_ringing 32 = .ok (.ireturn, 1) := by decide +kernel
theorem dX1_clashing_0 : decode cX1_clashing 0 = .ok (.iconst 0, 1) := by decide +kernel
theorem dX1_clashing_1 : decode cX1_clashing 1 = .ok (.istore_n 3, 1) := by decide +kernel
theorem dX1_clashing_2 : decode cX1_clashing 2 = .ok (.iconst 0, 1) := by decide +kernel
theorem dX1_clashing_3 : decode cX1_clashing 3 = .ok (.istore 4, 2) := by decide +kernel
theorem dX1_clashing_5 : decode cX1_clashing 5 = .ok (.iload 4, 2) := by decide +kernel
theorem dX1_clashing_7 : decode cX1_clashing 7 = .ok (.iconst 5, 1) := by decide +kernel
theorem dX1_clashing_8 : decode cX1_clashing 8 = .ok (.if_icmp .ge 55, 3) := by decide +kernel
theorem dX1_clashing_11 : decode cX1_clashing 11 = .ok (.iload 4, 2) := by decide +kernel
theorem dX1_clashing_13 : decode cX1_clashing 13 = .ok (.iload_n 1, 1) := by decide +kernel
theorem dX1_clashing_14 : decode cX1_clashing 14 = .ok (.if_icmp .eq 43, 3) := by decide +kernel
theorem dX1_clashing_17 : decode cX1_clashing 17 = .ok (.aload_n 0, 1) := by decide +kernel
theorem dX1_clashing_18 : decode cX1_clashing 18 = .ok (.getfield 9, 3) := by decide +kernel
theorem dX1_clashing_21 : decode cX1_clashing 21 = .ok (.iload 4, 2) := by decide +kernel
theorem dX1_clashing_23 : decode cX1_clashing 23 = .ok (.iaload, 1) := by decide +kernel
theorem dX1_clashing_24 : decode cX1_clashing 24 = .ok (.ifCond .eq 33, 3) := by decide +kernel
theorem dX1_clashing_27 : decode cX1_clashing 27 = .ok (.aload_n 0, 1) := by decide +kernel
theorem dX1_clashing_28 : decode cX1_clashing 28 = .ok (.getfield 15, 3) := by decide +kernel
theorem dX1_clashing_31 : decode cX1_clashing 31 = .ok (.iload_n 1, 1) := by decide +kernel
theorem dX1_clashing_32 : decode cX1_clashing 32 = .ok (.iload_n 2, 1) := by decide +kernel
theorem dX1_clashing_33 : decode cX1_clashing 33 = .ok (.iload 4, 2) := by decide +kernel
theorem dX1_clashing_35 : decode cX1_clashing 35 = .ok (.aload_n 0, 1) := by decide +kernel
theorem dX1_clashing_36 : decode cX1_clashing 36 = .ok (.getfield 9, 3) := by decide +kernel
theorem dX1_clashing_39 : decode cX1_clashing 39 = .ok (.iload 4, 2) := by decide +kernel
theorem dX1_clashing_41 : decode cX1_clashing 41 = .ok (.iaload, 1) := by decide +kernel
theorem dX1_clashing_42 : decode cX1_clashing 42 = .ok (.iconst 1, 1) := by decide +kernel
theorem dX1_clashing_43 : decode cX1_clashing 43 = .ok (.isub, 1) := by decide +kernel
theorem dX1_clashing_44 : decode cX1_clashing 44 = .ok (.invokevirtual 46, 3) := by decide +kernel
theorem dX1_clashing_47 : decode cX1_clashing 47 = .ok (.ifCond .eq 10, 3) := by decide +kernel
theorem dX1_clashing_50 : decode cX1_clashing 50 = .ok (.iload_n 3, 1) := by decide +kernel
theorem dX1_clashing_51 : decode cX1_clashing 51 = .ok (.iconst 1, 1) := by decide +kernel
theorem dX1_clashing_52 : decode cX1_clashing 52 = .ok (.iload 4, 2) := by decide +kernel
theorem dX1_clashing_54 : decode cX1_clashing 54 = .ok (.ishl, 1) := by decide +kernel
theorem dX1_clashing_55 : decode cX1_clashing 55 = .ok (.ior, 1) := by decide +kernel
theorem dX1_clashing_56 : decode cX1_clashing 56 = .ok (.istore_n 3, 1) := by decide +kernel
theorem dX1_clashing_57 : decode cX1_clashing 57 = .ok (.iinc 4 1, 3) := by decide +kernel
theorem dX1_clashing_60 : decode cX1_clashing 60 = .ok (.goto (-55), 3) := by decide +kernel
theorem dX1_clashing_63 : decode cX1_clashing 63 = .ok (.iload_n 3, 1) := by decide +kernel
theorem dX1_clashing_64 : decode cX1_clashing 64 = .ok (.ireturn, 1) := by decide +kernel
theorem dX1_fits_0 : decode cX1_fits 0 = .ok (.aload_n 0, 1) := by decide +kernel
theorem dX1_fits_1 : decode cX1_fits 1 = .ok (.getfield 15, 3) := by decide +kernel
theorem dX1_fits_4 : decode cX1_fits 4 = .ok (.iload_n 1, 1) := by decide +kernel
theorem dX1_fits_5 : decode cX1_fits 5 = .ok (.iload_n 2, 1) := by decide +kernel
theorem dX1_fits_6 : decode cX1_fits 6 = .ok (.invokevirtual 50, 3) := by decide +kernel
theorem dX1_fits_9 : decode cX1_fits 9 = .ok (.ifCond .eq 16, 3) := by decide +kernel
theorem dX1_fits_12 : decode cX1_fits 12 = .ok (.aload_n 0, 1) := by decide +kernel
theorem dX1_fits_13 : decode cX1_fits 13 = .ok (.iload_n 1, 1) := by decide +kernel
theorem dX1_fits_14 : decode cX1_fits 14 = .ok (.iload_n 2, 1) := by decide +kernel
theorem dX1_fits_15 : decode cX1_fits 15 = .ok (.invokevirtual 54, 3) := by decide +kernel
theorem dX1_fits_18 : decode cX1_fits 18 = .ok (.ifCond .ne 7, 3) := by decide +kernel
theorem dX1_fits_21 : decode cX1_fits 21 = .ok (.iconst 1, 1) := by decide +kernel
theorem dX1_fits_22 : decode cX1_fits 22 = .ok (.goto 4, 3) := by decide +kernel
theorem dX1_fits_25 : decode cX1_fits 25 = .ok (.iconst 0, 1) := by decide +kernel
theorem dX1_fits_26 : decode cX1_fits 26 = .ok (.ireturn, 1) := by decide +kernel
theorem dX1_letIfCan_0 : decode cX1_letIfCan 0 = .ok (.aload_n 0, 1) := by decide +kernel
theorem dX1_letIfCan_1 : decode cX1_letIfCan 1 = .ok (.iload_n 1, 1) := by decide +kernel
theorem dX1_letIfCan_2 : decode cX1_letIfCan 2 = .ok (.invokevirtual 23, 3) := by decide +kernel
theorem dX1_letIfCan_5 : decode cX1_letIfCan 5 = .ok (.ifCond .ne 16, 3) := by decide +kernel
theorem dX1_letIfCan_8 : decode cX1_letIfCan 8 = .ok (.aload_n 0, 1) := by decide +kernel
theorem dX1_letIfCan_9 : decode cX1_letIfCan 9 = .ok (.iload_n 1, 1) := by decide +kernel
theorem dX1_letIfCan_10 : decode cX1_letIfCan 10 = .ok (.iload_n 2, 1) := by decide +kernel
theorem dX1_letIfCan_11 : decode cX1_letIfCan 11 = .ok (.invokevirtual 57, 3) := by decide +kernel
theorem dX1_letIfCan_14 : decode cX1_letIfCan 14 = .ok (.ifCond .eq 7, 3) := by decide +kernel
theorem dX1_letIfCan_17 : decode cX1_letIfCan 17 = .ok (.iconst 1, 1) := by decide +kernel
theorem dX1_letIfCan_18 : decode cX1_letIfCan 18 = .ok (.goto 4, 3) := by decide +kernel
theorem dX1_letIfCan_21 : decode cX1_letIfCan 21 = .ok (.iconst 0, 1) := by decide +kernel
theorem dX1_letIfCan_22 : decode cX1_letIfCan 22 = .ok (.istore_n 3, 1) := by decide +kernel
theorem dX1_letIfCan_23 : decode cX1_letIfCan 23 = .ok (.iload_n 3, 1) := by decide +kernel
theorem dX1_letIfCan_24 : decode cX1_letIfCan 24 = .ok (.ifCond .eq 11, 3) := by decide +kernel
theorem dX1_letIfCan_27 : decode cX1_letIfCan 27 = .ok (.aload_n 0, 1) := by decide +kernel
theorem dX1_letIfCan_28 : decode cX1_letIfCan 28 = .ok (.iload_n 1, 1) := by decide +kernel
theorem dX1_letIfCan_29 : decode cX1_letIfCan 29 = .ok (.iload_n 2, 1) := by decide +kernel
theorem dX1_letIfCan_30 : decode cX1_letIfCan 30 = .ok (.iconst 1, 1) := by decide +kernel
theorem dX1_letIfCan_31 : decode cX1_letIfCan 31 = .ok (.iadd, 1) := by decide +kernel
theorem dX1_letIfCan_32 : decode cX1_letIfCan 32 = .ok (.invokevirtual 60, 3) := by decide +kernel
theorem dX1_letIfCan_35 : decode cX1_letIfCan 35 = .ok (.iload_n 3, 1) := by decide +kernel
theorem dX1_letIfCan_36 : decode cX1_letIfCan 36 = .ok (.ireturn, 1) := by decide +kernel
theorem dX1_cheapestBegin_0 : decode cX1_cheapestBegin 0 = .ok (.iconst 0, 1) := by decide +kernel
theorem dX1_cheapestBegin_1 : decode cX1_cheapestBegin 1 = .ok (.istore_n 2, 1) := by decide +kernel
theorem dX1_cheapestBegin_2 : decode cX1_cheapestBegin 2 = .ok (.bipush (-9), 2) := by decide +kernel
theorem dX1_cheapestBegin_4 : decode cX1_cheapestBegin 4 = .ok (.istore_n 3, 1) := by decide +kernel
theorem dX1_cheapestBegin_5 : decode cX1_cheapestBegin 5 = .ok (.iconst 0, 1) := by decide +kernel
theorem dX1_cheapestBegin_6 : decode cX1_cheapestBegin 6 = .ok (.istore 4, 2) := by decide +kernel
theorem dX1_cheapestBegin_8 : decode cX1_cheapestBegin 8 = .ok (.iload 4, 2) := by decide +kernel
theorem dX1_cheapestBegin_10 : decode cX1_cheapestBegin 10 = .ok (.bipush 10, 2) := by decide +kernel
theorem dX1_cheapestBegin_12 : decode cX1_cheapestBegin 12 = .ok (.if_icmp .ge 53, 3) := by decide +kernel
theorem dX1_cheapestBegin_15 : decode cX1_cheapestBegin 15 = .ok (.aload_n 0, 1) := by decide +kernel
theorem dX1_cheapestBegin_16 : decode cX1_cheapestBegin 16 = .ok (.getfield 15, 3) := by decide +kernel
theorem dX1_cheapestBegin_19 : decode cX1_cheapestBegin 19 = .ok (.iload_n 1, 1) := by decide +kernel
theorem dX1_cheapestBegin_20 : decode cX1_cheapestBegin 20 = .ok (.iload 4, 2) := by decide +kernel
theorem dX1_cheapestBegin_22 : decode cX1_cheapestBegin 22 = .ok (.invokevirtual 50, 3) := by decide +kernel
theorem dX1_cheapestBegin_25 : decode cX1_cheapestBegin 25 = .ok (.ifCond .eq 34, 3) := by decide +kernel
theorem dX1_cheapestBegin_28 : decode cX1_cheapestBegin 28 = .ok (.aload_n 0, 1) := by decide +kernel
theorem dX1_cheapestBegin_29 : decode cX1_cheapestBegin 29 = .ok (.aload_n 0, 1) := by decide +kernel
theorem dX1_cheapestBegin_30 : decode cX1_cheapestBegin 30 = .ok (.iload_n 1, 1) := by decide +kernel
theorem dX1_cheapestBegin_31 : decode cX1_cheapestBegin 31 = .ok (.iload 4, 2) := by decide +kernel
theorem dX1_cheapestBegin_33 : decode cX1_cheapestBegin 33 = .ok (.invokevirtual 54, 3) := by decide +kernel
theorem dX1_cheapestBegin_36 : decode cX1_cheapestBegin 36 = .ok (.invokevirtual 31, 3) := by decide +kernel
theorem dX1_cheapestBegin_39 : decode cX1_cheapestBegin 39 = .ok (.istore 5, 2) := by decide +kernel
theorem dX1_cheapestBegin_41 : decode cX1_cheapestBegin 41 = .ok (.iload_n 3, 1) := by decide +kernel
theorem dX1_cheapestBegin_42 : decode cX1_cheapestBegin 42 = .ok (.bipush (-9), 2) := by decide +kernel
theorem dX1_cheapestBegin_44 : decode cX1_cheapestBegin 44 = .ok (.if_icmp .eq 9, 3) := by decide +kernel
theorem dX1_cheapestBegin_47 : decode cX1_cheapestBegin 47 = .ok (.iload 5, 2) := by decide +kernel
theorem dX1_cheapestBegin_49 : decode cX1_cheapestBegin 49 = .ok (.iload_n 2, 1) := by decide +kernel
theorem dX1_cheapestBegin_50 : decode cX1_cheapestBegin 50 = .ok (.if_icmp .ge 9, 3) := by decide +kernel
theorem dX1_cheapestBegin_53 : decode cX1_cheapestBegin 53 = .ok (.iload 5, 2) := by decide +kernel
theorem dX1_cheapestBegin_55 : decode cX1_cheapestBegin 55 = .ok (.istore_n 2, 1) := by decide +kernel
theorem dX1_cheapestBegin_56 : decode cX1_cheapestBegin 56 = .ok (.iload 4, 2) := by decide +kernel
theorem dX1_cheapestBegin_58 : decode cX1_cheapestBegin 58 = .ok (.istore_n 3, 1) := by decide +kernel
theorem dX1_cheapestBegin_59 : decode cX1_cheapestBegin 59 = .ok (.iinc 4 1, 3) := by decide +kernel
theorem dX1_cheapestBegin_62 : decode cX1_cheapestBegin 62 = .ok (.goto (-54), 3) := by decide +kernel
theorem dX1_cheapestBegin_65 : decode cX1_cheapestBegin 65 = .ok (.iload_n 3, 1) := by decide +kernel
theorem dX1_cheapestBegin_66 : decode cX1_cheapestBegin 66 = .ok (.ireturn, 1) := by decide +kernel
end
section
theorem dX2_init_0 : decode cX2_init 0 = .ok (.aload_n 0, 1) := by decide +kernel
theorem dX2_init_1 : decode cX2_init 1 = .ok (.invokespecial 3, 3) := by decide +kernel
theorem dX2_init_4 : decode cX2_init 4 = .ok (.aload_n 0, 1) := by decide +kernel
theorem dX2_init_5 : decode cX2_init 5 = .ok (.iconst 0, 1) := by decide +kernel
theorem dX2_init_6 : decode cX2_init 6 = .ok (.putfield 9, 3) := by decide +kernel
theorem dX2_init_9 : decode cX2_init 9 = .ok (.aload_n 0, 1) := by decide +kernel
theorem dX2_init_10 : decode cX2_init 10 = .ok (.iconst 0, 1) := by decide +kernel
theorem dX2_init_11 : decode cX2_init 11 = .ok (.putfield 15, 3) := by decide +kernel
theorem dX2_init_14 : decode cX2_init 14 = .ok (.aload_n 0, 1) := by decide +kernel
theorem dX2_init_15 : decode cX2_init 15 = .ok (.iconst 0, 1) := by decide +kernel
theorem dX2_init_16 : decode cX2_init 16 = .ok (.putfield 18, 3) := by decide +kernel
theorem dX2_init_19 : decode cX2_init 19 = .ok (.aload_n 0, 1) := by decide +kernel
theorem dX2_init_20 : decode cX2_init 20 = .ok (.iconst 0, 1) := by decide +kernel
theorem dX2_init_21 : decode cX2_init 21 = .ok (.putfield 21, 3) := by decide +kernel
theorem dX2_init_24 : decode cX2_init 24 = .ok (.aload_n 0, 1) := by decide +kernel
theorem dX2_init_25 : decode cX2_init 25 = .ok (.iconst 0, 1) := by decide +kernel
theorem dX2_init_26 : decode cX2_init 26 = .ok (.putfield 24, 3) := by decide +kernel
theorem dX2_init_29 : decode cX2_init 29 = .ok (.aload_n 0, 1) := by decide +kernel
theorem dX2_init_30 : decode cX2_init 30 = .ok (.iconst 0, 1) := by decide +kernel
theorem dX2_init_31 : decode cX2_init 31 = .ok (.putfield 27, 3) := by decide +kernel
theorem dX2_init_34 : decode cX2_init 34 = .ok (.aload_n 0, 1) := by decide +kernel
theorem dX2_init_35 : decode cX2_init 35 = .ok (.iconst 0, 1) := by decide +kernel
theorem dX2_init_36 : decode cX2_init 36 = .ok (.putfield 30, 3) := by decide +kernel
theorem dX2_init_39 : decode cX2_init 39 = .ok (.aload_n 0, 1) := by decide +kernel
theorem dX2_init_40 : decode cX2_init 40 = .ok (.iconst 0, 1) := by decide +kernel
theorem dX2_init_41 : decode cX2_init 41 = .ok (.putfield 33, 3) := by decide +kernel
theorem dX2_init_44 : decode cX2_init 44 = .ok (.aload_n 0, 1) := by decide +kernel
theorem dX2_init_45 : decode cX2_init 45 = .ok (.iconst 0, 1) := by decide +kernel
theorem dX2_init_46 : decode cX2_init 46 = .ok (.putfield 36, 3) := by decide +kernel
theorem dX2_init_49 : decode cX2_init 49 = .ok (.aload_n 0, 1) := by decide +kernel
theorem dX2_init_50 : decode cX2_init 50 = .ok (.iconst 0, 1) := by decide +kernel
theorem dX2_init_51 : decode cX2_init 51 = .ok (.putfield 39, 3) := by decide +kernel
theorem dX2_init_54 : decode cX2_init 54 = .ok (.aload_n 0, 1) := by decide +kernel
theorem dX2_init_55 : decode cX2_init 55 = .ok (.aload_n 1, 1) := by decide +kernel
theorem dX2_init_56 : decode cX2_init 56 = .ok (.putfield 42, 3) := by decide +kernel
theorem dX2_init_59 : decode cX2_init 59 = .ok (.return_, 1) := by decide +kernel
theorem dX2_tally_0 : decode cX2_tally 0 = .ok (.aload_n 0, 1) := by decide +kernel
theorem dX2_tally_1 : decode cX2_tally 1 = .ok (.iconst 0, 1) := by decide +kernel
theorem dX2_tally_2 : decode cX2_tally 2 = .ok (.putfield 9, 3) := by decide +kernel
theorem dX2_tally_5 : decode cX2_tally 5 = .ok (.aload_n 0, 1) := by decide +kernel
theorem dX2_tally_6 : decode cX2_tally 6 = .ok (.iconst 0, 1) := by decide +kernel
theorem dX2_tally_7 : decode cX2_tally 7 = .ok (.putfield 15, 3) := by decide +kernel
theorem dX2_tally_10 : decode cX2_tally 10 = .ok (.aload_n 0, 1) := by decide +kernel
theorem dX2_tally_11 : decode cX2_tally 11 = .ok (.bipush 31, 2) := by decide +kernel
theorem dX2_tally_13 : decode cX2_tally 13 = .ok (.putfield 18, 3) := by decide +kernel
theorem dX2_tally_16 : decode cX2_tally 16 = .ok (.aload_n 0, 1) := by decide +kernel
theorem dX2_tally_17 : decode cX2_tally 17 = .ok (.iconst 0, 1) := by decide +kernel
theorem dX2_tally_18 : decode cX2_tally 18 = .ok (.putfield 21, 3) := by decide +kernel
theorem dX2_tally_21 : decode cX2_tally 21 = .ok (.aload_n 0, 1) := by decide +kernel
theorem dX2_tally_22 : decode cX2_tally 22 = .ok (.iload_n 2, 1) := by decide +kernel
theorem dX2_tally_23 : decode cX2_tally 23 = .ok (.putfield 27, 3) := by decide +kernel
theorem dX2_tally_26 : decode cX2_tally 26 = .ok (.aload_n 0, 1) := by decide +kernel
theorem dX2_tally_27 : decode cX2_tally 27 = .ok (.aload_n 1, 1) := by decide +kernel
theorem dX2_tally_28 : decode cX2_tally 28 = .ok (.iconst 1, 1) := by decide +kernel
theorem dX2_tally_29 : decode cX2_tally 29 = .ok (.aload_n 0, 1) := by decide +kernel
theorem dX2_tally_30 : decode cX2_tally 30 = .ok (.getfield 42, 3) := by decide +kernel
theorem dX2_tally_33 : decode cX2_tally 33 = .ok (.getfield 46, 3) := by decide +kernel
theorem dX2_tally_36 : decode cX2_tally 36 = .ok (.invokevirtual 51, 3) := by decide +kernel
theorem dX2_tally_39 : decode cX2_tally 39 = .ok (.putfield 24, 3) := by decide +kernel
theorem dX2_tally_42 : decode cX2_tally 42 = .ok (.aload_n 1, 1) := by decide +kernel
theorem dX2_tally_43 : decode cX2_tally 43 = .ok (.iconst 0, 1) := by decide +kernel
theorem dX2_tally_44 : decode cX2_tally 44 = .ok (.aload_n 0, 1) := by decide +kernel
theorem dX2_tally_45 : decode cX2_tally 45 = .ok (.getfield 42, 3) := by decide +kernel
theorem dX2_tally_48 : decode cX2_tally 48 = .ok (.getfield 46, 3) := by decide +kernel
theorem dX2_tally_51 : decode cX2_tally 51 = .ok (.invokevirtual 51, 3) := by decide +kernel
theorem dX2_tally_54 : decode cX2_tally 54 = .ok (.istore_n 3, 1) := by decide +kernel
theorem dX2_tally_55 : decode cX2_tally 55 = .ok (.iconst 0, 1) := by decide +kernel
theorem dX2_tally_56 : decode cX2_tally 56 = .ok (.istore 4, 2) := by decide +kernel
theorem dX2_tally_58 : decode cX2_tally 58 = .ok (.iload 4, 2) := by decide +kernel
theorem dX2_tally_60 : decode cX2_tally 60 = .ok (.bipush 31, 2) := by decide +kernel
theorem dX2_tally_62 : decode cX2_tally 62 = .ok (.if_icmp .gt 25, 3) := by decide +kernel
theorem dX2_tally_65 : decode cX2_tally 65 = .ok (.aload_n 0, 1) := by decide +kernel
theorem dX2_tally_66 : decode cX2_tally 66 = .ok (.iload 4, 2) := by decide +kernel
theorem dX2_tally_68 : decode cX2_tally 68 = .ok (.invokevirtual 57, 3) := by decide +kernel
theorem dX2_tally_71 : decode cX2_tally 71 = .ok (.ifCond .eq 10, 3) := by decide +kernel
theorem dX2_tally_74 : decode cX2_tally 74 = .ok (.aload_n 0, 1) := by decide +kernel
theorem dX2_tally_75 : decode cX2_tally 75 = .ok (.iload 4, 2) := by decide +kernel
theorem dX2_tally_77 : decode cX2_tally 77 = .ok (.iload_n 3, 1) := by decide +kernel
theorem dX2_tally_78 : decode cX2_tally 78 = .ok (.invokevirtual 61, 3) := by decide +kernel
theorem dX2_tally_81 : decode cX2_tally 81 = .ok (.iinc 4 1, 3) := by decide +kernel
theorem dX2_tally_84 : decode cX2_tally 84 = .ok (.goto (-26), 3) := by decide +kernel
theorem dX2_tally_87 : decode cX2_tally 87 = .ok (.return_, 1) := by decide +kernel
theorem dX2_areQuiets_0 : decode cX2_areQuiets 0 = .ok (.iconst 0, 1) := by decide +kernel
theorem dX2_areQuiets_1 : decode cX2_areQuiets 1 = .ok (.istore_n 2, 1) := by decide +kernel
theorem dX2_areQuiets_2 : decode cX2_areQuiets 2 = .ok (.iload_n 2, 1) := by decide +kernel
theorem dX2_areQuiets_3 : decode cX2_areQuiets 3 = .ok (.iconst 5, 1) := by decide +kernel
theorem dX2_areQuiets_4 : decode cX2_areQuiets 4 = .ok (.if_icmp .ge 31, 3) := by decide +kernel
theorem dX2_areQuiets_7 : decode cX2_areQuiets 7 = .ok (.iload_n 1, 1) := by decide +kernel
theorem dX2_areQuiets_8 : decode cX2_areQuiets 8 = .ok (.iload_n 2, 1) := by decide +kernel
theorem dX2_areQuiets_9 : decode cX2_areQuiets 9 = .ok (.iushr, 1) := by decide +kernel
theorem dX2_areQuiets_10 : decode cX2_areQuiets 10 = .ok (.iconst 1, 1) := by decide +kernel
theorem dX2_areQuiets_11 : decode cX2_areQuiets 11 = .ok (.iand, 1) := by decide +kernel
theorem dX2_areQuiets_12 : decode cX2_areQuiets 12 = .ok (.iconst 1, 1) := by decide +kernel
theorem dX2_areQuiets_13 : decode cX2_areQuiets 13 = .ok (.if_icmp .ne 16, 3) := by decide +kernel
theorem dX2_areQuiets_16 : decode cX2_areQuiets 16 = .ok (.aload_n 0, 1) := by decide +kernel
theorem dX2_areQuiets_17 : decode cX2_areQuiets 17 = .ok (.getfield 42, 3) := by decide +kernel
theorem dX2_areQuiets_20 : decode cX2_areQuiets 20 = .ok (.iload_n 2, 1) := by decide +kernel
theorem dX2_areQuiets_21 : decode cX2_areQuiets 21 = .ok (.invokevirtual 65, 3) := by decide +kernel
theorem dX2_areQuiets_24 : decode cX2_areQuiets 24 = .ok (.ifCond .ne 5, 3) := by decide +kernel
theorem dX2_areQuiets_27 : decode cX2_areQuiets 27 = .ok (.iconst 0, 1) := by decide +kernel
theorem dX2_areQuiets_28 : decode cX2_areQuiets 28 = .ok (.ireturn, 1) := by decide +kernel
theorem dX2_areQuiets_29 : decode cX2_areQuiets 29 = .ok (.iinc 2 1, 3) := by decide +kernel
theorem dX2_areQuiets_32 : decode cX2_areQuiets 32 = .ok (.goto (-30), 3) := by decide +kernel
theorem dX2_areQuiets_35 : decode cX2_areQuiets 35 = .ok (.iconst 1, 1) := by decide +kernel
theorem dX2_areQuiets_36 : decode cX2_areQuiets 36 = .ok (.ireturn, 1) := by decide +kernel
theorem dX2_tallyBeside_0 : decode cX2_tallyBeside 0 = .ok (.iload_n 2, 1) := by decide +kernel
theorem dX2_tallyBeside_1 : decode cX2_tallyBeside 1 = .ok (.istore_n 3, 1) := by decide +kernel
theorem dX2_tallyBeside_2 : decode cX2_tallyBeside 2 = .ok (.iconst 0, 1) := by decide +kernel
theorem dX2_tallyBeside_3 : decode cX2_tallyBeside 3 = .ok (.istore 4, 2) := by decide +kernel
theorem dX2_tallyBeside_5 : decode cX2_tallyBeside 5 = .ok (.iload 4, 2) := by decide +kernel
theorem dX2_tallyBeside_7 : decode cX2_tallyBeside 7 = .ok (.iconst 5, 1) := by decide +kernel
theorem dX2_tallyBeside_8 : decode cX2_tallyBeside 8 = .ok (.if_icmp .ge 35, 3) := by decide +kernel
theorem dX2_tallyBeside_11 : decode cX2_tallyBeside 11 = .ok (.iload_n 3, 1) := by decide +kernel
theorem dX2_tallyBeside_12 : decode cX2_tallyBeside 12 = .ok (.iload_n 1, 1) := by decide +kernel
theorem dX2_tallyBeside_13 : decode cX2_tallyBeside 13 = .ok (.iload 4, 2) := by decide +kernel
theorem dX2_tallyBeside_15 : decode cX2_tallyBeside 15 = .ok (.iushr, 1) := by decide +kernel
theorem dX2_tallyBeside_16 : decode cX2_tallyBeside 16 = .ok (.iconst 1, 1) := by decide +kernel
theorem dX2_tallyBeside_17 : decode cX2_tallyBeside 17 = .ok (.iand, 1) := by decide +kernel
theorem dX2_tallyBeside_18 : decode cX2_tallyBeside 18 = .ok (.iconst 1, 1) := by decide +kernel
theorem dX2_tallyBeside_19 : decode cX2_tallyBeside 19 = .ok (.if_icmp .ne 15, 3) := by decide +kernel
theorem dX2_tallyBeside_22 : decode cX2_tallyBeside 22 = .ok (.aload_n 0, 1) := by decide +kernel
theorem dX2_tallyBeside_23 : decode cX2_tallyBeside 23 = .ok (.getfield 42, 3) := by decide +kernel
theorem dX2_tallyBeside_26 : decode cX2_tallyBeside 26 = .ok (.iload 4, 2) := by decide +kernel
theorem dX2_tallyBeside_28 : decode cX2_tallyBeside 28 = .ok (.invokevirtual 68, 3) := by decide +kernel
theorem dX2_tallyBeside_31 : decode cX2_tallyBeside 31 = .ok (.goto 4, 3) := by decide +kernel
theorem dX2_tallyBeside_34 : decode cX2_tallyBeside 34 = .ok (.iconst 0, 1) := by decide +kernel
theorem dX2_tallyBeside_35 : decode cX2_tallyBeside 35 = .ok (.ior, 1) := by decide +kernel
theorem dX2_tallyBeside_36 : decode cX2_tallyBeside 36 = .ok (.istore_n 3, 1) := by decide +kernel
theorem dX2_tallyBeside_37 : decode cX2_tallyBeside 37 = .ok (.iinc 4 1, 3) := by decide +kernel
theorem dX2_tallyBeside_40 : decode cX2_tallyBeside 40 = .ok (.goto (-35), 3) := by decide +kernel
theorem dX2_tallyBeside_43 : decode cX2_tallyBeside 43 = .ok (.iload_n 3, 1) := by decide +kernel
theorem dX2_tallyBeside_44 : decode cX2_tallyBeside 44 = .ok (.aload_n 0, 1) := by decide +kernel
theorem dX2_tallyBeside_45 : decode cX2_tallyBeside 45 = .ok (.getfield 24, 3) := by decide +kernel
theorem dX2_tallyBeside_48 : decode cX2_tallyBeside 48 = .ok (.iand, 1) := by decide +kernel
theorem dX2_tallyBeside_49 : decode cX2_tallyBeside 49 = .ok (.ifCond .eq 4, 3) := by decide +kernel
theorem dX2_tallyBeside_52 : decode cX2_tallyBeside 52 = .ok (.return_, 1) := by decide +kernel
theorem dX2_tallyBeside_53 : decode cX2_tallyBeside 53 = .ok (.iconst 1, 1) := by decide +kernel
theorem dX2_tallyBeside_54 : decode cX2_tallyBeside 54 = .ok (.istore 4, 2) := by decide +kernel
theorem dX2_tallyBeside_56 : decode cX2_tallyBeside 56 = .ok (.iconst 1, 1) := by decide +kernel
theorem dX2_tallyBeside_57 : decode cX2_tallyBeside 57 = .ok (.istore 5, 2) := by decide +kernel
theorem dX2_tallyBeside_59 : decode cX2_tallyBeside 59 = .ok (.iload_n 1, 1) := by decide +kernel
theorem dX2_tallyBeside_60 : decode cX2_tallyBeside 60 = .ok (.istore 6, 2) := by decide +kernel
theorem dX2_tallyBeside_62 : decode cX2_tallyBeside 62 = .ok (.iload_n 1, 1) := by decide +kernel
theorem dX2_tallyBeside_63 : decode cX2_tallyBeside 63 = .ok (.istore 7, 2) := by decide +kernel
theorem dX2_tallyBeside_65 : decode cX2_tallyBeside 65 = .ok (.iconst 0, 1) := by decide +kernel
theorem dX2_tallyBeside_66 : decode cX2_tallyBeside 66 = .ok (.istore 8, 2) := by decide +kernel
theorem dX2_tallyBeside_68 : decode cX2_tallyBeside 68 = .ok (.iload 8, 2) := by decide +kernel
theorem dX2_tallyBeside_70 : decode cX2_tallyBeside 70 = .ok (.iconst 3, 1) := by decide +kernel
theorem dX2_tallyBeside_71 : decode cX2_tallyBeside 71 = .ok (.if_icmp .ge 52, 3) := by decide +kernel
theorem dX2_tallyBeside_74 : decode cX2_tallyBeside 74 = .ok (.aload_n 0, 1) := by decide +kernel
theorem dX2_tallyBeside_75 : decode cX2_tallyBeside 75 = .ok (.iload 8, 2) := by decide +kernel
theorem dX2_tallyBeside_77 : decode cX2_tallyBeside 77 = .ok (.iload_n 3, 1) := by decide +kernel
theorem dX2_tallyBeside_78 : decode cX2_tallyBeside 78 = .ok (.invokevirtual 72, 3) := by decide +kernel
theorem dX2_tallyBeside_81 : decode cX2_tallyBeside 81 = .ok (.iload 4, 2) := by decide +kernel
theorem dX2_tallyBeside_83 : decode cX2_tallyBeside 83 = .ok (.aload_n 0, 1) := by decide +kernel
theorem dX2_tallyBeside_84 : decode cX2_tallyBeside 84 = .ok (.getfield 30, 3) := by decide +kernel
theorem dX2_tallyBeside_87 : decode cX2_tallyBeside 87 = .ok (.imul, 1) := by decide +kernel
theorem dX2_tallyBeside_88 : decode cX2_tallyBeside 88 = .ok (.istore 4, 2) := by decide +kernel
theorem dX2_tallyBeside_90 : decode cX2_tallyBeside 90 = .ok (.iload 5, 2) := by decide +kernel
theorem dX2_tallyBeside_92 : decode cX2_tallyBeside 92 = .ok (.aload_n 0, 1) := by decide +kernel
theorem dX2_tallyBeside_93 : decode cX2_tallyBeside 93 = .ok (.getfield 33, 3) := by decide +kernel
theorem dX2_tallyBeside_96 : decode cX2_tallyBeside 96 = .ok (.imul, 1) := by decide +kernel
theorem dX2_tallyBeside_97 : decode cX2_tallyBeside 97 = .ok (.istore 5, 2) := by decide +kernel
theorem dX2_tallyBeside_99 : decode cX2_tallyBeside 99 = .ok (.iload 6, 2) := by decide +kernel
theorem dX2_tallyBeside_101 : decode cX2_tallyBeside 101 = .ok (.aload_n 0, 1) := by decide +kernel
theorem dX2_tallyBeside_102 : decode cX2_tallyBeside 102 = .ok (.getfield 36, 3) := by decide +kernel
theorem dX2_tallyBeside_105 : decode cX2_tallyBeside 105 = .ok (.ior, 1) := by decide +kernel
theorem dX2_tallyBeside_106 : decode cX2_tallyBeside 106 = .ok (.istore 6, 2) := by decide +kernel
theorem dX2_tallyBeside_108 : decode cX2_tallyBeside 108 = .ok (.iload 7, 2) := by decide +kernel
theorem dX2_tallyBeside_110 : decode cX2_tallyBeside 110 = .ok (.aload_n 0, 1) := by decide +kernel
theorem dX2_tallyBeside_111 : decode cX2_tallyBeside 111 = .ok (.getfield 39, 3) := by decide +kernel
theorem dX2_tallyBeside_114 : decode cX2_tallyBeside 114 = .ok (.ior, 1) := by decide +kernel
theorem dX2_tallyBeside_115 : decode cX2_tallyBeside 115 = .ok (.istore 7, 2) := by decide +kernel
theorem dX2_tallyBeside_117 : decode cX2_tallyBeside 117 = .ok (.iinc 8 1, 3) := by decide +kernel
theorem dX2_tallyBeside_120 : decode cX2_tallyBeside 120 = .ok (.goto (-52), 3) := by decide +kernel
theorem dX2_tallyBeside_123 : decode cX2_tallyBeside 123 = .ok (.iload 4, 2) := by decide +kernel
theorem dX2_tallyBeside_125 : decode cX2_tallyBeside 125 = .ok (.ifCond .le 47, 3) := by decide +kernel
theorem dX2_tallyBeside_128 : decode cX2_tallyBeside 128 = .ok (.aload_n 0, 1) := by decide +kernel
theorem dX2_tallyBeside_129 : decode cX2_tallyBeside 129 = .ok (.dup, 1) := by decide +kernel
theorem dX2_tallyBeside_130 : decode cX2_tallyBeside 130 = .ok (.getfield 9, 3) := by decide +kernel
theorem dX2_tallyBeside_133 : decode cX2_tallyBeside 133 = .ok (.iload 4, 2) := by decide +kernel
theorem dX2_tallyBeside_135 : decode cX2_tallyBeside 135 = .ok (.iadd, 1) := by decide +kernel
theorem dX2_tallyBeside_136 : decode cX2_tallyBeside 136 = .ok (.putfield 9, 3) := by decide +kernel
theorem dX2_tallyBeside_139 : decode cX2_tallyBeside 139 = .ok (.aload_n 0, 1) := by decide +kernel
theorem dX2_tallyBeside_140 : decode cX2_tallyBeside 140 = .ok (.dup, 1) := by decide +kernel
theorem dX2_tallyBeside_141 : decode cX2_tallyBeside 141 = .ok (.getfield 15, 3) := by decide +kernel
theorem dX2_tallyBeside_144 : decode cX2_tallyBeside 144 = .ok (.iload 5, 2) := by decide +kernel
theorem dX2_tallyBeside_146 : decode cX2_tallyBeside 146 = .ok (.iadd, 1) := by decide +kernel
theorem dX2_tallyBeside_147 : decode cX2_tallyBeside 147 = .ok (.putfield 15, 3) := by decide +kernel
theorem dX2_tallyBeside_150 : decode cX2_tallyBeside 150 = .ok (.aload_n 0, 1) := by decide +kernel
theorem dX2_tallyBeside_151 : decode cX2_tallyBeside 151 = .ok (.dup, 1) := by decide +kernel
theorem dX2_tallyBeside_152 : decode cX2_tallyBeside 152 = .ok (.getfield 18, 3) := by decide +kernel
theorem dX2_tallyBeside_155 : decode cX2_tallyBeside 155 = .ok (.iload 6, 2) := by decide +kernel
theorem dX2_tallyBeside_157 : decode cX2_tallyBeside 157 = .ok (.iand, 1) := by decide +kernel
theorem dX2_tallyBeside_158 : decode cX2_tallyBeside 158 = .ok (.putfield 18, 3) := by decide +kernel
theorem dX2_tallyBeside_161 : decode cX2_tallyBeside 161 = .ok (.aload_n 0, 1) := by decide +kernel
theorem dX2_tallyBeside_162 : decode cX2_tallyBeside 162 = .ok (.dup, 1) := by decide +kernel
theorem dX2_tallyBeside_163 : decode cX2_tallyBeside 163 = .ok (.getfield 21, 3) := by decide +kernel
theorem dX2_tallyBeside_166 : decode cX2_tallyBeside 166 = .ok (.iload 7, 2) := by decide +kernel
theorem dX2_tallyBeside_168 : decode cX2_tallyBeside 168 = .ok (.ior, 1) := by decide +kernel
theorem dX2_tallyBeside_169 : decode cX2_tallyBeside 169 = .ok (.putfield 21, 3) := by decide +kernel
theorem dX2_tallyBeside_172 : decode cX2_tallyBeside 172 = .ok (.return_, 1) := by decide +kernel
theorem dX2_tallyBell_0 : decode cX2_tallyBell 0 = .ok (.aload_n 0, 1) := by decide +kernel
theorem dX2_tallyBell_1 : decode cX2_tallyBell 1 = .ok (.iconst 0, 1) := by decide +kernel
theorem dX2_tallyBell_2 : decode cX2_tallyBell 2 = .ok (.putfield 30, 3) := by decide +kernel
theorem dX2_tallyBell_5 : decode cX2_tallyBell 5 = .ok (.aload_n 0, 1) := by decide +kernel
theorem dX2_tallyBell_6 : decode cX2_tallyBell 6 = .ok (.iconst 0, 1) := by decide +kernel
theorem dX2_tallyBell_7 : decode cX2_tallyBell 7 = .ok (.putfield 33, 3) := by decide +kernel
theorem dX2_tallyBell_10 : decode cX2_tallyBell 10 = .ok (.aload_n 0, 1) := by decide +kernel
theorem dX2_tallyBell_11 : decode cX2_tallyBell 11 = .ok (.bipush 31, 2) := by decide +kernel
theorem dX2_tallyBell_13 : decode cX2_tallyBell 13 = .ok (.putfield 36, 3) := by decide +kernel
theorem dX2_tallyBell_16 : decode cX2_tallyBell 16 = .ok (.aload_n 0, 1) := by decide +kernel
theorem dX2_tallyBell_17 : decode cX2_tallyBell 17 = .ok (.iconst 0, 1) := by decide +kernel
theorem dX2_tallyBell_18 : decode cX2_tallyBell 18 = .ok (.putfield 39, 3) := by decide +kernel
theorem dX2_tallyBell_21 : decode cX2_tallyBell 21 = .ok (.aload_n 0, 1) := by decide +kernel
theorem dX2_tallyBell_22 : decode cX2_tallyBell 22 = .ok (.iconst 0, 1) := by decide +kernel
theorem dX2_tallyBell_23 : decode cX2_tallyBell 23 = .ok (.iload_n 1, 1) := by decide +kernel
theorem dX2_tallyBell_24 : decode cX2_tallyBell 24 = .ok (.lconst 0, 1) := by decide +kernel
theorem dX2_tallyBell_25 : decode cX2_tallyBell 25 = .ok (.iconst 0, 1) := by decide +kernel
theorem dX2_tallyBell_26 : decode cX2_tallyBell 26 = .ok (.iload_n 2, 1) := by decide +kernel
theorem dX2_tallyBell_27 : decode cX2_tallyBell 27 = .ok (.iconst 0, 1) := by decide +kernel
theorem dX2_tallyBell_28 : decode cX2_tallyBell 28 = .ok (.invokevirtual 75, 3) := by decide +kernel
theorem dX2_tallyBell_31 : decode cX2_tallyBell 31 = .ok (.return_, 1) := by decide +kernel
theorem dX2_walk_0 : decode cX2_walk 0 = .ok (.iload_n 1, 1) := by decide +kernel
theorem dX2_walk_1 : decode cX2_walk 1 = .ok (.ifCond .lt 8, 3) := by decide +kernel
theorem dX2_walk_4 : decode cX2_walk 4 = .ok (.iload_n 1, 1) := by decide +kernel
theorem dX2_walk_5 : decode cX2_walk 5 = .ok (.iconst 5, 1) := by decide +kernel
theorem dX2_walk_6 : decode cX2_walk 6 = .ok (.if_icmp .lt 13, 3) := by decide +kernel
theorem dX2_walk_9 : decode cX2_walk 9 = .ok (.aload_n 0, 1) := by decide +kernel
theorem dX2_walk_10 : decode cX2_walk 10 = .ok (.iload_n 2, 1) := by decide +kernel
theorem dX2_walk_11 : decode cX2_walk 11 = .ok (.iload 5, 2) := by decide +kernel
theorem dX2_walk_13 : decode cX2_walk 13 = .ok (.iload 7, 2) := by decide +kernel
theorem dX2_walk_15 : decode cX2_walk 15 = .ok (.invokevirtual 79, 3) := by decide +kernel
theorem dX2_walk_18 : decode cX2_walk 18 = .ok (.return_, 1) := by decide +kernel
theorem dX2_walk_19 : decode cX2_walk 19 = .ok (.aload_n 0, 1) := by decide +kernel
theorem dX2_walk_20 : decode cX2_walk 20 = .ok (.iload_n 1, 1) := by decide +kernel
theorem dX2_walk_21 : decode cX2_walk 21 = .ok (.iconst 1, 1) := by decide +kernel
theorem dX2_walk_22 : decode cX2_walk 22 = .ok (.iadd, 1) := by decide +kernel
theorem dX2_walk_23 : decode cX2_walk 23 = .ok (.iload_n 2, 1) := by decide +kernel
theorem dX2_walk_24 : decode cX2_walk 24 = .ok (.lload_n 3, 1) := by decide +kernel
theorem dX2_walk_25 : decode cX2_walk 25 = .ok (.iload 5, 2) := by decide +kernel
theorem dX2_walk_27 : decode cX2_walk 27 = .ok (.iload 6, 2) := by decide +kernel
theorem dX2_walk_29 : decode cX2_walk 29 = .ok (.iload 7, 2) := by decide +kernel
theorem dX2_walk_31 : decode cX2_walk 31 = .ok (.invokevirtual 75, 3) := by decide +kernel
theorem dX2_walk_34 : decode cX2_walk 34 = .ok (.aload_n 0, 1) := by decide +kernel
theorem dX2_walk_35 : decode cX2_walk 35 = .ok (.getfield 42, 3) := by decide +kernel
theorem dX2_walk_38 : decode cX2_walk 38 = .ok (.iload_n 1, 1) := by decide +kernel
theorem dX2_walk_39 : decode cX2_walk 39 = .ok (.iload_n 2, 1) := by decide +kernel
theorem dX2_walk_40 : decode cX2_walk 40 = .ok (.invokevirtual 83, 3) := by decide +kernel
theorem dX2_walk_43 : decode cX2_walk 43 = .ok (.ifCond .ne 4, 3) := by decide +kernel
theorem dX2_walk_46 : decode cX2_walk 46 = .ok (.return_, 1) := by decide +kernel
theorem dX2_walk_47 : decode cX2_walk 47 = .ok (.iconst 0, 1) := by decide +kernel
theorem dX2_walk_48 : decode cX2_walk 48 = .ok (.istore 8, 2) := by decide +kernel
theorem dX2_walk_50 : decode cX2_walk 50 = .ok (.iload 8, 2) := by decide +kernel
theorem dX2_walk_52 : decode cX2_walk 52 = .ok (.bipush 10, 2) := by decide +kernel
theorem dX2_walk_54 : decode cX2_walk 54 = .ok (.if_icmp .ge 96, 3) := by decide +kernel
theorem dX2_walk_57 : decode cX2_walk 57 = .ok (.aload_n 0, 1) := by decide +kernel
theorem dX2_walk_58 : decode cX2_walk 58 = .ok (.getfield 42, 3) := by decide +kernel
theorem dX2_walk_61 : decode cX2_walk 61 = .ok (.iload_n 1, 1) := by decide +kernel
theorem dX2_walk_62 : decode cX2_walk 62 = .ok (.iload 8, 2) := by decide +kernel
theorem dX2_walk_64 : decode cX2_walk 64 = .ok (.invokevirtual 87, 3) := by decide +kernel
theorem dX2_walk_67 : decode cX2_walk 67 = .ok (.ifCond .eq 77, 3) := by decide +kernel
theorem dX2_walk_70 : decode cX2_walk 70 = .ok (.aload_n 0, 1) := by decide +kernel
theorem dX2_walk_71 : decode cX2_walk 71 = .ok (.getfield 42, 3) := by decide +kernel
theorem dX2_walk_74 : decode cX2_walk 74 = .ok (.iload_n 1, 1) := by decide +kernel
theorem dX2_walk_75 : decode cX2_walk 75 = .ok (.iload 8, 2) := by decide +kernel
theorem dX2_walk_77 : decode cX2_walk 77 = .ok (.invokevirtual 90, 3) := by decide +kernel
theorem dX2_walk_80 : decode cX2_walk 80 = .ok (.lload_n 3, 1) := by decide +kernel
theorem dX2_walk_81 : decode cX2_walk 81 = .ok (.land, 1) := by decide +kernel
theorem dX2_walk_82 : decode cX2_walk 82 = .ok (.lconst 0, 1) := by decide +kernel
theorem dX2_walk_83 : decode cX2_walk 83 = .ok (.lcmp, 1) := by decide +kernel
theorem dX2_walk_84 : decode cX2_walk 84 = .ok (.ifCond .ne 60, 3) := by decide +kernel
theorem dX2_walk_87 : decode cX2_walk 87 = .ok (.aload_n 0, 1) := by decide +kernel
theorem dX2_walk_88 : decode cX2_walk 88 = .ok (.getfield 42, 3) := by decide +kernel
theorem dX2_walk_91 : decode cX2_walk 91 = .ok (.iload_n 1, 1) := by decide +kernel
theorem dX2_walk_92 : decode cX2_walk 92 = .ok (.iload 8, 2) := by decide +kernel
theorem dX2_walk_94 : decode cX2_walk 94 = .ok (.invokevirtual 94, 3) := by decide +kernel
theorem dX2_walk_97 : decode cX2_walk 97 = .ok (.iload 6, 2) := by decide +kernel
theorem dX2_walk_99 : decode cX2_walk 99 = .ok (.iand, 1) := by decide +kernel
theorem dX2_walk_100 : decode cX2_walk 100 = .ok (.ifCond .ne 44, 3) := by decide +kernel
theorem dX2_walk_103 : decode cX2_walk 103 = .ok (.aload_n 0, 1) := by decide +kernel
theorem dX2_walk_104 : decode cX2_walk 104 = .ok (.iload_n 1, 1) := by decide +kernel
theorem dX2_walk_105 : decode cX2_walk 105 = .ok (.iconst 1, 1) := by decide +kernel
theorem dX2_walk_106 : decode cX2_walk 106 = .ok (.iadd, 1) := by decide +kernel
theorem dX2_walk_107 : decode cX2_walk 107 = .ok (.iload_n 2, 1) := by decide +kernel
theorem dX2_walk_108 : decode cX2_walk 108 = .ok (.lload_n 3, 1) := by decide +kernel
theorem dX2_walk_109 : decode cX2_walk 109 = .ok (.aload_n 0, 1) := by decide +kernel
theorem dX2_walk_110 : decode cX2_walk 110 = .ok (.getfield 42, 3) := by decide +kernel
theorem dX2_walk_113 : decode cX2_walk 113 = .ok (.iload_n 1, 1) := by decide +kernel
theorem dX2_walk_114 : decode cX2_walk 114 = .ok (.iload 8, 2) := by decide +kernel
theorem dX2_walk_116 : decode cX2_walk 116 = .ok (.invokevirtual 90, 3) := by decide +kernel
theorem dX2_walk_119 : decode cX2_walk 119 = .ok (.lor, 1) := by decide +kernel
theorem dX2_walk_120 : decode cX2_walk 120 = .ok (.iload 5, 2) := by decide +kernel
theorem dX2_walk_122 : decode cX2_walk 122 = .ok (.aload_n 0, 1) := by decide +kernel
theorem dX2_walk_123 : decode cX2_walk 123 = .ok (.getfield 42, 3) := by decide +kernel
theorem dX2_walk_126 : decode cX2_walk 126 = .ok (.iload_n 1, 1) := by decide +kernel
theorem dX2_walk_127 : decode cX2_walk 127 = .ok (.iload 8, 2) := by decide +kernel
theorem dX2_walk_129 : decode cX2_walk 129 = .ok (.invokevirtual 94, 3) := by decide +kernel
theorem dX2_walk_132 : decode cX2_walk 132 = .ok (.ior, 1) := by decide +kernel
theorem dX2_walk_133 : decode cX2_walk 133 = .ok (.iload 6, 2) := by decide +kernel
theorem dX2_walk_135 : decode cX2_walk 135 = .ok (.iload 7, 2) := by decide +kernel
theorem dX2_walk_137 : decode cX2_walk 137 = .ok (.iconst 1, 1) := by decide +kernel
theorem dX2_walk_138 : decode cX2_walk 138 = .ok (.iload_n 1, 1) := by decide +kernel
theorem dX2_walk_139 : decode cX2_walk 139 = .ok (.ishl, 1) := by decide +kernel
theorem dX2_walk_140 : decode cX2_walk 140 = .ok (.ior, 1) := by decide +kernel
theorem dX2_walk_141 : decode cX2_walk 141 = .ok (.invokevirtual 75, 3) := by decide +kernel
theorem dX2_walk_144 : decode cX2_walk 144 = .ok (.iinc 8 1, 3) := by decide +kernel
theorem dX2_walk_147 : decode cX2_walk 147 = .ok (.goto (-97), 3) := by decide +kernel
theorem dX2_walk_150 : decode cX2_walk 150 = .ok (.return_, 1) := by decide +kernel
theorem dX2_tallyDay_0 : decode cX2_tallyDay 0 = .ok (.aload_n 0, 1) := by decide +kernel
theorem dX2_tallyDay_1 : decode cX2_tallyDay 1 = .ok (.getfield 24, 3) := by decide +kernel
theorem dX2_tallyDay_4 : decode cX2_tallyDay 4 = .ok (.sipush 1023, 3) := by decide +kernel
theorem dX2_tallyDay_7 : decode cX2_tallyDay 7 = .ok (.bipush 10, 2) := by decide +kernel
theorem dX2_tallyDay_9 : decode cX2_tallyDay 9 = .ok (.iload_n 1, 1) := by decide +kernel
theorem dX2_tallyDay_10 : decode cX2_tallyDay 10 = .ok (.imul, 1) := by decide +kernel
theorem dX2_tallyDay_11 : decode cX2_tallyDay 11 = .ok (.ishl, 1) := by decide +kernel
theorem dX2_tallyDay_12 : decode cX2_tallyDay 12 = .ok (.iand, 1) := by decide +kernel
theorem dX2_tallyDay_13 : decode cX2_tallyDay 13 = .ok (.istore 4, 2) := by decide +kernel
theorem dX2_tallyDay_15 : decode cX2_tallyDay 15 = .ok (.iload_n 2, 1) := by decide +kernel
theorem dX2_tallyDay_16 : decode cX2_tallyDay 16 = .ok (.iload 4, 2) := by decide +kernel
theorem dX2_tallyDay_18 : decode cX2_tallyDay 18 = .ok (.iand, 1) := by decide +kernel
theorem dX2_tallyDay_19 : decode cX2_tallyDay 19 = .ok (.iload 4, 2) := by decide +kernel
theorem dX2_tallyDay_21 : decode cX2_tallyDay 21 = .ok (.if_icmp .eq 4, 3) := by decide +kernel
theorem dX2_tallyDay_24 : decode cX2_tallyDay 24 = .ok (.return_, 1) := by decide +kernel
theorem dX2_tallyDay_25 : decode cX2_tallyDay 25 = .ok (.aload_n 0, 1) := by decide +kernel
theorem dX2_tallyDay_26 : decode cX2_tallyDay 26 = .ok (.dup, 1) := by decide +kernel
theorem dX2_tallyDay_27 : decode cX2_tallyDay 27 = .ok (.getfield 30, 3) := by decide +kernel
theorem dX2_tallyDay_30 : decode cX2_tallyDay 30 = .ok (.iconst 1, 1) := by decide +kernel
theorem dX2_tallyDay_31 : decode cX2_tallyDay 31 = .ok (.iadd, 1) := by decide +kernel
theorem dX2_tallyDay_32 : decode cX2_tallyDay 32 = .ok (.putfield 30, 3) := by decide +kernel
theorem dX2_tallyDay_35 : decode cX2_tallyDay 35 = .ok (.aload_n 0, 1) := by decide +kernel
theorem dX2_tallyDay_36 : decode cX2_tallyDay 36 = .ok (.dup, 1) := by decide +kernel
theorem dX2_tallyDay_37 : decode cX2_tallyDay 37 = .ok (.getfield 33, 3) := by decide +kernel
theorem dX2_tallyDay_40 : decode cX2_tallyDay 40 = .ok (.iload_n 2, 1) := by decide +kernel
theorem dX2_tallyDay_41 : decode cX2_tallyDay 41 = .ok (.aload_n 0, 1) := by decide +kernel
theorem dX2_tallyDay_42 : decode cX2_tallyDay 42 = .ok (.getfield 27, 3) := by decide +kernel
theorem dX2_tallyDay_45 : decode cX2_tallyDay 45 = .ok (.iand, 1) := by decide +kernel
theorem dX2_tallyDay_46 : decode cX2_tallyDay 46 = .ok (.ifCond .ne 7, 3) := by decide +kernel
theorem dX2_tallyDay_49 : decode cX2_tallyDay 49 = .ok (.iconst 1, 1) := by decide +kernel
theorem dX2_tallyDay_50 : decode cX2_tallyDay 50 = .ok (.goto 4, 3) := by decide +kernel
theorem dX2_tallyDay_53 : decode cX2_tallyDay 53 = .ok (.iconst 0, 1) := by decide +kernel
theorem dX2_tallyDay_54 : decode cX2_tallyDay 54 = .ok (.iadd, 1) := by decide +kernel
theorem dX2_tallyDay_55 : decode cX2_tallyDay 55 = .ok (.putfield 33, 3) := by decide +kernel
theorem dX2_tallyDay_58 : decode cX2_tallyDay 58 = .ok (.aload_n 0, 1) := by decide +kernel
theorem dX2_tallyDay_59 : decode cX2_tallyDay 59 = .ok (.dup, 1) := by decide +kernel
theorem dX2_tallyDay_60 : decode cX2_tallyDay 60 = .ok (.getfield 36, 3) := by decide +kernel
theorem dX2_tallyDay_63 : decode cX2_tallyDay 63 = .ok (.iload_n 3, 1) := by decide +kernel
theorem dX2_tallyDay_64 : decode cX2_tallyDay 64 = .ok (.iand, 1) := by decide +kernel
theorem dX2_tallyDay_65 : decode cX2_tallyDay 65 = .ok (.putfield 36, 3) := by decide +kernel
theorem dX2_tallyDay_68 : decode cX2_tallyDay 68 = .ok (.aload_n 0, 1) := by decide +kernel
theorem dX2_tallyDay_69 : decode cX2_tallyDay 69 = .ok (.dup, 1) := by decide +kernel
theorem dX2_tallyDay_70 : decode cX2_tallyDay 70 = .ok (.getfield 39, 3) := by decide +kernel
theorem dX2_tallyDay_73 : decode cX2_tallyDay 73 = .ok (.iload_n 3, 1) := by decide +kernel
theorem dX2_tallyDay_74 : decode cX2_tallyDay 74 = .ok (.ior, 1) := by decide +kernel
theorem dX2_tallyDay_75 : decode cX2_tallyDay 75 = .ok (.putfield 39, 3) := by decide +kernel
theorem dX2_tallyDay_78 : decode cX2_tallyDay 78 = .ok (.return_, 1) := by decide +kernel
end
section
theorem dX3_init_0 : decode cX3_init 0 = .ok (.aload_n 0, 1) := by decide +kernel
theorem dX3_init_1 : decode cX3_init 1 = .ok (.invokespecial 3, 3) := by decide +kernel
theorem dX3_init_4 : decode cX3_init 4 = .ok (.aload_n 0, 1) := by decide +kernel
theorem dX3_init_5 : decode cX3_init 5 = .ok (.bipush 6, 2) := by decide +kernel
theorem dX3_init_7 : decode cX3_init 7 = .ok (.newarray .int, 2) := by decide +kernel
theorem dX3_init_9 : decode cX3_init 9 = .ok (.putfield 9, 3) := by decide +kernel
theorem dX3_init_12 : decode cX3_init 12 = .ok (.aload_n 0, 1) := by decide +kernel
theorem dX3_init_13 : decode cX3_init 13 = .ok (.bipush 6, 2) := by decide +kernel
theorem dX3_init_15 : decode cX3_init 15 = .ok (.newarray .int, 2) := by decide +kernel
theorem dX3_init_17 : decode cX3_init 17 = .ok (.putfield 15, 3) := by decide +kernel
theorem dX3_init_20 : decode cX3_init 20 = .ok (.aload_n 0, 1) := by decide +kernel
theorem dX3_init_21 : decode cX3_init 21 = .ok (.iconst 0, 1) := by decide +kernel
theorem dX3_init_22 : decode cX3_init 22 = .ok (.putfield 18, 3) := by decide +kernel
theorem dX3_init_25 : decode cX3_init 25 = .ok (.return_, 1) := by decide +kernel
theorem dX3_append_0 : decode cX3_append 0 = .ok (.aload_n 0, 1) := by decide +kernel
theorem dX3_append_1 : decode cX3_append 1 = .ok (.getfield 18, 3) := by decide +kernel
theorem dX3_append_4 : decode cX3_append 4 = .ok (.ifCond .lt 12, 3) := by decide +kernel
theorem dX3_append_7 : decode cX3_append 7 = .ok (.aload_n 0, 1) := by decide +kernel
theorem dX3_append_8 : decode cX3_append 8 = .ok (.getfield 18, 3) := by decide +kernel
theorem dX3_append_11 : decode cX3_append 11 = .ok (.bipush 6, 2) := by decide +kernel
theorem dX3_append_13 : decode cX3_append 13 = .ok (.if_icmp .lt 6, 3) := by decide +kernel
theorem dX3_append_16 : decode cX3_append 16 = .ok (.bipush (-4), 2) := by decide +kernel
theorem dX3_append_18 : decode cX3_append 18 = .ok (.ireturn, 1) := by decide +kernel
theorem dX3_append_19 : decode cX3_append 19 = .ok (.aload_n 0, 1) := by decide +kernel
theorem dX3_append_20 : decode cX3_append 20 = .ok (.getfield 9, 3) := by decide +kernel
theorem dX3_append_23 : decode cX3_append 23 = .ok (.aload_n 0, 1) := by decide +kernel
theorem dX3_append_24 : decode cX3_append 24 = .ok (.getfield 18, 3) := by decide +kernel
theorem dX3_append_27 : decode cX3_append 27 = .ok (.iload_n 1, 1) := by decide +kernel
theorem dX3_append_28 : decode cX3_append 28 = .ok (.iastore, 1) := by decide +kernel
theorem dX3_append_29 : decode cX3_append 29 = .ok (.aload_n 0, 1) := by decide +kernel
theorem dX3_append_30 : decode cX3_append 30 = .ok (.getfield 15, 3) := by decide +kernel
theorem dX3_append_33 : decode cX3_append 33 = .ok (.aload_n 0, 1) := by decide +kernel
theorem dX3_append_34 : decode cX3_append 34 = .ok (.getfield 18, 3) := by decide +kernel
theorem dX3_append_37 : decode cX3_append 37 = .ok (.iload_n 2, 1) := by decide +kernel
theorem dX3_append_38 : decode cX3_append 38 = .ok (.iastore, 1) := by decide +kernel
theorem dX3_append_39 : decode cX3_append 39 = .ok (.aload_n 0, 1) := by decide +kernel
theorem dX3_append_40 : decode cX3_append 40 = .ok (.dup, 1) := by decide +kernel
theorem dX3_append_41 : decode cX3_append 41 = .ok (.getfield 18, 3) := by decide +kernel
theorem dX3_append_44 : decode cX3_append 44 = .ok (.iconst 1, 1) := by decide +kernel
theorem dX3_append_45 : decode cX3_append 45 = .ok (.iadd, 1) := by decide +kernel
theorem dX3_append_46 : decode cX3_append 46 = .ok (.putfield 18, 3) := by decide +kernel
theorem dX3_append_49 : decode cX3_append 49 = .ok (.aload_n 0, 1) := by decide +kernel
theorem dX3_append_50 : decode cX3_append 50 = .ok (.getfield 18, 3) := by decide +kernel
theorem dX3_append_53 : decode cX3_append 53 = .ok (.ireturn, 1) := by decide +kernel
theorem dX3_clear_0 : decode cX3_clear 0 = .ok (.aload_n 0, 1) := by decide +kernel
theorem dX3_clear_1 : decode cX3_clear 1 = .ok (.getfield 18, 3) := by decide +kernel
theorem dX3_clear_4 : decode cX3_clear 4 = .ok (.istore_n 1, 1) := by decide +kernel
theorem dX3_clear_5 : decode cX3_clear 5 = .ok (.aload_n 0, 1) := by decide +kernel
theorem dX3_clear_6 : decode cX3_clear 6 = .ok (.iconst 0, 1) := by decide +kernel
theorem dX3_clear_7 : decode cX3_clear 7 = .ok (.putfield 18, 3) := by decide +kernel
theorem dX3_clear_10 : decode cX3_clear 10 = .ok (.iload_n 1, 1) := by decide +kernel
theorem dX3_clear_11 : decode cX3_clear 11 = .ok (.ireturn, 1) := by decide +kernel
theorem dX3_told_0 : decode cX3_told 0 = .ok (.iconst 0, 1) := by decide +kernel
theorem dX3_told_1 : decode cX3_told 1 = .ok (.istore_n 3, 1) := by decide +kernel
theorem dX3_told_2 : decode cX3_told 2 = .ok (.iconst 0, 1) := by decide +kernel
theorem dX3_told_3 : decode cX3_told 3 = .ok (.istore 4, 2) := by decide +kernel
theorem dX3_told_5 : decode cX3_told 5 = .ok (.iload 4, 2) := by decide +kernel
theorem dX3_told_7 : decode cX3_told 7 = .ok (.bipush 6, 2) := by decide +kernel
theorem dX3_told_9 : decode cX3_told 9 = .ok (.if_icmp .ge 90, 3) := by decide +kernel
theorem dX3_told_12 : decode cX3_told 12 = .ok (.iload 4, 2) := by decide +kernel
theorem dX3_told_14 : decode cX3_told 14 = .ok (.aload_n 0, 1) := by decide +kernel
theorem dX3_told_15 : decode cX3_told 15 = .ok (.getfield 18, 3) := by decide +kernel
theorem dX3_told_18 : decode cX3_told 18 = .ok (.if_icmp .ge 81, 3) := by decide +kernel
theorem dX3_told_21 : decode cX3_told 21 = .ok (.iconst 0, 1) := by decide +kernel
theorem dX3_told_22 : decode cX3_told 22 = .ok (.istore 5, 2) := by decide +kernel
theorem dX3_told_24 : decode cX3_told 24 = .ok (.iload 5, 2) := by decide +kernel
theorem dX3_told_26 : decode cX3_told 26 = .ok (.iconst 3, 1) := by decide +kernel
theorem dX3_told_27 : decode cX3_told 27 = .ok (.if_icmp .ge 66, 3) := by decide +kernel
theorem dX3_told_30 : decode cX3_told 30 = .ok (.iload 5, 2) := by decide +kernel
theorem dX3_told_32 : decode cX3_told 32 = .ok (.iload_n 2, 1) := by decide +kernel
theorem dX3_told_33 : decode cX3_told 33 = .ok (.if_icmp .ge 60, 3) := by decide +kernel
theorem dX3_told_36 : decode cX3_told 36 = .ok (.aload_n 0, 1) := by decide +kernel
theorem dX3_told_37 : decode cX3_told 37 = .ok (.getfield 15, 3) := by decide +kernel
theorem dX3_told_40 : decode cX3_told 40 = .ok (.iload 4, 2) := by decide +kernel
theorem dX3_told_42 : decode cX3_told 42 = .ok (.iaload, 1) := by decide +kernel
theorem dX3_told_43 : decode cX3_told 43 = .ok (.iload 5, 2) := by decide +kernel
theorem dX3_told_45 : decode cX3_told 45 = .ok (.iushr, 1) := by decide +kernel
theorem dX3_told_46 : decode cX3_told 46 = .ok (.iconst 1, 1) := by decide +kernel
theorem dX3_told_47 : decode cX3_told 47 = .ok (.iand, 1) := by decide +kernel
theorem dX3_told_48 : decode cX3_told 48 = .ok (.iconst 1, 1) := by decide +kernel
theorem dX3_told_49 : decode cX3_told 49 = .ok (.if_icmp .ne 7, 3) := by decide +kernel
theorem dX3_told_52 : decode cX3_told 52 = .ok (.iconst 1, 1) := by decide +kernel
theorem dX3_told_53 : decode cX3_told 53 = .ok (.goto 4, 3) := by decide +kernel
theorem dX3_told_56 : decode cX3_told 56 = .ok (.iconst 0, 1) := by decide +kernel
theorem dX3_told_57 : decode cX3_told 57 = .ok (.istore 6, 2) := by decide +kernel
theorem dX3_told_59 : decode cX3_told 59 = .ok (.iload_n 3, 1) := by decide +kernel
theorem dX3_told_60 : decode cX3_told 60 = .ok (.iload 6, 2) := by decide +kernel
theorem dX3_told_62 : decode cX3_told 62 = .ok (.iload_n 1, 1) := by decide +kernel
theorem dX3_told_63 : decode cX3_told 63 = .ok (.if_icmp .ne 21, 3) := by decide +kernel
theorem dX3_told_66 : decode cX3_told 66 = .ok (.iconst 1, 1) := by decide +kernel
theorem dX3_told_67 : decode cX3_told 67 = .ok (.bipush 10, 2) := by decide +kernel
theorem dX3_told_69 : decode cX3_told 69 = .ok (.iload 5, 2) := by decide +kernel
theorem dX3_told_71 : decode cX3_told 71 = .ok (.imul, 1) := by decide +kernel
theorem dX3_told_72 : decode cX3_told 72 = .ok (.aload_n 0, 1) := by decide +kernel
theorem dX3_told_73 : decode cX3_told 73 = .ok (.getfield 9, 3) := by decide +kernel
theorem dX3_told_76 : decode cX3_told 76 = .ok (.iload 4, 2) := by decide +kernel
theorem dX3_told_78 : decode cX3_told 78 = .ok (.iaload, 1) := by decide +kernel
theorem dX3_told_79 : decode cX3_told 79 = .ok (.iadd, 1) := by decide +kernel
theorem dX3_told_80 : decode cX3_told 80 = .ok (.ishl, 1) := by decide +kernel
theorem dX3_told_81 : decode cX3_told 81 = .ok (.goto 4, 3) := by decide +kernel
theorem dX3_told_84 : decode cX3_told 84 = .ok (.iconst 0, 1) := by decide +kernel
theorem dX3_told_85 : decode cX3_told 85 = .ok (.ior, 1) := by decide +kernel
theorem dX3_told_86 : decode cX3_told 86 = .ok (.istore_n 3, 1) := by decide +kernel
theorem dX3_told_87 : decode cX3_told 87 = .ok (.iinc 5 1, 3) := by decide +kernel
theorem dX3_told_90 : decode cX3_told 90 = .ok (.goto (-66), 3) := by decide +kernel
theorem dX3_told_93 : decode cX3_told 93 = .ok (.iinc 4 1, 3) := by decide +kernel
theorem dX3_told_96 : decode cX3_told 96 = .ok (.goto (-91), 3) := by decide +kernel
theorem dX3_told_99 : decode cX3_told 99 = .ok (.iload_n 3, 1) := by decide +kernel
theorem dX3_told_100 : decode cX3_told 100 = .ok (.ireturn, 1) := by decide +kernel
end
section
theorem dX4_init_0 : decode cX4_init 0 = .ok (.aload_n 0, 1) := by decide +kernel
theorem dX4_init_1 : decode cX4_init 1 = .ok (.invokespecial 3, 3) := by decide +kernel
theorem dX4_init_4 : decode cX4_init 4 = .ok (.aload_n 0, 1) := by decide +kernel
theorem dX4_init_5 : decode cX4_init 5 = .ok (.iconst 5, 1) := by decide +kernel
theorem dX4_init_6 : decode cX4_init 6 = .ok (.newarray .int, 2) := by decide +kernel
theorem dX4_init_8 : decode cX4_init 8 = .ok (.putfield 9, 3) := by decide +kernel
theorem dX4_init_11 : decode cX4_init 11 = .ok (.aload_n 0, 1) := by decide +kernel
theorem dX4_init_12 : decode cX4_init 12 = .ok (.bipush 6, 2) := by decide +kernel
theorem dX4_init_14 : decode cX4_init 14 = .ok (.newarray .int, 2) := by decide +kernel
theorem dX4_init_16 : decode cX4_init 16 = .ok (.putfield 15, 3) := by decide +kernel
theorem dX4_init_19 : decode cX4_init 19 = .ok (.aload_n 0, 1) := by decide +kernel
theorem dX4_init_20 : decode cX4_init 20 = .ok (.iconst 0, 1) := by decide +kernel
theorem dX4_init_21 : decode cX4_init 21 = .ok (.putfield 18, 3) := by decide +kernel
theorem dX4_init_24 : decode cX4_init 24 = .ok (.aload_n 0, 1) := by decide +kernel
theorem dX4_init_25 : decode cX4_init 25 = .ok (.aload_n 1, 1) := by decide +kernel
theorem dX4_init_26 : decode cX4_init 26 = .ok (.putfield 22, 3) := by decide +kernel
theorem dX4_init_29 : decode cX4_init 29 = .ok (.aload_n 0, 1) := by decide +kernel
theorem dX4_init_30 : decode cX4_init 30 = .ok (.new 26, 3) := by decide +kernel
theorem dX4_init_33 : decode cX4_init 33 = .ok (.dup, 1) := by decide +kernel
theorem dX4_init_34 : decode cX4_init 34 = .ok (.aload_n 1, 1) := by decide +kernel
theorem dX4_init_35 : decode cX4_init 35 = .ok (.invokespecial 28, 3) := by decide +kernel
theorem dX4_init_38 : decode cX4_init 38 = .ok (.putfield 31, 3) := by decide +kernel
theorem dX4_init_41 : decode cX4_init 41 = .ok (.aload_n 0, 1) := by decide +kernel
theorem dX4_init_42 : decode cX4_init 42 = .ok (.new 26, 3) := by decide +kernel
theorem dX4_init_45 : decode cX4_init 45 = .ok (.dup, 1) := by decide +kernel
theorem dX4_init_46 : decode cX4_init 46 = .ok (.aload_n 1, 1) := by decide +kernel
theorem dX4_init_47 : decode cX4_init 47 = .ok (.invokespecial 28, 3) := by decide +kernel
theorem dX4_init_50 : decode cX4_init 50 = .ok (.putfield 35, 3) := by decide +kernel
theorem dX4_init_53 : decode cX4_init 53 = .ok (.return_, 1) := by decide +kernel
theorem dX4_mostWorth_0 : decode cX4_mostWorth 0 = .ok (.aload_n 0, 1) := by decide +kernel
theorem dX4_mostWorth_1 : decode cX4_mostWorth 1 = .ok (.iload_n 1, 1) := by decide +kernel
theorem dX4_mostWorth_2 : decode cX4_mostWorth 2 = .ok (.iconst 1, 1) := by decide +kernel
theorem dX4_mostWorth_3 : decode cX4_mostWorth 3 = .ok (.invokevirtual 38, 3) := by decide +kernel
theorem dX4_mostWorth_6 : decode cX4_mostWorth 6 = .ok (.aload_n 0, 1) := by decide +kernel
theorem dX4_mostWorth_7 : decode cX4_mostWorth 7 = .ok (.lconst 0, 1) := by decide +kernel
theorem dX4_mostWorth_8 : decode cX4_mostWorth 8 = .ok (.iconst 0, 1) := by decide +kernel
theorem dX4_mostWorth_9 : decode cX4_mostWorth 9 = .ok (.iconst 0, 1) := by decide +kernel
theorem dX4_mostWorth_10 : decode cX4_mostWorth 10 = .ok (.invokevirtual 42, 3) := by decide +kernel
theorem dX4_mostWorth_13 : decode cX4_mostWorth 13 = .ok (.ireturn, 1) := by decide +kernel
theorem dX4_mostAtOnce_0 : decode cX4_mostAtOnce 0 = .ok (.aload_n 0, 1) := by decide +kernel
theorem dX4_mostAtOnce_1 : decode cX4_mostAtOnce 1 = .ok (.bipush 31, 2) := by decide +kernel
theorem dX4_mostAtOnce_3 : decode cX4_mostAtOnce 3 = .ok (.iconst 0, 1) := by decide +kernel
theorem dX4_mostAtOnce_4 : decode cX4_mostAtOnce 4 = .ok (.invokevirtual 38, 3) := by decide +kernel
theorem dX4_mostAtOnce_7 : decode cX4_mostAtOnce 7 = .ok (.aload_n 0, 1) := by decide +kernel
theorem dX4_mostAtOnce_8 : decode cX4_mostAtOnce 8 = .ok (.lconst 0, 1) := by decide +kernel
theorem dX4_mostAtOnce_9 : decode cX4_mostAtOnce 9 = .ok (.iconst 0, 1) := by decide +kernel
theorem dX4_mostAtOnce_10 : decode cX4_mostAtOnce 10 = .ok (.iconst 0, 1) := by decide +kernel
theorem dX4_mostAtOnce_11 : decode cX4_mostAtOnce 11 = .ok (.invokevirtual 42, 3) := by decide +kernel
theorem dX4_mostAtOnce_14 : decode cX4_mostAtOnce 14 = .ok (.ireturn, 1) := by decide +kernel
theorem dX4_mostBeside_0 : decode cX4_mostBeside 0 = .ok (.aload_n 0, 1) := by decide +kernel
theorem dX4_mostBeside_1 : decode cX4_mostBeside 1 = .ok (.aload_n 1, 1) := by decide +kernel
theorem dX4_mostBeside_2 : decode cX4_mostBeside 2 = .ok (.invokevirtual 46, 3) := by decide +kernel
theorem dX4_mostBeside_5 : decode cX4_mostBeside 5 = .ok (.iconst (-1), 1) := by decide +kernel
theorem dX4_mostBeside_6 : decode cX4_mostBeside 6 = .ok (.ixor, 1) := by decide +kernel
theorem dX4_mostBeside_7 : decode cX4_mostBeside 7 = .ok (.iconst 1, 1) := by decide +kernel
theorem dX4_mostBeside_8 : decode cX4_mostBeside 8 = .ok (.invokevirtual 38, 3) := by decide +kernel
theorem dX4_mostBeside_11 : decode cX4_mostBeside 11 = .ok (.lconst 0, 1) := by decide +kernel
theorem dX4_mostBeside_12 : decode cX4_mostBeside 12 = .ok (.lstore_n 2, 1) := by decide +kernel
theorem dX4_mostBeside_13 : decode cX4_mostBeside 13 = .ok (.iconst 0, 1) := by decide +kernel
theorem dX4_mostBeside_14 : decode cX4_mostBeside 14 = .ok (.istore 4, 2) := by decide +kernel
theorem dX4_mostBeside_16 : decode cX4_mostBeside 16 = .ok (.iconst 0, 1) := by decide +kernel
theorem dX4_mostBeside_17 : decode cX4_mostBeside 17 = .ok (.istore 5, 2) := by decide +kernel
theorem dX4_mostBeside_19 : decode cX4_mostBeside 19 = .ok (.iload 5, 2) := by decide +kernel
theorem dX4_mostBeside_21 : decode cX4_mostBeside 21 = .ok (.iconst 5, 1) := by decide +kernel
theorem dX4_mostBeside_22 : decode cX4_mostBeside 22 = .ok (.if_icmp .ge 50, 3) := by decide +kernel
theorem dX4_mostBeside_25 : decode cX4_mostBeside 25 = .ok (.aload_n 1, 1) := by decide +kernel
theorem dX4_mostBeside_26 : decode cX4_mostBeside 26 = .ok (.iload 5, 2) := by decide +kernel
theorem dX4_mostBeside_28 : decode cX4_mostBeside 28 = .ok (.invokevirtual 50, 3) := by decide +kernel
theorem dX4_mostBeside_31 : decode cX4_mostBeside 31 = .ok (.ifCond .eq 35, 3) := by decide +kernel
theorem dX4_mostBeside_34 : decode cX4_mostBeside 34 = .ok (.lload_n 2, 1) := by decide +kernel
theorem dX4_mostBeside_35 : decode cX4_mostBeside 35 = .ok (.aload_n 0, 1) := by decide +kernel
theorem dX4_mostBeside_36 : decode cX4_mostBeside 36 = .ok (.getfield 22, 3) := by decide +kernel
theorem dX4_mostBeside_39 : decode cX4_mostBeside 39 = .ok (.iload 5, 2) := by decide +kernel
theorem dX4_mostBeside_41 : decode cX4_mostBeside 41 = .ok (.aload_n 1, 1) := by decide +kernel
theorem dX4_mostBeside_42 : decode cX4_mostBeside 42 = .ok (.iload 5, 2) := by decide +kernel
theorem dX4_mostBeside_44 : decode cX4_mostBeside 44 = .ok (.invokevirtual 54, 3) := by decide +kernel
theorem dX4_mostBeside_47 : decode cX4_mostBeside 47 = .ok (.invokevirtual 58, 3) := by decide +kernel
theorem dX4_mostBeside_50 : decode cX4_mostBeside 50 = .ok (.lor, 1) := by decide +kernel
theorem dX4_mostBeside_51 : decode cX4_mostBeside 51 = .ok (.lstore_n 2, 1) := by decide +kernel
theorem dX4_mostBeside_52 : decode cX4_mostBeside 52 = .ok (.iload 4, 2) := by decide +kernel
theorem dX4_mostBeside_54 : decode cX4_mostBeside 54 = .ok (.aload_n 0, 1) := by decide +kernel
theorem dX4_mostBeside_55 : decode cX4_mostBeside 55 = .ok (.getfield 22, 3) := by decide +kernel
theorem dX4_mostBeside_58 : decode cX4_mostBeside 58 = .ok (.iload 5, 2) := by decide +kernel
theorem dX4_mostBeside_60 : decode cX4_mostBeside 60 = .ok (.invokevirtual 64, 3) := by decide +kernel
theorem dX4_mostBeside_63 : decode cX4_mostBeside 63 = .ok (.ior, 1) := by decide +kernel
theorem dX4_mostBeside_64 : decode cX4_mostBeside 64 = .ok (.istore 4, 2) := by decide +kernel
theorem dX4_mostBeside_66 : decode cX4_mostBeside 66 = .ok (.iinc 5 1, 3) := by decide +kernel
theorem dX4_mostBeside_69 : decode cX4_mostBeside 69 = .ok (.goto (-50), 3) := by decide +kernel
theorem dX4_mostBeside_72 : decode cX4_mostBeside 72 = .ok (.aload_n 0, 1) := by decide +kernel
theorem dX4_mostBeside_73 : decode cX4_mostBeside 73 = .ok (.lload_n 2, 1) := by decide +kernel
theorem dX4_mostBeside_74 : decode cX4_mostBeside 74 = .ok (.aload_n 1, 1) := by decide +kernel
theorem dX4_mostBeside_75 : decode cX4_mostBeside 75 = .ok (.invokevirtual 67, 3) := by decide +kernel
theorem dX4_mostBeside_78 : decode cX4_mostBeside 78 = .ok (.iload 4, 2) := by decide +kernel
theorem dX4_mostBeside_80 : decode cX4_mostBeside 80 = .ok (.invokevirtual 42, 3) := by decide +kernel
theorem dX4_mostBeside_83 : decode cX4_mostBeside 83 = .ok (.ireturn, 1) := by decide +kernel
theorem dX4_weigh_0 : decode cX4_weigh 0 = .ok (.aload_n 0, 1) := by decide +kernel
theorem dX4_weigh_1 : decode cX4_weigh 1 = .ok (.getfield 15, 3) := by decide +kernel
theorem dX4_weigh_4 : decode cX4_weigh 4 = .ok (.iconst 5, 1) := by decide +kernel
theorem dX4_weigh_5 : decode cX4_weigh 5 = .ok (.iconst 0, 1) := by decide +kernel
theorem dX4_weigh_6 : decode cX4_weigh 6 = .ok (.iastore, 1) := by decide +kernel
theorem dX4_weigh_7 : decode cX4_weigh 7 = .ok (.iconst 4, 1) := by decide +kernel
theorem dX4_weigh_8 : decode cX4_weigh 8 = .ok (.istore_n 3, 1) := by decide +kernel
theorem dX4_weigh_9 : decode cX4_weigh 9 = .ok (.iload_n 3, 1) := by decide +kernel
theorem dX4_weigh_10 : decode cX4_weigh 10 = .ok (.ifCond .lt 89, 3) := by decide +kernel
theorem dX4_weigh_13 : decode cX4_weigh 13 = .ok (.aload_n 0, 1) := by decide +kernel
theorem dX4_weigh_14 : decode cX4_weigh 14 = .ok (.getfield 22, 3) := by decide +kernel
theorem dX4_weigh_17 : decode cX4_weigh 17 = .ok (.iload_n 3, 1) := by decide +kernel
theorem dX4_weigh_18 : decode cX4_weigh 18 = .ok (.invokevirtual 70, 3) := by decide +kernel
theorem dX4_weigh_21 : decode cX4_weigh 21 = .ok (.ifCond .eq 16, 3) := by decide +kernel
theorem dX4_weigh_24 : decode cX4_weigh 24 = .ok (.iload_n 1, 1) := by decide +kernel
theorem dX4_weigh_25 : decode cX4_weigh 25 = .ok (.iload_n 3, 1) := by decide +kernel
theorem dX4_weigh_26 : decode cX4_weigh 26 = .ok (.iushr, 1) := by decide +kernel
theorem dX4_weigh_27 : decode cX4_weigh 27 = .ok (.iconst 1, 1) := by decide +kernel
theorem dX4_weigh_28 : decode cX4_weigh 28 = .ok (.iand, 1) := by decide +kernel
theorem dX4_weigh_29 : decode cX4_weigh 29 = .ok (.iconst 1, 1) := by decide +kernel
theorem dX4_weigh_30 : decode cX4_weigh 30 = .ok (.if_icmp .ne 7, 3) := by decide +kernel
theorem dX4_weigh_33 : decode cX4_weigh 33 = .ok (.iconst 1, 1) := by decide +kernel
theorem dX4_weigh_34 : decode cX4_weigh 34 = .ok (.goto 4, 3) := by decide +kernel
theorem dX4_weigh_37 : decode cX4_weigh 37 = .ok (.iconst 0, 1) := by decide +kernel
theorem dX4_weigh_38 : decode cX4_weigh 38 = .ok (.istore 4, 2) := by decide +kernel
theorem dX4_weigh_40 : decode cX4_weigh 40 = .ok (.aload_n 0, 1) := by decide +kernel
theorem dX4_weigh_41 : decode cX4_weigh 41 = .ok (.getfield 9, 3) := by decide +kernel
theorem dX4_weigh_44 : decode cX4_weigh 44 = .ok (.iload_n 3, 1) := by decide +kernel
theorem dX4_weigh_45 : decode cX4_weigh 45 = .ok (.iload 4, 2) := by decide +kernel
theorem dX4_weigh_47 : decode cX4_weigh 47 = .ok (.ifCond .ne 7, 3) := by decide +kernel
theorem dX4_weigh_50 : decode cX4_weigh 50 = .ok (.iconst 0, 1) := by decide +kernel
theorem dX4_weigh_51 : decode cX4_weigh 51 = .ok (.goto 20, 3) := by decide +kernel
theorem dX4_weigh_54 : decode cX4_weigh 54 = .ok (.iload_n 2, 1) := by decide +kernel
theorem dX4_weigh_55 : decode cX4_weigh 55 = .ok (.ifCond .eq 15, 3) := by decide +kernel
theorem dX4_weigh_58 : decode cX4_weigh 58 = .ok (.aload_n 0, 1) := by decide +kernel
theorem dX4_weigh_59 : decode cX4_weigh 59 = .ok (.getfield 22, 3) := by decide +kernel
theorem dX4_weigh_62 : decode cX4_weigh 62 = .ok (.getfield 73, 3) := by decide +kernel
theorem dX4_weigh_65 : decode cX4_weigh 65 = .ok (.iload_n 3, 1) := by decide +kernel
theorem dX4_weigh_66 : decode cX4_weigh 66 = .ok (.iaload, 1) := by decide +kernel
theorem dX4_weigh_67 : decode cX4_weigh 67 = .ok (.goto 4, 3) := by decide +kernel
theorem dX4_weigh_70 : decode cX4_weigh 70 = .ok (.iconst 1, 1) := by decide +kernel
theorem dX4_weigh_71 : decode cX4_weigh 71 = .ok (.iastore, 1) := by decide +kernel
theorem dX4_weigh_72 : decode cX4_weigh 72 = .ok (.aload_n 0, 1) := by decide +kernel
theorem dX4_weigh_73 : decode cX4_weigh 73 = .ok (.getfield 15, 3) := by decide +kernel
theorem dX4_weigh_76 : decode cX4_weigh 76 = .ok (.iload_n 3, 1) := by decide +kernel
theorem dX4_weigh_77 : decode cX4_weigh 77 = .ok (.aload_n 0, 1) := by decide +kernel
theorem dX4_weigh_78 : decode cX4_weigh 78 = .ok (.getfield 15, 3) := by decide +kernel
theorem dX4_weigh_81 : decode cX4_weigh 81 = .ok (.iload_n 3, 1) := by decide +kernel
theorem dX4_weigh_82 : decode cX4_weigh 82 = .ok (.iconst 1, 1) := by decide +kernel
theorem dX4_weigh_83 : decode cX4_weigh 83 = .ok (.iadd, 1) := by decide +kernel
theorem dX4_weigh_84 : decode cX4_weigh 84 = .ok (.iaload, 1) := by decide +kernel
theorem dX4_weigh_85 : decode cX4_weigh 85 = .ok (.aload_n 0, 1) := by decide +kernel
theorem dX4_weigh_86 : decode cX4_weigh 86 = .ok (.getfield 9, 3) := by decide +kernel
theorem dX4_weigh_89 : decode cX4_weigh 89 = .ok (.iload_n 3, 1) := by decide +kernel
theorem dX4_weigh_90 : decode cX4_weigh 90 = .ok (.iaload, 1) := by decide +kernel
theorem dX4_weigh_91 : decode cX4_weigh 91 = .ok (.iadd, 1) := by decide +kernel
theorem dX4_weigh_92 : decode cX4_weigh 92 = .ok (.iastore, 1) := by decide +kernel
theorem dX4_weigh_93 : decode cX4_weigh 93 = .ok (.iinc 3 (-1), 3) := by decide +kernel
theorem dX4_weigh_96 : decode cX4_weigh 96 = .ok (.goto (-87), 3) := by decide +kernel
theorem dX4_weigh_99 : decode cX4_weigh 99 = .ok (.return_, 1) := by decide +kernel
theorem dX4_search_0 : decode cX4_search 0 = .ok (.aload_n 0, 1) := by decide +kernel
theorem dX4_search_1 : decode cX4_search 1 = .ok (.bipush (-9), 2) := by decide +kernel
theorem dX4_search_3 : decode cX4_search 3 = .ok (.putfield 18, 3) := by decide +kernel
theorem dX4_search_6 : decode cX4_search 6 = .ok (.aload_n 0, 1) := by decide +kernel
theorem dX4_search_7 : decode cX4_search 7 = .ok (.iconst 0, 1) := by decide +kernel
theorem dX4_search_8 : decode cX4_search 8 = .ok (.iconst 0, 1) := by decide +kernel
theorem dX4_search_9 : decode cX4_search 9 = .ok (.lload_n 1, 1) := by decide +kernel
theorem dX4_search_10 : decode cX4_search 10 = .ok (.iload_n 3, 1) := by decide +kernel
theorem dX4_search_11 : decode cX4_search 11 = .ok (.iload 4, 2) := by decide +kernel
theorem dX4_search_13 : decode cX4_search 13 = .ok (.invokevirtual 76, 3) := by decide +kernel
theorem dX4_search_16 : decode cX4_search 16 = .ok (.aload_n 0, 1) := by decide +kernel
theorem dX4_search_17 : decode cX4_search 17 = .ok (.getfield 18, 3) := by decide +kernel
theorem dX4_search_20 : decode cX4_search 20 = .ok (.ireturn, 1) := by decide +kernel
theorem dX4_walk_0 : decode cX4_walk 0 = .ok (.iload_n 1, 1) := by decide +kernel
theorem dX4_walk_1 : decode cX4_walk 1 = .ok (.ifCond .lt 23, 3) := by decide +kernel
theorem dX4_walk_4 : decode cX4_walk 4 = .ok (.iload_n 1, 1) := by decide +kernel
theorem dX4_walk_5 : decode cX4_walk 5 = .ok (.iconst 5, 1) := by decide +kernel
theorem dX4_walk_6 : decode cX4_walk 6 = .ok (.if_icmp .gt 18, 3) := by decide +kernel
theorem dX4_walk_9 : decode cX4_walk 9 = .ok (.iload_n 2, 1) := by decide +kernel
theorem dX4_walk_10 : decode cX4_walk 10 = .ok (.aload_n 0, 1) := by decide +kernel
theorem dX4_walk_11 : decode cX4_walk 11 = .ok (.getfield 15, 3) := by decide +kernel
theorem dX4_walk_14 : decode cX4_walk 14 = .ok (.iload_n 1, 1) := by decide +kernel
theorem dX4_walk_15 : decode cX4_walk 15 = .ok (.iaload, 1) := by decide +kernel
theorem dX4_walk_16 : decode cX4_walk 16 = .ok (.iadd, 1) := by decide +kernel
theorem dX4_walk_17 : decode cX4_walk 17 = .ok (.aload_n 0, 1) := by decide +kernel
theorem dX4_walk_18 : decode cX4_walk 18 = .ok (.getfield 18, 3) := by decide +kernel
theorem dX4_walk_21 : decode cX4_walk 21 = .ok (.if_icmp .gt 4, 3) := by decide +kernel
theorem dX4_walk_24 : decode cX4_walk 24 = .ok (.return_, 1) := by decide +kernel
theorem dX4_walk_25 : decode cX4_walk 25 = .ok (.iload_n 1, 1) := by decide +kernel
theorem dX4_walk_26 : decode cX4_walk 26 = .ok (.iconst 5, 1) := by decide +kernel
theorem dX4_walk_27 : decode cX4_walk 27 = .ok (.if_icmp .ne 20, 3) := by decide +kernel
theorem dX4_walk_30 : decode cX4_walk 30 = .ok (.aload_n 0, 1) := by decide +kernel
theorem dX4_walk_31 : decode cX4_walk 31 = .ok (.iload_n 2, 1) := by decide +kernel
theorem dX4_walk_32 : decode cX4_walk 32 = .ok (.putfield 18, 3) := by decide +kernel
theorem dX4_walk_35 : decode cX4_walk 35 = .ok (.aload_n 0, 1) := by decide +kernel
theorem dX4_walk_36 : decode cX4_walk 36 = .ok (.getfield 35, 3) := by decide +kernel
theorem dX4_walk_39 : decode cX4_walk 39 = .ok (.aload_n 0, 1) := by decide +kernel
theorem dX4_walk_40 : decode cX4_walk 40 = .ok (.getfield 31, 3) := by decide +kernel
theorem dX4_walk_43 : decode cX4_walk 43 = .ok (.invokevirtual 80, 3) := by decide +kernel
theorem dX4_walk_46 : decode cX4_walk 46 = .ok (.return_, 1) := by decide +kernel
theorem dX4_walk_47 : decode cX4_walk 47 = .ok (.aload_n 0, 1) := by decide +kernel
theorem dX4_walk_48 : decode cX4_walk 48 = .ok (.getfield 31, 3) := by decide +kernel
theorem dX4_walk_51 : decode cX4_walk 51 = .ok (.iload_n 1, 1) := by decide +kernel
theorem dX4_walk_52 : decode cX4_walk 52 = .ok (.iconst 0, 1) := by decide +kernel
theorem dX4_walk_53 : decode cX4_walk 53 = .ok (.invokevirtual 84, 3) := by decide +kernel
theorem dX4_walk_56 : decode cX4_walk 56 = .ok (.aload_n 0, 1) := by decide +kernel
theorem dX4_walk_57 : decode cX4_walk 57 = .ok (.iload_n 1, 1) := by decide +kernel
theorem dX4_walk_58 : decode cX4_walk 58 = .ok (.iconst 1, 1) := by decide +kernel
theorem dX4_walk_59 : decode cX4_walk 59 = .ok (.iadd, 1) := by decide +kernel
theorem dX4_walk_60 : decode cX4_walk 60 = .ok (.iload_n 2, 1) := by decide +kernel
theorem dX4_walk_61 : decode cX4_walk 61 = .ok (.lload_n 3, 1) := by decide +kernel
theorem dX4_walk_62 : decode cX4_walk 62 = .ok (.iload 5, 2) := by decide +kernel
theorem dX4_walk_64 : decode cX4_walk 64 = .ok (.iload 6, 2) := by decide +kernel
theorem dX4_walk_66 : decode cX4_walk 66 = .ok (.invokevirtual 76, 3) := by decide +kernel
theorem dX4_walk_69 : decode cX4_walk 69 = .ok (.iconst 0, 1) := by decide +kernel
theorem dX4_walk_70 : decode cX4_walk 70 = .ok (.istore 7, 2) := by decide +kernel
theorem dX4_walk_72 : decode cX4_walk 72 = .ok (.iload 7, 2) := by decide +kernel
theorem dX4_walk_74 : decode cX4_walk 74 = .ok (.bipush 10, 2) := by decide +kernel
theorem dX4_walk_76 : decode cX4_walk 76 = .ok (.if_icmp .ge 141, 3) := by decide +kernel
theorem dX4_walk_79 : decode cX4_walk 79 = .ok (.aload_n 0, 1) := by decide +kernel
theorem dX4_walk_80 : decode cX4_walk 80 = .ok (.getfield 9, 3) := by decide +kernel
theorem dX4_walk_83 : decode cX4_walk 83 = .ok (.iload_n 1, 1) := by decide +kernel
theorem dX4_walk_84 : decode cX4_walk 84 = .ok (.iaload, 1) := by decide +kernel
theorem dX4_walk_85 : decode cX4_walk 85 = .ok (.ifCond .le 132, 3) := by decide +kernel
theorem dX4_walk_88 : decode cX4_walk 88 = .ok (.aload_n 0, 1) := by decide +kernel
theorem dX4_walk_89 : decode cX4_walk 89 = .ok (.getfield 22, 3) := by decide +kernel
theorem dX4_walk_92 : decode cX4_walk 92 = .ok (.iload_n 1, 1) := by decide +kernel
theorem dX4_walk_93 : decode cX4_walk 93 = .ok (.iload 7, 2) := by decide +kernel
theorem dX4_walk_95 : decode cX4_walk 95 = .ok (.invokevirtual 88, 3) := by decide +kernel
theorem dX4_walk_98 : decode cX4_walk 98 = .ok (.ifCond .eq 113, 3) := by decide +kernel
theorem dX4_walk_101 : decode cX4_walk 101 = .ok (.aload_n 0, 1) := by decide +kernel
theorem dX4_walk_102 : decode cX4_walk 102 = .ok (.getfield 22, 3) := by decide +kernel
theorem dX4_walk_105 : decode cX4_walk 105 = .ok (.iload_n 1, 1) := by decide +kernel
theorem dX4_walk_106 : decode cX4_walk 106 = .ok (.iload 7, 2) := by decide +kernel
theorem dX4_walk_108 : decode cX4_walk 108 = .ok (.invokevirtual 58, 3) := by decide +kernel
theorem dX4_walk_111 : decode cX4_walk 111 = .ok (.lload_n 3, 1) := by decide +kernel
theorem dX4_walk_112 : decode cX4_walk 112 = .ok (.land, 1) := by decide +kernel
theorem dX4_walk_113 : decode cX4_walk 113 = .ok (.lconst 0, 1) := by decide +kernel
theorem dX4_walk_114 : decode cX4_walk 114 = .ok (.lcmp, 1) := by decide +kernel
theorem dX4_walk_115 : decode cX4_walk 115 = .ok (.ifCond .ne 96, 3) := by decide +kernel
theorem dX4_walk_118 : decode cX4_walk 118 = .ok (.aload_n 0, 1) := by decide +kernel
theorem dX4_walk_119 : decode cX4_walk 119 = .ok (.getfield 22, 3) := by decide +kernel
theorem dX4_walk_122 : decode cX4_walk 122 = .ok (.iload_n 1, 1) := by decide +kernel
theorem dX4_walk_123 : decode cX4_walk 123 = .ok (.iload 7, 2) := by decide +kernel
theorem dX4_walk_125 : decode cX4_walk 125 = .ok (.invokevirtual 92, 3) := by decide +kernel
theorem dX4_walk_128 : decode cX4_walk 128 = .ok (.iload 6, 2) := by decide +kernel
theorem dX4_walk_130 : decode cX4_walk 130 = .ok (.iand, 1) := by decide +kernel
theorem dX4_walk_131 : decode cX4_walk 131 = .ok (.ifCond .ne 80, 3) := by decide +kernel
theorem dX4_walk_134 : decode cX4_walk 134 = .ok (.aload_n 0, 1) := by decide +kernel
theorem dX4_walk_135 : decode cX4_walk 135 = .ok (.getfield 22, 3) := by decide +kernel
theorem dX4_walk_138 : decode cX4_walk 138 = .ok (.iload_n 1, 1) := by decide +kernel
theorem dX4_walk_139 : decode cX4_walk 139 = .ok (.invokevirtual 64, 3) := by decide +kernel
theorem dX4_walk_142 : decode cX4_walk 142 = .ok (.iload 5, 2) := by decide +kernel
theorem dX4_walk_144 : decode cX4_walk 144 = .ok (.iand, 1) := by decide +kernel
theorem dX4_walk_145 : decode cX4_walk 145 = .ok (.ifCond .ne 66, 3) := by decide +kernel
theorem dX4_walk_148 : decode cX4_walk 148 = .ok (.aload_n 0, 1) := by decide +kernel
theorem dX4_walk_149 : decode cX4_walk 149 = .ok (.getfield 31, 3) := by decide +kernel
theorem dX4_walk_152 : decode cX4_walk 152 = .ok (.iload_n 1, 1) := by decide +kernel
theorem dX4_walk_153 : decode cX4_walk 153 = .ok (.iload 7, 2) := by decide +kernel
theorem dX4_walk_155 : decode cX4_walk 155 = .ok (.iconst 1, 1) := by decide +kernel
theorem dX4_walk_156 : decode cX4_walk 156 = .ok (.iadd, 1) := by decide +kernel
theorem dX4_walk_157 : decode cX4_walk 157 = .ok (.invokevirtual 84, 3) := by decide +kernel
theorem dX4_walk_160 : decode cX4_walk 160 = .ok (.aload_n 0, 1) := by decide +kernel
theorem dX4_walk_161 : decode cX4_walk 161 = .ok (.iload_n 1, 1) := by decide +kernel
theorem dX4_walk_162 : decode cX4_walk 162 = .ok (.iconst 1, 1) := by decide +kernel
theorem dX4_walk_163 : decode cX4_walk 163 = .ok (.iadd, 1) := by decide +kernel
theorem dX4_walk_164 : decode cX4_walk 164 = .ok (.iload_n 2, 1) := by decide +kernel
theorem dX4_walk_165 : decode cX4_walk 165 = .ok (.aload_n 0, 1) := by decide +kernel
theorem dX4_walk_166 : decode cX4_walk 166 = .ok (.getfield 9, 3) := by decide +kernel
theorem dX4_walk_169 : decode cX4_walk 169 = .ok (.iload_n 1, 1) := by decide +kernel
theorem dX4_walk_170 : decode cX4_walk 170 = .ok (.iaload, 1) := by decide +kernel
theorem dX4_walk_171 : decode cX4_walk 171 = .ok (.iadd, 1) := by decide +kernel
theorem dX4_walk_172 : decode cX4_walk 172 = .ok (.lload_n 3, 1) := by decide +kernel
theorem dX4_walk_173 : decode cX4_walk 173 = .ok (.aload_n 0, 1) := by decide +kernel
theorem dX4_walk_174 : decode cX4_walk 174 = .ok (.getfield 22, 3) := by decide +kernel
theorem dX4_walk_177 : decode cX4_walk 177 = .ok (.iload_n 1, 1) := by decide +kernel
theorem dX4_walk_178 : decode cX4_walk 178 = .ok (.iload 7, 2) := by decide +kernel
theorem dX4_walk_180 : decode cX4_walk 180 = .ok (.invokevirtual 58, 3) := by decide +kernel
theorem dX4_walk_183 : decode cX4_walk 183 = .ok (.lor, 1) := by decide +kernel
theorem dX4_walk_184 : decode cX4_walk 184 = .ok (.iload 5, 2) := by decide +kernel
theorem dX4_walk_186 : decode cX4_walk 186 = .ok (.aload_n 0, 1) := by decide +kernel
theorem dX4_walk_187 : decode cX4_walk 187 = .ok (.getfield 22, 3) := by decide +kernel
theorem dX4_walk_190 : decode cX4_walk 190 = .ok (.iload_n 1, 1) := by decide +kernel
theorem dX4_walk_191 : decode cX4_walk 191 = .ok (.iload 7, 2) := by decide +kernel
theorem dX4_walk_193 : decode cX4_walk 193 = .ok (.invokevirtual 92, 3) := by decide +kernel
theorem dX4_walk_196 : decode cX4_walk 196 = .ok (.ior, 1) := by decide +kernel
theorem dX4_walk_197 : decode cX4_walk 197 = .ok (.iload 6, 2) := by decide +kernel
theorem dX4_walk_199 : decode cX4_walk 199 = .ok (.aload_n 0, 1) := by decide +kernel
theorem dX4_walk_200 : decode cX4_walk 200 = .ok (.getfield 22, 3) := by decide +kernel
theorem dX4_walk_203 : decode cX4_walk 203 = .ok (.iload_n 1, 1) := by decide +kernel
theorem dX4_walk_204 : decode cX4_walk 204 = .ok (.invokevirtual 64, 3) := by decide +kernel
theorem dX4_walk_207 : decode cX4_walk 207 = .ok (.ior, 1) := by decide +kernel
theorem dX4_walk_208 : decode cX4_walk 208 = .ok (.invokevirtual 76, 3) := by decide +kernel
theorem dX4_walk_211 : decode cX4_walk 211 = .ok (.iinc 7 1, 3) := by decide +kernel
theorem dX4_walk_214 : decode cX4_walk 214 = .ok (.goto (-142), 3) := by decide +kernel
theorem dX4_walk_217 : decode cX4_walk 217 = .ok (.return_, 1) := by decide +kernel
end
section
theorem dX5_init_0 : decode cX5_init 0 = .ok (.aload_n 0, 1) := by decide +kernel
theorem dX5_init_1 : decode cX5_init 1 = .ok (.invokespecial 3, 3) := by decide +kernel
theorem dX5_init_4 : decode cX5_init 4 = .ok (.aload_n 0, 1) := by decide +kernel
theorem dX5_init_5 : decode cX5_init 5 = .ok (.bipush 15, 2) := by decide +kernel
theorem dX5_init_7 : decode cX5_init 7 = .ok (.newarray .int, 2) := by decide +kernel
theorem dX5_init_9 : decode cX5_init 9 = .ok (.putfield 9, 3) := by decide +kernel
theorem dX5_init_12 : decode cX5_init 12 = .ok (.aload_n 0, 1) := by decide +kernel
theorem dX5_init_13 : decode cX5_init 13 = .ok (.bipush 15, 2) := by decide +kernel
theorem dX5_init_15 : decode cX5_init 15 = .ok (.newarray .int, 2) := by decide +kernel
theorem dX5_init_17 : decode cX5_init 17 = .ok (.putfield 15, 3) := by decide +kernel
theorem dX5_init_20 : decode cX5_init 20 = .ok (.aload_n 0, 1) := by decide +kernel
theorem dX5_init_21 : decode cX5_init 21 = .ok (.bipush 15, 2) := by decide +kernel
theorem dX5_init_23 : decode cX5_init 23 = .ok (.newarray .int, 2) := by decide +kernel
theorem dX5_init_25 : decode cX5_init 25 = .ok (.putfield 18, 3) := by decide +kernel
theorem dX5_init_28 : decode cX5_init 28 = .ok (.aload_n 0, 1) := by decide +kernel
theorem dX5_init_29 : decode cX5_init 29 = .ok (.bipush 15, 2) := by decide +kernel
theorem dX5_init_31 : decode cX5_init 31 = .ok (.newarray .int, 2) := by decide +kernel
theorem dX5_init_33 : decode cX5_init 33 = .ok (.putfield 21, 3) := by decide +kernel
theorem dX5_init_36 : decode cX5_init 36 = .ok (.aload_n 0, 1) := by decide +kernel
theorem dX5_init_37 : decode cX5_init 37 = .ok (.iconst 0, 1) := by decide +kernel
theorem dX5_init_38 : decode cX5_init 38 = .ok (.putfield 24, 3) := by decide +kernel
theorem dX5_init_41 : decode cX5_init 41 = .ok (.aload_n 0, 1) := by decide +kernel
theorem dX5_init_42 : decode cX5_init 42 = .ok (.iconst 0, 1) := by decide +kernel
theorem dX5_init_43 : decode cX5_init 43 = .ok (.putfield 28, 3) := by decide +kernel
theorem dX5_init_46 : decode cX5_init 46 = .ok (.aload_n 0, 1) := by decide +kernel
theorem dX5_init_47 : decode cX5_init 47 = .ok (.aload_n 1, 1) := by decide +kernel
theorem dX5_init_48 : decode cX5_init 48 = .ok (.putfield 31, 3) := by decide +kernel
theorem dX5_init_51 : decode cX5_init 51 = .ok (.return_, 1) := by decide +kernel
theorem dX5_fewest_0 : decode cX5_fewest 0 = .ok (.aload_n 0, 1) := by decide +kernel
theorem dX5_fewest_1 : decode cX5_fewest 1 = .ok (.iconst 0, 1) := by decide +kernel
theorem dX5_fewest_2 : decode cX5_fewest 2 = .ok (.putfield 24, 3) := by decide +kernel
theorem dX5_fewest_5 : decode cX5_fewest 5 = .ok (.iconst 0, 1) := by decide +kernel
theorem dX5_fewest_6 : decode cX5_fewest 6 = .ok (.istore_n 2, 1) := by decide +kernel
theorem dX5_fewest_7 : decode cX5_fewest 7 = .ok (.iload_n 2, 1) := by decide +kernel
theorem dX5_fewest_8 : decode cX5_fewest 8 = .ok (.iconst 5, 1) := by decide +kernel
theorem dX5_fewest_9 : decode cX5_fewest 9 = .ok (.if_icmp .ge 27, 3) := by decide +kernel
theorem dX5_fewest_12 : decode cX5_fewest 12 = .ok (.aload_n 1, 1) := by decide +kernel
theorem dX5_fewest_13 : decode cX5_fewest 13 = .ok (.iload_n 2, 1) := by decide +kernel
theorem dX5_fewest_14 : decode cX5_fewest 14 = .ok (.invokevirtual 35, 3) := by decide +kernel
theorem dX5_fewest_17 : decode cX5_fewest 17 = .ok (.ifCond .eq 13, 3) := by decide +kernel
theorem dX5_fewest_20 : decode cX5_fewest 20 = .ok (.aload_n 0, 1) := by decide +kernel
theorem dX5_fewest_21 : decode cX5_fewest 21 = .ok (.iload_n 2, 1) := by decide +kernel
theorem dX5_fewest_22 : decode cX5_fewest 22 = .ok (.aload_n 1, 1) := by decide +kernel
theorem dX5_fewest_23 : decode cX5_fewest 23 = .ok (.iload_n 2, 1) := by decide +kernel
theorem dX5_fewest_24 : decode cX5_fewest 24 = .ok (.invokevirtual 41, 3) := by decide +kernel
theorem dX5_fewest_27 : decode cX5_fewest 27 = .ok (.invokevirtual 45, 3) := by decide +kernel
theorem dX5_fewest_30 : decode cX5_fewest 30 = .ok (.iinc 2 1, 3) := by decide +kernel
theorem dX5_fewest_33 : decode cX5_fewest 33 = .ok (.goto (-26), 3) := by decide +kernel
theorem dX5_fewest_36 : decode cX5_fewest 36 = .ok (.aload_n 0, 1) := by decide +kernel
theorem dX5_fewest_37 : decode cX5_fewest 37 = .ok (.getfield 24, 3) := by decide +kernel
theorem dX5_fewest_40 : decode cX5_fewest 40 = .ok (.istore_n 2, 1) := by decide +kernel
theorem dX5_fewest_41 : decode cX5_fewest 41 = .ok (.iconst 0, 1) := by decide +kernel
theorem dX5_fewest_42 : decode cX5_fewest 42 = .ok (.istore_n 3, 1) := by decide +kernel
theorem dX5_fewest_43 : decode cX5_fewest 43 = .ok (.iload_n 3, 1) := by decide +kernel
theorem dX5_fewest_44 : decode cX5_fewest 44 = .ok (.bipush 15, 2) := by decide +kernel
theorem dX5_fewest_46 : decode cX5_fewest 46 = .ok (.if_icmp .ge 39, 3) := by decide +kernel
theorem dX5_fewest_49 : decode cX5_fewest 49 = .ok (.iload_n 3, 1) := by decide +kernel
theorem dX5_fewest_50 : decode cX5_fewest 50 = .ok (.aload_n 0, 1) := by decide +kernel
theorem dX5_fewest_51 : decode cX5_fewest 51 = .ok (.getfield 24, 3) := by decide +kernel
theorem dX5_fewest_54 : decode cX5_fewest 54 = .ok (.if_icmp .ge 31, 3) := by decide +kernel
theorem dX5_fewest_57 : decode cX5_fewest 57 = .ok (.aload_n 0, 1) := by decide +kernel
theorem dX5_fewest_58 : decode cX5_fewest 58 = .ok (.iconst 0, 1) := by decide +kernel
theorem dX5_fewest_59 : decode cX5_fewest 59 = .ok (.putfield 28, 3) := by decide +kernel
theorem dX5_fewest_62 : decode cX5_fewest 62 = .ok (.iload_n 2, 1) := by decide +kernel
theorem dX5_fewest_63 : decode cX5_fewest 63 = .ok (.aload_n 0, 1) := by decide +kernel
theorem dX5_fewest_64 : decode cX5_fewest 64 = .ok (.iload_n 3, 1) := by decide +kernel
theorem dX5_fewest_65 : decode cX5_fewest 65 = .ok (.iconst 0, 1) := by decide +kernel
theorem dX5_fewest_66 : decode cX5_fewest 66 = .ok (.invokevirtual 49, 3) := by decide +kernel
theorem dX5_fewest_69 : decode cX5_fewest 69 = .ok (.ifCond .eq 7, 3) := by decide +kernel
theorem dX5_fewest_72 : decode cX5_fewest 72 = .ok (.iconst 1, 1) := by decide +kernel
theorem dX5_fewest_73 : decode cX5_fewest 73 = .ok (.goto 4, 3) := by decide +kernel
theorem dX5_fewest_76 : decode cX5_fewest 76 = .ok (.iconst 0, 1) := by decide +kernel
theorem dX5_fewest_77 : decode cX5_fewest 77 = .ok (.isub, 1) := by decide +kernel
theorem dX5_fewest_78 : decode cX5_fewest 78 = .ok (.istore_n 2, 1) := by decide +kernel
theorem dX5_fewest_79 : decode cX5_fewest 79 = .ok (.iinc 3 1, 3) := by decide +kernel
theorem dX5_fewest_82 : decode cX5_fewest 82 = .ok (.goto (-39), 3) := by decide +kernel
theorem dX5_fewest_85 : decode cX5_fewest 85 = .ok (.iload_n 2, 1) := by decide +kernel
theorem dX5_fewest_86 : decode cX5_fewest 86 = .ok (.ireturn, 1) := by decide +kernel
theorem dX5_addStrokes_0 : decode cX5_addStrokes 0 = .ok (.aload_n 0, 1) := by decide +kernel
theorem dX5_addStrokes_1 : decode cX5_addStrokes 1 = .ok (.getfield 31, 3) := by decide +kernel
theorem dX5_addStrokes_4 : decode cX5_addStrokes 4 = .ok (.getfield 53, 3) := by decide +kernel
theorem dX5_addStrokes_7 : decode cX5_addStrokes 7 = .ok (.iload_n 1, 1) := by decide +kernel
theorem dX5_addStrokes_8 : decode cX5_addStrokes 8 = .ok (.invokestatic 58, 3) := by decide +kernel
theorem dX5_addStrokes_11 : decode cX5_addStrokes 11 = .ok (.istore_n 3, 1) := by decide +kernel
theorem dX5_addStrokes_12 : decode cX5_addStrokes 12 = .ok (.aload_n 0, 1) := by decide +kernel
theorem dX5_addStrokes_13 : decode cX5_addStrokes 13 = .ok (.getfield 31, 3) := by decide +kernel
theorem dX5_addStrokes_16 : decode cX5_addStrokes 16 = .ok (.getfield 62, 3) := by decide +kernel
theorem dX5_addStrokes_19 : decode cX5_addStrokes 19 = .ok (.iload_n 3, 1) := by decide +kernel
theorem dX5_addStrokes_20 : decode cX5_addStrokes 20 = .ok (.invokestatic 58, 3) := by decide +kernel
theorem dX5_addStrokes_23 : decode cX5_addStrokes 23 = .ok (.istore 4, 2) := by decide +kernel
theorem dX5_addStrokes_25 : decode cX5_addStrokes 25 = .ok (.aload_n 0, 1) := by decide +kernel
theorem dX5_addStrokes_26 : decode cX5_addStrokes 26 = .ok (.getfield 31, 3) := by decide +kernel
theorem dX5_addStrokes_29 : decode cX5_addStrokes 29 = .ok (.getfield 65, 3) := by decide +kernel
theorem dX5_addStrokes_32 : decode cX5_addStrokes 32 = .ok (.iload_n 1, 1) := by decide +kernel
theorem dX5_addStrokes_33 : decode cX5_addStrokes 33 = .ok (.invokestatic 58, 3) := by decide +kernel
theorem dX5_addStrokes_36 : decode cX5_addStrokes 36 = .ok (.istore 5, 2) := by decide +kernel
theorem dX5_addStrokes_38 : decode cX5_addStrokes 38 = .ok (.iconst 0, 1) := by decide +kernel
theorem dX5_addStrokes_39 : decode cX5_addStrokes 39 = .ok (.istore 6, 2) := by decide +kernel
theorem dX5_addStrokes_41 : decode cX5_addStrokes 41 = .ok (.iload 6, 2) := by decide +kernel
theorem dX5_addStrokes_43 : decode cX5_addStrokes 43 = .ok (.iload 5, 2) := by decide +kernel
theorem dX5_addStrokes_45 : decode cX5_addStrokes 45 = .ok (.if_icmp .ge 105, 3) := by decide +kernel
theorem dX5_addStrokes_48 : decode cX5_addStrokes 48 = .ok (.aload_n 0, 1) := by decide +kernel
theorem dX5_addStrokes_49 : decode cX5_addStrokes 49 = .ok (.getfield 24, 3) := by decide +kernel
theorem dX5_addStrokes_52 : decode cX5_addStrokes 52 = .ok (.ifCond .lt 98, 3) := by decide +kernel
theorem dX5_addStrokes_55 : decode cX5_addStrokes 55 = .ok (.aload_n 0, 1) := by decide +kernel
theorem dX5_addStrokes_56 : decode cX5_addStrokes 56 = .ok (.getfield 24, 3) := by decide +kernel
theorem dX5_addStrokes_59 : decode cX5_addStrokes 59 = .ok (.bipush 15, 2) := by decide +kernel
theorem dX5_addStrokes_61 : decode cX5_addStrokes 61 = .ok (.if_icmp .ge 89, 3) := by decide +kernel
theorem dX5_addStrokes_64 : decode cX5_addStrokes 64 = .ok (.aload_n 0, 1) := by decide +kernel
theorem dX5_addStrokes_65 : decode cX5_addStrokes 65 = .ok (.getfield 9, 3) := by decide +kernel
theorem dX5_addStrokes_68 : decode cX5_addStrokes 68 = .ok (.aload_n 0, 1) := by decide +kernel
theorem dX5_addStrokes_69 : decode cX5_addStrokes 69 = .ok (.getfield 24, 3) := by decide +kernel
theorem dX5_addStrokes_72 : decode cX5_addStrokes 72 = .ok (.iload_n 2, 1) := by decide +kernel
theorem dX5_addStrokes_73 : decode cX5_addStrokes 73 = .ok (.iload 6, 2) := by decide +kernel
theorem dX5_addStrokes_75 : decode cX5_addStrokes 75 = .ok (.iload 4, 2) := by decide +kernel
theorem dX5_addStrokes_77 : decode cX5_addStrokes 77 = .ok (.aload_n 0, 1) := by decide +kernel
theorem dX5_addStrokes_78 : decode cX5_addStrokes 78 = .ok (.getfield 31, 3) := by decide +kernel
theorem dX5_addStrokes_81 : decode cX5_addStrokes 81 = .ok (.getfield 68, 3) := by decide +kernel
theorem dX5_addStrokes_84 : decode cX5_addStrokes 84 = .ok (.iload_n 1, 1) := by decide +kernel
theorem dX5_addStrokes_85 : decode cX5_addStrokes 85 = .ok (.invokestatic 58, 3) := by decide +kernel
theorem dX5_addStrokes_88 : decode cX5_addStrokes 88 = .ok (.iadd, 1) := by decide +kernel
theorem dX5_addStrokes_89 : decode cX5_addStrokes 89 = .ok (.imul, 1) := by decide +kernel
theorem dX5_addStrokes_90 : decode cX5_addStrokes 90 = .ok (.iadd, 1) := by decide +kernel
theorem dX5_addStrokes_91 : decode cX5_addStrokes 91 = .ok (.iastore, 1) := by decide +kernel
theorem dX5_addStrokes_92 : decode cX5_addStrokes 92 = .ok (.aload_n 0, 1) := by decide +kernel
theorem dX5_addStrokes_93 : decode cX5_addStrokes 93 = .ok (.getfield 15, 3) := by decide +kernel
theorem dX5_addStrokes_96 : decode cX5_addStrokes 96 = .ok (.aload_n 0, 1) := by decide +kernel
theorem dX5_addStrokes_97 : decode cX5_addStrokes 97 = .ok (.getfield 24, 3) := by decide +kernel
theorem dX5_addStrokes_100 : decode cX5_addStrokes 100 = .ok (.aload_n 0, 1) := by decide +kernel
theorem dX5_addStrokes_101 : decode cX5_addStrokes 101 = .ok (.getfield 9, 3) := by decide +kernel
theorem dX5_addStrokes_104 : decode cX5_addStrokes 104 = .ok (.aload_n 0, 1) := by decide +kernel
theorem dX5_addStrokes_105 : decode cX5_addStrokes 105 = .ok (.getfield 24, 3) := by decide +kernel
theorem dX5_addStrokes_108 : decode cX5_addStrokes 108 = .ok (.iaload, 1) := by decide +kernel
theorem dX5_addStrokes_109 : decode cX5_addStrokes 109 = .ok (.iload 4, 2) := by decide +kernel
theorem dX5_addStrokes_111 : decode cX5_addStrokes 111 = .ok (.iadd, 1) := by decide +kernel
theorem dX5_addStrokes_112 : decode cX5_addStrokes 112 = .ok (.iastore, 1) := by decide +kernel
theorem dX5_addStrokes_113 : decode cX5_addStrokes 113 = .ok (.aload_n 0, 1) := by decide +kernel
theorem dX5_addStrokes_114 : decode cX5_addStrokes 114 = .ok (.getfield 18, 3) := by decide +kernel
theorem dX5_addStrokes_117 : decode cX5_addStrokes 117 = .ok (.aload_n 0, 1) := by decide +kernel
theorem dX5_addStrokes_118 : decode cX5_addStrokes 118 = .ok (.getfield 24, 3) := by decide +kernel
theorem dX5_addStrokes_121 : decode cX5_addStrokes 121 = .ok (.iload_n 3, 1) := by decide +kernel
theorem dX5_addStrokes_122 : decode cX5_addStrokes 122 = .ok (.iastore, 1) := by decide +kernel
theorem dX5_addStrokes_123 : decode cX5_addStrokes 123 = .ok (.aload_n 0, 1) := by decide +kernel
theorem dX5_addStrokes_124 : decode cX5_addStrokes 124 = .ok (.getfield 21, 3) := by decide +kernel
theorem dX5_addStrokes_127 : decode cX5_addStrokes 127 = .ok (.aload_n 0, 1) := by decide +kernel
theorem dX5_addStrokes_128 : decode cX5_addStrokes 128 = .ok (.getfield 24, 3) := by decide +kernel
theorem dX5_addStrokes_131 : decode cX5_addStrokes 131 = .ok (.bipush (-9), 2) := by decide +kernel
theorem dX5_addStrokes_133 : decode cX5_addStrokes 133 = .ok (.iastore, 1) := by decide +kernel
theorem dX5_addStrokes_134 : decode cX5_addStrokes 134 = .ok (.aload_n 0, 1) := by decide +kernel
theorem dX5_addStrokes_135 : decode cX5_addStrokes 135 = .ok (.dup, 1) := by decide +kernel
theorem dX5_addStrokes_136 : decode cX5_addStrokes 136 = .ok (.getfield 24, 3) := by decide +kernel
theorem dX5_addStrokes_139 : decode cX5_addStrokes 139 = .ok (.iconst 1, 1) := by decide +kernel
theorem dX5_addStrokes_140 : decode cX5_addStrokes 140 = .ok (.iadd, 1) := by decide +kernel
theorem dX5_addStrokes_141 : decode cX5_addStrokes 141 = .ok (.putfield 24, 3) := by decide +kernel
theorem dX5_addStrokes_144 : decode cX5_addStrokes 144 = .ok (.iinc 6 1, 3) := by decide +kernel
theorem dX5_addStrokes_147 : decode cX5_addStrokes 147 = .ok (.goto (-106), 3) := by decide +kernel
theorem dX5_addStrokes_150 : decode cX5_addStrokes 150 = .ok (.return_, 1) := by decide +kernel
theorem dX5_goesOn_0 : decode cX5_goesOn 0 = .ok (.iload_n 1, 1) := by decide +kernel
theorem dX5_goesOn_1 : decode cX5_goesOn 1 = .ok (.ifCond .lt 15, 3) := by decide +kernel
theorem dX5_goesOn_4 : decode cX5_goesOn 4 = .ok (.iload_n 1, 1) := by decide +kernel
theorem dX5_goesOn_5 : decode cX5_goesOn 5 = .ok (.bipush 15, 2) := by decide +kernel
theorem dX5_goesOn_7 : decode cX5_goesOn 7 = .ok (.if_icmp .ge 9, 3) := by decide +kernel
theorem dX5_goesOn_10 : decode cX5_goesOn 10 = .ok (.iload_n 2, 1) := by decide +kernel
theorem dX5_goesOn_11 : decode cX5_goesOn 11 = .ok (.bipush 15, 2) := by decide +kernel
theorem dX5_goesOn_13 : decode cX5_goesOn 13 = .ok (.if_icmp .le 5, 3) := by decide +kernel
theorem dX5_goesOn_16 : decode cX5_goesOn 16 = .ok (.iconst 0, 1) := by decide +kernel
theorem dX5_goesOn_17 : decode cX5_goesOn 17 = .ok (.ireturn, 1) := by decide +kernel
theorem dX5_goesOn_18 : decode cX5_goesOn 18 = .ok (.iconst 0, 1) := by decide +kernel
theorem dX5_goesOn_19 : decode cX5_goesOn 19 = .ok (.istore_n 3, 1) := by decide +kernel
theorem dX5_goesOn_20 : decode cX5_goesOn 20 = .ok (.iload_n 3, 1) := by decide +kernel
theorem dX5_goesOn_21 : decode cX5_goesOn 21 = .ok (.bipush 15, 2) := by decide +kernel
theorem dX5_goesOn_23 : decode cX5_goesOn 23 = .ok (.if_icmp .ge 85, 3) := by decide +kernel
theorem dX5_goesOn_26 : decode cX5_goesOn 26 = .ok (.iload_n 3, 1) := by decide +kernel
theorem dX5_goesOn_27 : decode cX5_goesOn 27 = .ok (.aload_n 0, 1) := by decide +kernel
theorem dX5_goesOn_28 : decode cX5_goesOn 28 = .ok (.getfield 24, 3) := by decide +kernel
theorem dX5_goesOn_31 : decode cX5_goesOn 31 = .ok (.if_icmp .ge 77, 3) := by decide +kernel
theorem dX5_goesOn_34 : decode cX5_goesOn 34 = .ok (.aload_n 0, 1) := by decide +kernel
theorem dX5_goesOn_35 : decode cX5_goesOn 35 = .ok (.getfield 28, 3) := by decide +kernel
theorem dX5_goesOn_38 : decode cX5_goesOn 38 = .ok (.iload_n 3, 1) := by decide +kernel
theorem dX5_goesOn_39 : decode cX5_goesOn 39 = .ok (.iushr, 1) := by decide +kernel
theorem dX5_goesOn_40 : decode cX5_goesOn 40 = .ok (.iconst 1, 1) := by decide +kernel
theorem dX5_goesOn_41 : decode cX5_goesOn 41 = .ok (.iand, 1) := by decide +kernel
theorem dX5_goesOn_42 : decode cX5_goesOn 42 = .ok (.ifCond .ne 60, 3) := by decide +kernel
theorem dX5_goesOn_45 : decode cX5_goesOn 45 = .ok (.aload_n 0, 1) := by decide +kernel
theorem dX5_goesOn_46 : decode cX5_goesOn 46 = .ok (.iload_n 1, 1) := by decide +kernel
theorem dX5_goesOn_47 : decode cX5_goesOn 47 = .ok (.iload_n 3, 1) := by decide +kernel
theorem dX5_goesOn_48 : decode cX5_goesOn 48 = .ok (.invokevirtual 71, 3) := by decide +kernel
theorem dX5_goesOn_51 : decode cX5_goesOn 51 = .ok (.ifCond .eq 51, 3) := by decide +kernel
theorem dX5_goesOn_54 : decode cX5_goesOn 54 = .ok (.aload_n 0, 1) := by decide +kernel
theorem dX5_goesOn_55 : decode cX5_goesOn 55 = .ok (.dup, 1) := by decide +kernel
theorem dX5_goesOn_56 : decode cX5_goesOn 56 = .ok (.getfield 28, 3) := by decide +kernel
theorem dX5_goesOn_59 : decode cX5_goesOn 59 = .ok (.iconst 1, 1) := by decide +kernel
theorem dX5_goesOn_60 : decode cX5_goesOn 60 = .ok (.iload_n 3, 1) := by decide +kernel
theorem dX5_goesOn_61 : decode cX5_goesOn 61 = .ok (.ishl, 1) := by decide +kernel
theorem dX5_goesOn_62 : decode cX5_goesOn 62 = .ok (.ior, 1) := by decide +kernel
theorem dX5_goesOn_63 : decode cX5_goesOn 63 = .ok (.putfield 28, 3) := by decide +kernel
theorem dX5_goesOn_66 : decode cX5_goesOn 66 = .ok (.aload_n 0, 1) := by decide +kernel
theorem dX5_goesOn_67 : decode cX5_goesOn 67 = .ok (.getfield 21, 3) := by decide +kernel
theorem dX5_goesOn_70 : decode cX5_goesOn 70 = .ok (.iload_n 3, 1) := by decide +kernel
theorem dX5_goesOn_71 : decode cX5_goesOn 71 = .ok (.iaload, 1) := by decide +kernel
theorem dX5_goesOn_72 : decode cX5_goesOn 72 = .ok (.bipush (-9), 2) := by decide +kernel
theorem dX5_goesOn_74 : decode cX5_goesOn 74 = .ok (.if_icmp .eq 19, 3) := by decide +kernel
theorem dX5_goesOn_77 : decode cX5_goesOn 77 = .ok (.aload_n 0, 1) := by decide +kernel
theorem dX5_goesOn_78 : decode cX5_goesOn 78 = .ok (.aload_n 0, 1) := by decide +kernel
theorem dX5_goesOn_79 : decode cX5_goesOn 79 = .ok (.getfield 21, 3) := by decide +kernel
theorem dX5_goesOn_82 : decode cX5_goesOn 82 = .ok (.iload_n 3, 1) := by decide +kernel
theorem dX5_goesOn_83 : decode cX5_goesOn 83 = .ok (.iaload, 1) := by decide +kernel
theorem dX5_goesOn_84 : decode cX5_goesOn 84 = .ok (.iload_n 2, 1) := by decide +kernel
theorem dX5_goesOn_85 : decode cX5_goesOn 85 = .ok (.iconst 1, 1) := by decide +kernel
theorem dX5_goesOn_86 : decode cX5_goesOn 86 = .ok (.iadd, 1) := by decide +kernel
theorem dX5_goesOn_87 : decode cX5_goesOn 87 = .ok (.invokevirtual 49, 3) := by decide +kernel
theorem dX5_goesOn_90 : decode cX5_goesOn 90 = .ok (.ifCond .eq 12, 3) := by decide +kernel
theorem dX5_goesOn_93 : decode cX5_goesOn 93 = .ok (.aload_n 0, 1) := by decide +kernel
theorem dX5_goesOn_94 : decode cX5_goesOn 94 = .ok (.getfield 21, 3) := by decide +kernel
theorem dX5_goesOn_97 : decode cX5_goesOn 97 = .ok (.iload_n 3, 1) := by decide +kernel
theorem dX5_goesOn_98 : decode cX5_goesOn 98 = .ok (.iload_n 1, 1) := by decide +kernel
theorem dX5_goesOn_99 : decode cX5_goesOn 99 = .ok (.iastore, 1) := by decide +kernel
theorem dX5_goesOn_100 : decode cX5_goesOn 100 = .ok (.iconst 1, 1) := by decide +kernel
theorem dX5_goesOn_101 : decode cX5_goesOn 101 = .ok (.ireturn, 1) := by decide +kernel
theorem dX5_goesOn_102 : decode cX5_goesOn 102 = .ok (.iinc 3 1, 3) := by decide +kernel
theorem dX5_goesOn_105 : decode cX5_goesOn 105 = .ok (.goto (-85), 3) := by decide +kernel
theorem dX5_goesOn_108 : decode cX5_goesOn 108 = .ok (.iconst 0, 1) := by decide +kernel
theorem dX5_goesOn_109 : decode cX5_goesOn 109 = .ok (.ireturn, 1) := by decide +kernel
theorem dX5_isInTime_0 : decode cX5_isInTime 0 = .ok (.aload_n 0, 1) := by decide +kernel
theorem dX5_isInTime_1 : decode cX5_isInTime 1 = .ok (.getfield 15, 3) := by decide +kernel
theorem dX5_isInTime_4 : decode cX5_isInTime 4 = .ok (.iload_n 1, 1) := by decide +kernel
theorem dX5_isInTime_5 : decode cX5_isInTime 5 = .ok (.invokestatic 58, 3) := by decide +kernel
theorem dX5_isInTime_8 : decode cX5_isInTime 8 = .ok (.aload_n 0, 1) := by decide +kernel
theorem dX5_isInTime_9 : decode cX5_isInTime 9 = .ok (.getfield 18, 3) := by decide +kernel
theorem dX5_isInTime_12 : decode cX5_isInTime 12 = .ok (.iload_n 1, 1) := by decide +kernel
theorem dX5_isInTime_13 : decode cX5_isInTime 13 = .ok (.invokestatic 58, 3) := by decide +kernel
theorem dX5_isInTime_16 : decode cX5_isInTime 16 = .ok (.aload_n 0, 1) := by decide +kernel
theorem dX5_isInTime_17 : decode cX5_isInTime 17 = .ok (.getfield 18, 3) := by decide +kernel
theorem dX5_isInTime_20 : decode cX5_isInTime 20 = .ok (.iload_n 2, 1) := by decide +kernel
theorem dX5_isInTime_21 : decode cX5_isInTime 21 = .ok (.invokestatic 58, 3) := by decide +kernel
theorem dX5_isInTime_24 : decode cX5_isInTime 24 = .ok (.isub, 1) := by decide +kernel
theorem dX5_isInTime_25 : decode cX5_isInTime 25 = .ok (.invokestatic 74, 3) := by decide +kernel
theorem dX5_isInTime_28 : decode cX5_isInTime 28 = .ok (.iadd, 1) := by decide +kernel
theorem dX5_isInTime_29 : decode cX5_isInTime 29 = .ok (.aload_n 0, 1) := by decide +kernel
theorem dX5_isInTime_30 : decode cX5_isInTime 30 = .ok (.getfield 9, 3) := by decide +kernel
theorem dX5_isInTime_33 : decode cX5_isInTime 33 = .ok (.iload_n 2, 1) := by decide +kernel
theorem dX5_isInTime_34 : decode cX5_isInTime 34 = .ok (.invokestatic 58, 3) := by decide +kernel
theorem dX5_isInTime_37 : decode cX5_isInTime 37 = .ok (.if_icmp .gt 7, 3) := by decide +kernel
theorem dX5_isInTime_40 : decode cX5_isInTime 40 = .ok (.iconst 1, 1) := by decide +kernel
theorem dX5_isInTime_41 : decode cX5_isInTime 41 = .ok (.goto 4, 3) := by decide +kernel
theorem dX5_isInTime_44 : decode cX5_isInTime 44 = .ok (.iconst 0, 1) := by decide +kernel
theorem dX5_isInTime_45 : decode cX5_isInTime 45 = .ok (.ireturn, 1) := by decide +kernel
end
section
theorem dX6_init_0 : decode cX6_init 0 = .ok (.aload_n 0, 1) := by decide +kernel
theorem dX6_init_1 : decode cX6_init 1 = .ok (.invokespecial 1, 3) := by decide +kernel
theorem dX6_init_4 : decode cX6_init 4 = .ok (.aload_n 0, 1) := by decide +kernel
theorem dX6_init_5 : decode cX6_init 5 = .ok (.iconst 0, 1) := by decide +kernel
theorem dX6_init_6 : decode cX6_init 6 = .ok (.putfield 7, 3) := by decide +kernel
theorem dX6_init_9 : decode cX6_init 9 = .ok (.aload_n 0, 1) := by decide +kernel
theorem dX6_init_10 : decode cX6_init 10 = .ok (.new 13, 3) := by decide +kernel
theorem dX6_init_13 : decode cX6_init 13 = .ok (.dup, 1) := by decide +kernel
theorem dX6_init_14 : decode cX6_init 14 = .ok (.aload_n 1, 1) := by decide +kernel
theorem dX6_init_15 : decode cX6_init 15 = .ok (.invokespecial 15, 3) := by decide +kernel
theorem dX6_init_18 : decode cX6_init 18 = .ok (.putfield 18, 3) := by decide +kernel
theorem dX6_init_21 : decode cX6_init 21 = .ok (.return_, 1) := by decide +kernel
theorem dX6_fill_0 : decode cX6_fill 0 = .ok (.aload_n 0, 1) := by decide +kernel
theorem dX6_fill_1 : decode cX6_fill 1 = .ok (.getfield 18, 3) := by decide +kernel
theorem dX6_fill_4 : decode cX6_fill 4 = .ok (.aload_n 1, 1) := by decide +kernel
theorem dX6_fill_5 : decode cX6_fill 5 = .ok (.invokevirtual 22, 3) := by decide +kernel
theorem dX6_fill_8 : decode cX6_fill 8 = .ok (.aload_n 0, 1) := by decide +kernel
theorem dX6_fill_9 : decode cX6_fill 9 = .ok (.iconst 1, 1) := by decide +kernel
theorem dX6_fill_10 : decode cX6_fill 10 = .ok (.putfield 7, 3) := by decide +kernel
theorem dX6_fill_13 : decode cX6_fill 13 = .ok (.return_, 1) := by decide +kernel
theorem dX6_forget_0 : decode cX6_forget 0 = .ok (.aload_n 0, 1) := by decide +kernel
theorem dX6_forget_1 : decode cX6_forget 1 = .ok (.iconst 0, 1) := by decide +kernel
theorem dX6_forget_2 : decode cX6_forget 2 = .ok (.putfield 7, 3) := by decide +kernel
theorem dX6_forget_5 : decode cX6_forget 5 = .ok (.return_, 1) := by decide +kernel
end
section
theorem dX7_init_0 : decode cX7_init 0 = .ok (.aload_n 0, 1) := by decide +kernel
theorem dX7_init_1 : decode cX7_init 1 = .ok (.invokespecial 3, 3) := by decide +kernel
theorem dX7_init_4 : decode cX7_init 4 = .ok (.aload_n 0, 1) := by decide +kernel
theorem dX7_init_5 : decode cX7_init 5 = .ok (.bipush 48, 2) := by decide +kernel
theorem dX7_init_7 : decode cX7_init 7 = .ok (.newarray .int, 2) := by decide +kernel
theorem dX7_init_9 : decode cX7_init 9 = .ok (.putfield 9, 3) := by decide +kernel
theorem dX7_init_12 : decode cX7_init 12 = .ok (.aload_n 0, 1) := by decide +kernel
theorem dX7_init_13 : decode cX7_init 13 = .ok (.iconst 0, 1) := by decide +kernel
theorem dX7_init_14 : decode cX7_init 14 = .ok (.putfield 15, 3) := by decide +kernel
theorem dX7_init_17 : decode cX7_init 17 = .ok (.return_, 1) := by decide +kernel
theorem dX7_append_0 : decode cX7_append 0 = .ok (.aload_n 0, 1) := by decide +kernel
theorem dX7_append_1 : decode cX7_append 1 = .ok (.getfield 15, 3) := by decide +kernel
theorem dX7_append_4 : decode cX7_append 4 = .ok (.ifCond .lt 12, 3) := by decide +kernel
theorem dX7_append_7 : decode cX7_append 7 = .ok (.aload_n 0, 1) := by decide +kernel
theorem dX7_append_8 : decode cX7_append 8 = .ok (.getfield 15, 3) := by decide +kernel
theorem dX7_append_11 : decode cX7_append 11 = .ok (.bipush 48, 2) := by decide +kernel
theorem dX7_append_13 : decode cX7_append 13 = .ok (.if_icmp .lt 6, 3) := by decide +kernel
theorem dX7_append_16 : decode cX7_append 16 = .ok (.bipush (-4), 2) := by decide +kernel
theorem dX7_append_18 : decode cX7_append 18 = .ok (.ireturn, 1) := by decide +kernel
theorem dX7_append_19 : decode cX7_append 19 = .ok (.aload_n 0, 1) := by decide +kernel
theorem dX7_append_20 : decode cX7_append 20 = .ok (.getfield 9, 3) := by decide +kernel
theorem dX7_append_23 : decode cX7_append 23 = .ok (.aload_n 0, 1) := by decide +kernel
theorem dX7_append_24 : decode cX7_append 24 = .ok (.getfield 15, 3) := by decide +kernel
theorem dX7_append_27 : decode cX7_append 27 = .ok (.iload_n 1, 1) := by decide +kernel
theorem dX7_append_28 : decode cX7_append 28 = .ok (.iastore, 1) := by decide +kernel
theorem dX7_append_29 : decode cX7_append 29 = .ok (.aload_n 0, 1) := by decide +kernel
theorem dX7_append_30 : decode cX7_append 30 = .ok (.dup, 1) := by decide +kernel
theorem dX7_append_31 : decode cX7_append 31 = .ok (.getfield 15, 3) := by decide +kernel
theorem dX7_append_34 : decode cX7_append 34 = .ok (.iconst 1, 1) := by decide +kernel
theorem dX7_append_35 : decode cX7_append 35 = .ok (.iadd, 1) := by decide +kernel
theorem dX7_append_36 : decode cX7_append 36 = .ok (.putfield 15, 3) := by decide +kernel
theorem dX7_append_39 : decode cX7_append 39 = .ok (.aload_n 0, 1) := by decide +kernel
theorem dX7_append_40 : decode cX7_append 40 = .ok (.getfield 15, 3) := by decide +kernel
theorem dX7_append_43 : decode cX7_append 43 = .ok (.ireturn, 1) := by decide +kernel
theorem dX7_clear_0 : decode cX7_clear 0 = .ok (.aload_n 0, 1) := by decide +kernel
theorem dX7_clear_1 : decode cX7_clear 1 = .ok (.getfield 15, 3) := by decide +kernel
theorem dX7_clear_4 : decode cX7_clear 4 = .ok (.istore_n 1, 1) := by decide +kernel
theorem dX7_clear_5 : decode cX7_clear 5 = .ok (.aload_n 0, 1) := by decide +kernel
theorem dX7_clear_6 : decode cX7_clear 6 = .ok (.iconst 0, 1) := by decide +kernel
theorem dX7_clear_7 : decode cX7_clear 7 = .ok (.putfield 15, 3) := by decide +kernel
theorem dX7_clear_10 : decode cX7_clear 10 = .ok (.iload_n 1, 1) := by decide +kernel
theorem dX7_clear_11 : decode cX7_clear 11 = .ok (.ireturn, 1) := by decide +kernel
theorem dX7_letterAt_0 : decode cX7_letterAt 0 = .ok (.iload_n 1, 1) := by decide +kernel
theorem dX7_letterAt_1 : decode cX7_letterAt 1 = .ok (.aload_n 0, 1) := by decide +kernel
theorem dX7_letterAt_2 : decode cX7_letterAt 2 = .ok (.getfield 15, 3) := by decide +kernel
theorem dX7_letterAt_5 : decode cX7_letterAt 5 = .ok (.if_icmp .ge 14, 3) := by decide +kernel
theorem dX7_letterAt_8 : decode cX7_letterAt 8 = .ok (.aload_n 0, 1) := by decide +kernel
theorem dX7_letterAt_9 : decode cX7_letterAt 9 = .ok (.getfield 9, 3) := by decide +kernel
theorem dX7_letterAt_12 : decode cX7_letterAt 12 = .ok (.iload_n 1, 1) := by decide +kernel
theorem dX7_letterAt_13 : decode cX7_letterAt 13 = .ok (.invokestatic 19, 3) := by decide +kernel
theorem dX7_letterAt_16 : decode cX7_letterAt 16 = .ok (.goto 5, 3) := by decide +kernel
theorem dX7_letterAt_19 : decode cX7_letterAt 19 = .ok (.bipush (-9), 2) := by decide +kernel
theorem dX7_letterAt_21 : decode cX7_letterAt 21 = .ok (.ireturn, 1) := by decide +kernel
theorem dX7_figureAt_0 : decode cX7_figureAt 0 = .ok (.aload_n 0, 1) := by decide +kernel
theorem dX7_figureAt_1 : decode cX7_figureAt 1 = .ok (.iload_n 1, 1) := by decide +kernel
theorem dX7_figureAt_2 : decode cX7_figureAt 2 = .ok (.invokevirtual 23, 3) := by decide +kernel
theorem dX7_figureAt_5 : decode cX7_figureAt 5 = .ok (.bipush 48, 2) := by decide +kernel
theorem dX7_figureAt_7 : decode cX7_figureAt 7 = .ok (.isub, 1) := by decide +kernel
theorem dX7_figureAt_8 : decode cX7_figureAt 8 = .ok (.ireturn, 1) := by decide +kernel
theorem dX7_firstFault_0 : decode cX7_firstFault 0 = .ok (.aload_n 0, 1) := by decide +kernel
theorem dX7_firstFault_1 : decode cX7_firstFault 1 = .ok (.iconst 0, 1) := by decide +kernel
theorem dX7_firstFault_2 : decode cX7_firstFault 2 = .ok (.invokevirtual 23, 3) := by decide +kernel
theorem dX7_firstFault_5 : decode cX7_firstFault 5 = .ok (.bipush 84, 2) := by decide +kernel
theorem dX7_firstFault_7 : decode cX7_firstFault 7 = .ok (.if_icmp .eq 5, 3) := by decide +kernel
theorem dX7_firstFault_10 : decode cX7_firstFault 10 = .ok (.iconst 0, 1) := by decide +kernel
theorem dX7_firstFault_11 : decode cX7_firstFault 11 = .ok (.ireturn, 1) := by decide +kernel
theorem dX7_firstFault_12 : decode cX7_firstFault 12 = .ok (.iconst 0, 1) := by decide +kernel
theorem dX7_firstFault_13 : decode cX7_firstFault 13 = .ok (.istore_n 1, 1) := by decide +kernel
theorem dX7_firstFault_14 : decode cX7_firstFault 14 = .ok (.iconst 0, 1) := by decide +kernel
theorem dX7_firstFault_15 : decode cX7_firstFault 15 = .ok (.istore_n 2, 1) := by decide +kernel
theorem dX7_firstFault_16 : decode cX7_firstFault 16 = .ok (.iconst 1, 1) := by decide +kernel
theorem dX7_firstFault_17 : decode cX7_firstFault 17 = .ok (.istore_n 3, 1) := by decide +kernel
theorem dX7_firstFault_18 : decode cX7_firstFault 18 = .ok (.iconst 0, 1) := by decide +kernel
theorem dX7_firstFault_19 : decode cX7_firstFault 19 = .ok (.istore 4, 2) := by decide +kernel
theorem dX7_firstFault_21 : decode cX7_firstFault 21 = .ok (.iload 4, 2) := by decide +kernel
theorem dX7_firstFault_23 : decode cX7_firstFault 23 = .ok (.bipush 48, 2) := by decide +kernel
theorem dX7_firstFault_25 : decode cX7_firstFault 25 = .ok (.if_icmp .ge 98, 3) := by decide +kernel
theorem dX7_firstFault_28 : decode cX7_firstFault 28 = .ok (.iload_n 3, 1) := by decide +kernel
theorem dX7_firstFault_29 : decode cX7_firstFault 29 = .ok (.aload_n 0, 1) := by decide +kernel
theorem dX7_firstFault_30 : decode cX7_firstFault 30 = .ok (.getfield 15, 3) := by decide +kernel
theorem dX7_firstFault_33 : decode cX7_firstFault 33 = .ok (.if_icmp .ge 90, 3) := by decide +kernel
theorem dX7_firstFault_36 : decode cX7_firstFault 36 = .ok (.aload_n 0, 1) := by decide +kernel
theorem dX7_firstFault_37 : decode cX7_firstFault 37 = .ok (.iload_n 3, 1) := by decide +kernel
theorem dX7_firstFault_38 : decode cX7_firstFault 38 = .ok (.invokevirtual 23, 3) := by decide +kernel
theorem dX7_firstFault_41 : decode cX7_firstFault 41 = .ok (.istore 5, 2) := by decide +kernel
theorem dX7_firstFault_43 : decode cX7_firstFault 43 = .ok (.iload 5, 2) := by decide +kernel
theorem dX7_firstFault_45 : decode cX7_firstFault 45 = .ok (.iload_n 1, 1) := by decide +kernel
theorem dX7_firstFault_46 : decode cX7_firstFault 46 = .ok (.iload_n 2, 1) := by decide +kernel
theorem dX7_firstFault_47 : decode cX7_firstFault 47 = .ok (.invokestatic 27, 3) := by decide +kernel
theorem dX7_firstFault_50 : decode cX7_firstFault 50 = .ok (.ifCond .ne 5, 3) := by decide +kernel
theorem dX7_firstFault_53 : decode cX7_firstFault 53 = .ok (.iload_n 3, 1) := by decide +kernel
theorem dX7_firstFault_54 : decode cX7_firstFault 54 = .ok (.ireturn, 1) := by decide +kernel
theorem dX7_firstFault_55 : decode cX7_firstFault 55 = .ok (.iload_n 3, 1) := by decide +kernel
theorem dX7_firstFault_56 : decode cX7_firstFault 56 = .ok (.iload 5, 2) := by decide +kernel
theorem dX7_firstFault_58 : decode cX7_firstFault 58 = .ok (.invokestatic 31, 3) := by decide +kernel
theorem dX7_firstFault_61 : decode cX7_firstFault 61 = .ok (.iadd, 1) := by decide +kernel
theorem dX7_firstFault_62 : decode cX7_firstFault 62 = .ok (.istore 6, 2) := by decide +kernel
theorem dX7_firstFault_64 : decode cX7_firstFault 64 = .ok (.aload_n 0, 1) := by decide +kernel
theorem dX7_firstFault_65 : decode cX7_firstFault 65 = .ok (.iload 5, 2) := by decide +kernel
theorem dX7_firstFault_67 : decode cX7_firstFault 67 = .ok (.iload_n 3, 1) := by decide +kernel
theorem dX7_firstFault_68 : decode cX7_firstFault 68 = .ok (.iload_n 1, 1) := by decide +kernel
theorem dX7_firstFault_69 : decode cX7_firstFault 69 = .ok (.invokevirtual 34, 3) := by decide +kernel
theorem dX7_firstFault_72 : decode cX7_firstFault 72 = .ok (.istore 7, 2) := by decide +kernel
theorem dX7_firstFault_74 : decode cX7_firstFault 74 = .ok (.iload 7, 2) := by decide +kernel
theorem dX7_firstFault_76 : decode cX7_firstFault 76 = .ok (.iload 6, 2) := by decide +kernel
theorem dX7_firstFault_78 : decode cX7_firstFault 78 = .ok (.if_icmp .ge 6, 3) := by decide +kernel
theorem dX7_firstFault_81 : decode cX7_firstFault 81 = .ok (.iload 7, 2) := by decide +kernel
theorem dX7_firstFault_83 : decode cX7_firstFault 83 = .ok (.ireturn, 1) := by decide +kernel
theorem dX7_firstFault_84 : decode cX7_firstFault 84 = .ok (.iload_n 1, 1) := by decide +kernel
theorem dX7_firstFault_85 : decode cX7_firstFault 85 = .ok (.iload 5, 2) := by decide +kernel
theorem dX7_firstFault_87 : decode cX7_firstFault 87 = .ok (.bipush 66, 2) := by decide +kernel
theorem dX7_firstFault_89 : decode cX7_firstFault 89 = .ok (.if_icmp .ne 7, 3) := by decide +kernel
theorem dX7_firstFault_92 : decode cX7_firstFault 92 = .ok (.iconst 1, 1) := by decide +kernel
theorem dX7_firstFault_93 : decode cX7_firstFault 93 = .ok (.goto 4, 3) := by decide +kernel
theorem dX7_firstFault_96 : decode cX7_firstFault 96 = .ok (.iconst 0, 1) := by decide +kernel
theorem dX7_firstFault_97 : decode cX7_firstFault 97 = .ok (.iadd, 1) := by decide +kernel
theorem dX7_firstFault_98 : decode cX7_firstFault 98 = .ok (.istore_n 1, 1) := by decide +kernel
theorem dX7_firstFault_99 : decode cX7_firstFault 99 = .ok (.iload_n 2, 1) := by decide +kernel
theorem dX7_firstFault_100 : decode cX7_firstFault 100 = .ok (.iload 5, 2) := by decide +kernel
theorem dX7_firstFault_102 : decode cX7_firstFault 102 = .ok (.bipush 66, 2) := by decide +kernel
theorem dX7_firstFault_104 : decode cX7_firstFault 104 = .ok (.if_icmp .ne 7, 3) := by decide +kernel
theorem dX7_firstFault_107 : decode cX7_firstFault 107 = .ok (.iconst 0, 1) := by decide +kernel
theorem dX7_firstFault_108 : decode cX7_firstFault 108 = .ok (.goto 4, 3) := by decide +kernel
theorem dX7_firstFault_111 : decode cX7_firstFault 111 = .ok (.iconst 1, 1) := by decide +kernel
theorem dX7_firstFault_112 : decode cX7_firstFault 112 = .ok (.iadd, 1) := by decide +kernel
theorem dX7_firstFault_113 : decode cX7_firstFault 113 = .ok (.istore_n 2, 1) := by decide +kernel
theorem dX7_firstFault_114 : decode cX7_firstFault 114 = .ok (.iload 6, 2) := by decide +kernel
theorem dX7_firstFault_116 : decode cX7_firstFault 116 = .ok (.istore_n 3, 1) := by decide +kernel
theorem dX7_firstFault_117 : decode cX7_firstFault 117 = .ok (.iinc 4 1, 3) := by decide +kernel
theorem dX7_firstFault_120 : decode cX7_firstFault 120 = .ok (.goto (-99), 3) := by decide +kernel
theorem dX7_firstFault_123 : decode cX7_firstFault 123 = .ok (.bipush (-9), 2) := by decide +kernel
theorem dX7_firstFault_125 : decode cX7_firstFault 125 = .ok (.ireturn, 1) := by decide +kernel
theorem dX7_faultInPart_0 : decode cX7_faultInPart 0 = .ok (.iload_n 1, 1) := by decide +kernel
theorem dX7_faultInPart_1 : decode cX7_faultInPart 1 = .ok (.invokestatic 31, 3) := by decide +kernel
theorem dX7_faultInPart_4 : decode cX7_faultInPart 4 = .ok (.istore 4, 2) := by decide +kernel
theorem dX7_faultInPart_6 : decode cX7_faultInPart 6 = .ok (.iconst 1, 1) := by decide +kernel
theorem dX7_faultInPart_7 : decode cX7_faultInPart 7 = .ok (.istore 5, 2) := by decide +kernel
theorem dX7_faultInPart_9 : decode cX7_faultInPart 9 = .ok (.iload 5, 2) := by decide +kernel
theorem dX7_faultInPart_11 : decode cX7_faultInPart 11 = .ok (.iload 4, 2) := by decide +kernel
theorem dX7_faultInPart_13 : decode cX7_faultInPart 13 = .ok (.if_icmp .ge 73, 3) := by decide +kernel
theorem dX7_faultInPart_16 : decode cX7_faultInPart 16 = .ok (.iload_n 2, 1) := by decide +kernel
theorem dX7_faultInPart_17 : decode cX7_faultInPart 17 = .ok (.iload 5, 2) := by decide +kernel
theorem dX7_faultInPart_19 : decode cX7_faultInPart 19 = .ok (.iadd, 1) := by decide +kernel
theorem dX7_faultInPart_20 : decode cX7_faultInPart 20 = .ok (.aload_n 0, 1) := by decide +kernel
theorem dX7_faultInPart_21 : decode cX7_faultInPart 21 = .ok (.getfield 15, 3) := by decide +kernel
theorem dX7_faultInPart_24 : decode cX7_faultInPart 24 = .ok (.if_icmp .lt 8, 3) := by decide +kernel
theorem dX7_faultInPart_27 : decode cX7_faultInPart 27 = .ok (.aload_n 0, 1) := by decide +kernel
theorem dX7_faultInPart_28 : decode cX7_faultInPart 28 = .ok (.getfield 15, 3) := by decide +kernel
theorem dX7_faultInPart_31 : decode cX7_faultInPart 31 = .ok (.ireturn, 1) := by decide +kernel
theorem dX7_faultInPart_32 : decode cX7_faultInPart 32 = .ok (.aload_n 0, 1) := by decide +kernel
theorem dX7_faultInPart_33 : decode cX7_faultInPart 33 = .ok (.iload_n 2, 1) := by decide +kernel
theorem dX7_faultInPart_34 : decode cX7_faultInPart 34 = .ok (.iload 5, 2) := by decide +kernel
theorem dX7_faultInPart_36 : decode cX7_faultInPart 36 = .ok (.iadd, 1) := by decide +kernel
theorem dX7_faultInPart_37 : decode cX7_faultInPart 37 = .ok (.invokevirtual 38, 3) := by decide +kernel
theorem dX7_faultInPart_40 : decode cX7_faultInPart 40 = .ok (.istore 6, 2) := by decide +kernel
theorem dX7_faultInPart_42 : decode cX7_faultInPart 42 = .ok (.iload 6, 2) := by decide +kernel
theorem dX7_faultInPart_44 : decode cX7_faultInPart 44 = .ok (.iload_n 1, 1) := by decide +kernel
theorem dX7_faultInPart_45 : decode cX7_faultInPart 45 = .ok (.iload 5, 2) := by decide +kernel
theorem dX7_faultInPart_47 : decode cX7_faultInPart 47 = .ok (.aload_n 0, 1) := by decide +kernel
theorem dX7_faultInPart_48 : decode cX7_faultInPart 48 = .ok (.iload_n 2, 1) := by decide +kernel
theorem dX7_faultInPart_49 : decode cX7_faultInPart 49 = .ok (.iload 5, 2) := by decide +kernel
theorem dX7_faultInPart_51 : decode cX7_faultInPart 51 = .ok (.iadd, 1) := by decide +kernel
theorem dX7_faultInPart_52 : decode cX7_faultInPart 52 = .ok (.iconst 1, 1) := by decide +kernel
theorem dX7_faultInPart_53 : decode cX7_faultInPart 53 = .ok (.isub, 1) := by decide +kernel
theorem dX7_faultInPart_54 : decode cX7_faultInPart 54 = .ok (.invokevirtual 38, 3) := by decide +kernel
theorem dX7_faultInPart_57 : decode cX7_faultInPart 57 = .ok (.invokestatic 41, 3) := by decide +kernel
theorem dX7_faultInPart_60 : decode cX7_faultInPart 60 = .ok (.if_icmp .lt 15, 3) := by decide +kernel
theorem dX7_faultInPart_63 : decode cX7_faultInPart 63 = .ok (.iload 6, 2) := by decide +kernel
theorem dX7_faultInPart_65 : decode cX7_faultInPart 65 = .ok (.iload_n 1, 1) := by decide +kernel
theorem dX7_faultInPart_66 : decode cX7_faultInPart 66 = .ok (.iload 5, 2) := by decide +kernel
theorem dX7_faultInPart_68 : decode cX7_faultInPart 68 = .ok (.iload_n 3, 1) := by decide +kernel
theorem dX7_faultInPart_69 : decode cX7_faultInPart 69 = .ok (.invokestatic 44, 3) := by decide +kernel
theorem dX7_faultInPart_72 : decode cX7_faultInPart 72 = .ok (.if_icmp .le 8, 3) := by decide +kernel
theorem dX7_faultInPart_75 : decode cX7_faultInPart 75 = .ok (.iload_n 2, 1) := by decide +kernel
theorem dX7_faultInPart_76 : decode cX7_faultInPart 76 = .ok (.iload 5, 2) := by decide +kernel
theorem dX7_faultInPart_78 : decode cX7_faultInPart 78 = .ok (.iadd, 1) := by decide +kernel
theorem dX7_faultInPart_79 : decode cX7_faultInPart 79 = .ok (.ireturn, 1) := by decide +kernel
theorem dX7_faultInPart_80 : decode cX7_faultInPart 80 = .ok (.iinc 5 1, 3) := by decide +kernel
theorem dX7_faultInPart_83 : decode cX7_faultInPart 83 = .ok (.goto (-74), 3) := by decide +kernel
theorem dX7_faultInPart_86 : decode cX7_faultInPart 86 = .ok (.iload_n 2, 1) := by decide +kernel
theorem dX7_faultInPart_87 : decode cX7_faultInPart 87 = .ok (.iload 4, 2) := by decide +kernel
theorem dX7_faultInPart_89 : decode cX7_faultInPart 89 = .ok (.iadd, 1) := by decide +kernel
theorem dX7_faultInPart_90 : decode cX7_faultInPart 90 = .ok (.ireturn, 1) := by decide +kernel
theorem dX7_mayBeTold_0 : decode cX7_mayBeTold 0 = .ok (.iload_n 0, 1) := by decide +kernel
theorem dX7_mayBeTold_1 : decode cX7_mayBeTold 1 = .ok (.lookupswitch 72 #[(66, 35), (80, 46), (81, 61)], 35) := by decide +kernel
theorem dX7_mayBeTold_36 : decode cX7_mayBeTold 36 = .ok (.iload_n 1, 1) := by decide +kernel
theorem dX7_mayBeTold_37 : decode cX7_mayBeTold 37 = .ok (.iconst 3, 1) := by decide +kernel
theorem dX7_mayBeTold_38 : decode cX7_mayBeTold 38 = .ok (.if_icmp .ge 7, 3) := by decide +kernel
theorem dX7_mayBeTold_41 : decode cX7_mayBeTold 41 = .ok (.iconst 1, 1) := by decide +kernel
theorem dX7_mayBeTold_42 : decode cX7_mayBeTold 42 = .ok (.goto 4, 3) := by decide +kernel
theorem dX7_mayBeTold_45 : decode cX7_mayBeTold 45 = .ok (.iconst 0, 1) := by decide +kernel
theorem dX7_mayBeTold_46 : decode cX7_mayBeTold 46 = .ok (.ireturn, 1) := by decide +kernel
theorem dX7_mayBeTold_47 : decode cX7_mayBeTold 47 = .ok (.iload_n 1, 1) := by decide +kernel
theorem dX7_mayBeTold_48 : decode cX7_mayBeTold 48 = .ok (.ifCond .le 12, 3) := by decide +kernel
theorem dX7_mayBeTold_51 : decode cX7_mayBeTold 51 = .ok (.iload_n 2, 1) := by decide +kernel
theorem dX7_mayBeTold_52 : decode cX7_mayBeTold 52 = .ok (.iconst 5, 1) := by decide +kernel
theorem dX7_mayBeTold_53 : decode cX7_mayBeTold 53 = .ok (.if_icmp .ge 7, 3) := by decide +kernel
theorem dX7_mayBeTold_56 : decode cX7_mayBeTold 56 = .ok (.iconst 1, 1) := by decide +kernel
theorem dX7_mayBeTold_57 : decode cX7_mayBeTold 57 = .ok (.goto 4, 3) := by decide +kernel
theorem dX7_mayBeTold_60 : decode cX7_mayBeTold 60 = .ok (.iconst 0, 1) := by decide +kernel
theorem dX7_mayBeTold_61 : decode cX7_mayBeTold 61 = .ok (.ireturn, 1) := by decide +kernel
theorem dX7_mayBeTold_62 : decode cX7_mayBeTold 62 = .ok (.iload_n 2, 1) := by decide +kernel
theorem dX7_mayBeTold_63 : decode cX7_mayBeTold 63 = .ok (.iconst 5, 1) := by decide +kernel
theorem dX7_mayBeTold_64 : decode cX7_mayBeTold 64 = .ok (.if_icmp .ge 7, 3) := by decide +kernel
theorem dX7_mayBeTold_67 : decode cX7_mayBeTold 67 = .ok (.iconst 1, 1) := by decide +kernel
theorem dX7_mayBeTold_68 : decode cX7_mayBeTold 68 = .ok (.goto 4, 3) := by decide +kernel
theorem dX7_mayBeTold_71 : decode cX7_mayBeTold 71 = .ok (.iconst 0, 1) := by decide +kernel
theorem dX7_mayBeTold_72 : decode cX7_mayBeTold 72 = .ok (.ireturn, 1) := by decide +kernel
theorem dX7_mayBeTold_73 : decode cX7_mayBeTold 73 = .ok (.iconst 0, 1) := by decide +kernel
theorem dX7_mayBeTold_74 : decode cX7_mayBeTold 74 = .ok (.ireturn, 1) := by decide +kernel
theorem dX7_sizeOf_0 : decode cX7_sizeOf 0 = .ok (.iload_n 0, 1) := by decide +kernel
theorem dX7_sizeOf_1 : decode cX7_sizeOf 1 = .ok (.lookupswitch 42 #[(66, 35), (80, 37), (81, 40)], 35) := by decide +kernel
theorem dX7_sizeOf_36 : decode cX7_sizeOf 36 = .ok (.iconst 3, 1) := by decide +kernel
theorem dX7_sizeOf_37 : decode cX7_sizeOf 37 = .ok (.ireturn, 1) := by decide +kernel
theorem dX7_sizeOf_38 : decode cX7_sizeOf 38 = .ok (.bipush 7, 2) := by decide +kernel
theorem dX7_sizeOf_40 : decode cX7_sizeOf 40 = .ok (.ireturn, 1) := by decide +kernel
theorem dX7_sizeOf_41 : decode cX7_sizeOf 41 = .ok (.iconst 4, 1) := by decide +kernel
theorem dX7_sizeOf_42 : decode cX7_sizeOf 42 = .ok (.ireturn, 1) := by decide +kernel
theorem dX7_sizeOf_43 : decode cX7_sizeOf 43 = .ok (.iconst 1, 1) := by decide +kernel
theorem dX7_sizeOf_44 : decode cX7_sizeOf 44 = .ok (.ireturn, 1) := by decide +kernel
theorem dX7_least_0 : decode cX7_least 0 = .ok (.iload_n 0, 1) := by decide +kernel
theorem dX7_least_1 : decode cX7_least 1 = .ok (.lookupswitch 64 #[(66, 27), (80, 38)], 27) := by decide +kernel
theorem dX7_least_28 : decode cX7_least 28 = .ok (.iload_n 1, 1) := by decide +kernel
theorem dX7_least_29 : decode cX7_least 29 = .ok (.iconst 1, 1) := by decide +kernel
theorem dX7_least_30 : decode cX7_least 30 = .ok (.if_icmp .ne 7, 3) := by decide +kernel
theorem dX7_least_33 : decode cX7_least 33 = .ok (.iconst 1, 1) := by decide +kernel
theorem dX7_least_34 : decode cX7_least 34 = .ok (.goto 4, 3) := by decide +kernel
theorem dX7_least_37 : decode cX7_least 37 = .ok (.iconst 0, 1) := by decide +kernel
theorem dX7_least_38 : decode cX7_least 38 = .ok (.ireturn, 1) := by decide +kernel
theorem dX7_least_39 : decode cX7_least 39 = .ok (.iload_n 1, 1) := by decide +kernel
theorem dX7_least_40 : decode cX7_least 40 = .ok (.iconst 5, 1) := by decide +kernel
theorem dX7_least_41 : decode cX7_least 41 = .ok (.if_icmp .ne 7, 3) := by decide +kernel
theorem dX7_least_44 : decode cX7_least 44 = .ok (.iload_n 2, 1) := by decide +kernel
theorem dX7_least_45 : decode cX7_least 45 = .ok (.goto 19, 3) := by decide +kernel
theorem dX7_least_48 : decode cX7_least 48 = .ok (.iload_n 1, 1) := by decide +kernel
theorem dX7_least_49 : decode cX7_least 49 = .ok (.iconst 2, 1) := by decide +kernel
theorem dX7_least_50 : decode cX7_least 50 = .ok (.if_icmp .eq 9, 3) := by decide +kernel
theorem dX7_least_53 : decode cX7_least 53 = .ok (.iload_n 1, 1) := by decide +kernel
theorem dX7_least_54 : decode cX7_least 54 = .ok (.bipush 6, 2) := by decide +kernel
theorem dX7_least_56 : decode cX7_least 56 = .ok (.if_icmp .ne 7, 3) := by decide +kernel
theorem dX7_least_59 : decode cX7_least 59 = .ok (.iconst 1, 1) := by decide +kernel
theorem dX7_least_60 : decode cX7_least 60 = .ok (.goto 4, 3) := by decide +kernel
theorem dX7_least_63 : decode cX7_least 63 = .ok (.iconst 0, 1) := by decide +kernel
theorem dX7_least_64 : decode cX7_least 64 = .ok (.ireturn, 1) := by decide +kernel
theorem dX7_least_65 : decode cX7_least 65 = .ok (.iload_n 1, 1) := by decide +kernel
theorem dX7_least_66 : decode cX7_least 66 = .ok (.iconst 2, 1) := by decide +kernel
theorem dX7_least_67 : decode cX7_least 67 = .ok (.if_icmp .ne 7, 3) := by decide +kernel
theorem dX7_least_70 : decode cX7_least 70 = .ok (.iload_n 2, 1) := by decide +kernel
theorem dX7_least_71 : decode cX7_least 71 = .ok (.goto 13, 3) := by decide +kernel
theorem dX7_least_74 : decode cX7_least 74 = .ok (.iload_n 1, 1) := by decide +kernel
theorem dX7_least_75 : decode cX7_least 75 = .ok (.iconst 3, 1) := by decide +kernel
theorem dX7_least_76 : decode cX7_least 76 = .ok (.if_icmp .ne 7, 3) := by decide +kernel
theorem dX7_least_79 : decode cX7_least 79 = .ok (.iconst 1, 1) := by decide +kernel
theorem dX7_least_80 : decode cX7_least 80 = .ok (.goto 4, 3) := by decide +kernel
theorem dX7_least_83 : decode cX7_least 83 = .ok (.iconst 0, 1) := by decide +kernel
theorem dX7_least_84 : decode cX7_least 84 = .ok (.ireturn, 1) := by decide +kernel
theorem dX7_most_0 : decode cX7_most 0 = .ok (.iload_n 0, 1) := by decide +kernel
theorem dX7_most_1 : decode cX7_most 1 = .ok (.lookupswitch 66 #[(66, 27), (80, 38)], 27) := by decide +kernel
theorem dX7_most_28 : decode cX7_most 28 = .ok (.iload_n 1, 1) := by decide +kernel
theorem dX7_most_29 : decode cX7_most 29 = .ok (.iconst 1, 1) := by decide +kernel
theorem dX7_most_30 : decode cX7_most 30 = .ok (.if_icmp .ne 7, 3) := by decide +kernel
theorem dX7_most_33 : decode cX7_most 33 = .ok (.iconst 3, 1) := by decide +kernel
theorem dX7_most_34 : decode cX7_most 34 = .ok (.goto 4, 3) := by decide +kernel
theorem dX7_most_37 : decode cX7_most 37 = .ok (.iconst 2, 1) := by decide +kernel
theorem dX7_most_38 : decode cX7_most 38 = .ok (.ireturn, 1) := by decide +kernel
theorem dX7_most_39 : decode cX7_most 39 = .ok (.iload_n 1, 1) := by decide +kernel
theorem dX7_most_40 : decode cX7_most 40 = .ok (.iconst 1, 1) := by decide +kernel
theorem dX7_most_41 : decode cX7_most 41 = .ok (.if_icmp .ne 9, 3) := by decide +kernel
theorem dX7_most_44 : decode cX7_most 44 = .ok (.iload_n 2, 1) := by decide +kernel
theorem dX7_most_45 : decode cX7_most 45 = .ok (.iconst 1, 1) := by decide +kernel
theorem dX7_most_46 : decode cX7_most 46 = .ok (.isub, 1) := by decide +kernel
theorem dX7_most_47 : decode cX7_most 47 = .ok (.goto 19, 3) := by decide +kernel
theorem dX7_most_50 : decode cX7_most 50 = .ok (.iload_n 1, 1) := by decide +kernel
theorem dX7_most_51 : decode cX7_most 51 = .ok (.iconst 2, 1) := by decide +kernel
theorem dX7_most_52 : decode cX7_most 52 = .ok (.if_icmp .eq 8, 3) := by decide +kernel
theorem dX7_most_55 : decode cX7_most 55 = .ok (.iload_n 1, 1) := by decide +kernel
theorem dX7_most_56 : decode cX7_most 56 = .ok (.iconst 3, 1) := by decide +kernel
theorem dX7_most_57 : decode cX7_most 57 = .ok (.if_icmp .ne 7, 3) := by decide +kernel
theorem dX7_most_60 : decode cX7_most 60 = .ok (.iconst 3, 1) := by decide +kernel
theorem dX7_most_61 : decode cX7_most 61 = .ok (.goto 5, 3) := by decide +kernel
theorem dX7_most_64 : decode cX7_most 64 = .ok (.bipush 9, 2) := by decide +kernel
theorem dX7_most_66 : decode cX7_most 66 = .ok (.ireturn, 1) := by decide +kernel
theorem dX7_most_67 : decode cX7_most 67 = .ok (.bipush 9, 2) := by decide +kernel
theorem dX7_most_69 : decode cX7_most 69 = .ok (.ireturn, 1) := by decide +kernel
end
section
theorem dX8_init_0 : decode cX8_init 0 = .ok (.aload_n 0, 1) := by decide +kernel
theorem dX8_init_1 : decode cX8_init 1 = .ok (.invokespecial 3, 3) := by decide +kernel
theorem dX8_init_4 : decode cX8_init 4 = .ok (.aload_n 0, 1) := by decide +kernel
theorem dX8_init_5 : decode cX8_init 5 = .ok (.iconst 0, 1) := by decide +kernel
theorem dX8_init_6 : decode cX8_init 6 = .ok (.putfield 9, 3) := by decide +kernel
theorem dX8_init_9 : decode cX8_init 9 = .ok (.aload_n 0, 1) := by decide +kernel
theorem dX8_init_10 : decode cX8_init 10 = .ok (.iconst 0, 1) := by decide +kernel
theorem dX8_init_11 : decode cX8_init 11 = .ok (.putfield 15, 3) := by decide +kernel
theorem dX8_init_14 : decode cX8_init 14 = .ok (.aload_n 0, 1) := by decide +kernel
theorem dX8_init_15 : decode cX8_init 15 = .ok (.iconst 3, 1) := by decide +kernel
theorem dX8_init_16 : decode cX8_init 16 = .ok (.newarray .int, 2) := by decide +kernel
theorem dX8_init_18 : decode cX8_init 18 = .ok (.putfield 18, 3) := by decide +kernel
theorem dX8_init_21 : decode cX8_init 21 = .ok (.aload_n 0, 1) := by decide +kernel
theorem dX8_init_22 : decode cX8_init 22 = .ok (.iconst 3, 1) := by decide +kernel
theorem dX8_init_23 : decode cX8_init 23 = .ok (.newarray .int, 2) := by decide +kernel
theorem dX8_init_25 : decode cX8_init 25 = .ok (.putfield 22, 3) := by decide +kernel
theorem dX8_init_28 : decode cX8_init 28 = .ok (.aload_n 0, 1) := by decide +kernel
theorem dX8_init_29 : decode cX8_init 29 = .ok (.iconst 5, 1) := by decide +kernel
theorem dX8_init_30 : decode cX8_init 30 = .ok (.newarray .int, 2) := by decide +kernel
theorem dX8_init_32 : decode cX8_init 32 = .ok (.putfield 25, 3) := by decide +kernel
theorem dX8_init_35 : decode cX8_init 35 = .ok (.aload_n 0, 1) := by decide +kernel
theorem dX8_init_36 : decode cX8_init 36 = .ok (.iconst 5, 1) := by decide +kernel
theorem dX8_init_37 : decode cX8_init 37 = .ok (.newarray .int, 2) := by decide +kernel
theorem dX8_init_39 : decode cX8_init 39 = .ok (.putfield 28, 3) := by decide +kernel
theorem dX8_init_42 : decode cX8_init 42 = .ok (.aload_n 0, 1) := by decide +kernel
theorem dX8_init_43 : decode cX8_init 43 = .ok (.iconst 5, 1) := by decide +kernel
theorem dX8_init_44 : decode cX8_init 44 = .ok (.newarray .int, 2) := by decide +kernel
theorem dX8_init_46 : decode cX8_init 46 = .ok (.putfield 31, 3) := by decide +kernel
theorem dX8_init_49 : decode cX8_init 49 = .ok (.aload_n 0, 1) := by decide +kernel
theorem dX8_init_50 : decode cX8_init 50 = .ok (.iconst 5, 1) := by decide +kernel
theorem dX8_init_51 : decode cX8_init 51 = .ok (.newarray .int, 2) := by decide +kernel
theorem dX8_init_53 : decode cX8_init 53 = .ok (.putfield 34, 3) := by decide +kernel
theorem dX8_init_56 : decode cX8_init 56 = .ok (.aload_n 0, 1) := by decide +kernel
theorem dX8_init_57 : decode cX8_init 57 = .ok (.iconst 5, 1) := by decide +kernel
theorem dX8_init_58 : decode cX8_init 58 = .ok (.newarray .int, 2) := by decide +kernel
theorem dX8_init_60 : decode cX8_init 60 = .ok (.putfield 37, 3) := by decide +kernel
theorem dX8_init_63 : decode cX8_init 63 = .ok (.aload_n 0, 1) := by decide +kernel
theorem dX8_init_64 : decode cX8_init 64 = .ok (.iconst 5, 1) := by decide +kernel
theorem dX8_init_65 : decode cX8_init 65 = .ok (.newarray .int, 2) := by decide +kernel
theorem dX8_init_67 : decode cX8_init 67 = .ok (.putfield 40, 3) := by decide +kernel
theorem dX8_init_70 : decode cX8_init 70 = .ok (.aload_n 0, 1) := by decide +kernel
theorem dX8_init_71 : decode cX8_init 71 = .ok (.iconst 5, 1) := by decide +kernel
theorem dX8_init_72 : decode cX8_init 72 = .ok (.newarray .int, 2) := by decide +kernel
theorem dX8_init_74 : decode cX8_init 74 = .ok (.putfield 43, 3) := by decide +kernel
theorem dX8_init_77 : decode cX8_init 77 = .ok (.aload_n 0, 1) := by decide +kernel
theorem dX8_init_78 : decode cX8_init 78 = .ok (.iconst 5, 1) := by decide +kernel
theorem dX8_init_79 : decode cX8_init 79 = .ok (.newarray .int, 2) := by decide +kernel
theorem dX8_init_81 : decode cX8_init 81 = .ok (.putfield 46, 3) := by decide +kernel
theorem dX8_init_84 : decode cX8_init 84 = .ok (.aload_n 0, 1) := by decide +kernel
theorem dX8_init_85 : decode cX8_init 85 = .ok (.bipush 50, 2) := by decide +kernel
theorem dX8_init_87 : decode cX8_init 87 = .ok (.newarray .long, 2) := by decide +kernel
theorem dX8_init_89 : decode cX8_init 89 = .ok (.putfield 49, 3) := by decide +kernel
theorem dX8_init_92 : decode cX8_init 92 = .ok (.aload_n 0, 1) := by decide +kernel
theorem dX8_init_93 : decode cX8_init 93 = .ok (.bipush 50, 2) := by decide +kernel
theorem dX8_init_95 : decode cX8_init 95 = .ok (.newarray .int, 2) := by decide +kernel
theorem dX8_init_97 : decode cX8_init 97 = .ok (.putfield 53, 3) := by decide +kernel
theorem dX8_init_100 : decode cX8_init 100 = .ok (.return_, 1) := by decide +kernel
theorem dX8_hasBell_0 : decode cX8_hasBell 0 = .ok (.iload_n 1, 1) := by decide +kernel
theorem dX8_hasBell_1 : decode cX8_hasBell 1 = .ok (.ifCond .lt 15, 3) := by decide +kernel
theorem dX8_hasBell_4 : decode cX8_hasBell 4 = .ok (.iload_n 1, 1) := by decide +kernel
theorem dX8_hasBell_5 : decode cX8_hasBell 5 = .ok (.aload_n 0, 1) := by decide +kernel
theorem dX8_hasBell_6 : decode cX8_hasBell 6 = .ok (.getfield 9, 3) := by decide +kernel
theorem dX8_hasBell_9 : decode cX8_hasBell 9 = .ok (.if_icmp .ge 7, 3) := by decide +kernel
theorem dX8_hasBell_12 : decode cX8_hasBell 12 = .ok (.iconst 1, 1) := by decide +kernel
theorem dX8_hasBell_13 : decode cX8_hasBell 13 = .ok (.goto 4, 3) := by decide +kernel
theorem dX8_hasBell_16 : decode cX8_hasBell 16 = .ok (.iconst 0, 1) := by decide +kernel
theorem dX8_hasBell_17 : decode cX8_hasBell 17 = .ok (.ireturn, 1) := by decide +kernel
theorem dX8_hasBidder_0 : decode cX8_hasBidder 0 = .ok (.iload_n 1, 1) := by decide +kernel
theorem dX8_hasBidder_1 : decode cX8_hasBidder 1 = .ok (.ifCond .lt 15, 3) := by decide +kernel
theorem dX8_hasBidder_4 : decode cX8_hasBidder 4 = .ok (.iload_n 1, 1) := by decide +kernel
theorem dX8_hasBidder_5 : decode cX8_hasBidder 5 = .ok (.aload_n 0, 1) := by decide +kernel
theorem dX8_hasBidder_6 : decode cX8_hasBidder 6 = .ok (.getfield 15, 3) := by decide +kernel
theorem dX8_hasBidder_9 : decode cX8_hasBidder 9 = .ok (.if_icmp .ge 7, 3) := by decide +kernel
theorem dX8_hasBidder_12 : decode cX8_hasBidder 12 = .ok (.iconst 1, 1) := by decide +kernel
theorem dX8_hasBidder_13 : decode cX8_hasBidder 13 = .ok (.goto 4, 3) := by decide +kernel
theorem dX8_hasBidder_16 : decode cX8_hasBidder 16 = .ok (.iconst 0, 1) := by decide +kernel
theorem dX8_hasBidder_17 : decode cX8_hasBidder 17 = .ok (.ireturn, 1) := by decide +kernel
theorem dX8_everyBell_0 : decode cX8_everyBell 0 = .ok (.iconst 1, 1) := by decide +kernel
theorem dX8_everyBell_1 : decode cX8_everyBell 1 = .ok (.aload_n 0, 1) := by decide +kernel
theorem dX8_everyBell_2 : decode cX8_everyBell 2 = .ok (.getfield 9, 3) := by decide +kernel
theorem dX8_everyBell_5 : decode cX8_everyBell 5 = .ok (.ishl, 1) := by decide +kernel
theorem dX8_everyBell_6 : decode cX8_everyBell 6 = .ok (.iconst 1, 1) := by decide +kernel
theorem dX8_everyBell_7 : decode cX8_everyBell 7 = .ok (.isub, 1) := by decide +kernel
theorem dX8_everyBell_8 : decode cX8_everyBell 8 = .ok (.ireturn, 1) := by decide +kernel
theorem dX8_everyone_0 : decode cX8_everyone 0 = .ok (.iconst 1, 1) := by decide +kernel
theorem dX8_everyone_1 : decode cX8_everyone 1 = .ok (.aload_n 0, 1) := by decide +kernel
theorem dX8_everyone_2 : decode cX8_everyone 2 = .ok (.getfield 15, 3) := by decide +kernel
theorem dX8_everyone_5 : decode cX8_everyone 5 = .ok (.ishl, 1) := by decide +kernel
theorem dX8_everyone_6 : decode cX8_everyone 6 = .ok (.iconst 1, 1) := by decide +kernel
theorem dX8_everyone_7 : decode cX8_everyone 7 = .ok (.isub, 1) := by decide +kernel
theorem dX8_everyone_8 : decode cX8_everyone 8 = .ok (.ireturn, 1) := by decide +kernel
theorem dX8_mayBegin_0 : decode cX8_mayBegin 0 = .ok (.iload_n 1, 1) := by decide +kernel
theorem dX8_mayBegin_1 : decode cX8_mayBegin 1 = .ok (.ifCond .lt 36, 3) := by decide +kernel
theorem dX8_mayBegin_4 : decode cX8_mayBegin 4 = .ok (.iload_n 1, 1) := by decide +kernel
theorem dX8_mayBegin_5 : decode cX8_mayBegin 5 = .ok (.iconst 5, 1) := by decide +kernel
theorem dX8_mayBegin_6 : decode cX8_mayBegin 6 = .ok (.if_icmp .ge 31, 3) := by decide +kernel
theorem dX8_mayBegin_9 : decode cX8_mayBegin 9 = .ok (.iload_n 2, 1) := by decide +kernel
theorem dX8_mayBegin_10 : decode cX8_mayBegin 10 = .ok (.ifCond .lt 27, 3) := by decide +kernel
theorem dX8_mayBegin_13 : decode cX8_mayBegin 13 = .ok (.iload_n 2, 1) := by decide +kernel
theorem dX8_mayBegin_14 : decode cX8_mayBegin 14 = .ok (.bipush 10, 2) := by decide +kernel
theorem dX8_mayBegin_16 : decode cX8_mayBegin 16 = .ok (.if_icmp .ge 21, 3) := by decide +kernel
theorem dX8_mayBegin_19 : decode cX8_mayBegin 19 = .ok (.aload_n 0, 1) := by decide +kernel
theorem dX8_mayBegin_20 : decode cX8_mayBegin 20 = .ok (.getfield 43, 3) := by decide +kernel
theorem dX8_mayBegin_23 : decode cX8_mayBegin 23 = .ok (.iload_n 1, 1) := by decide +kernel
theorem dX8_mayBegin_24 : decode cX8_mayBegin 24 = .ok (.iaload, 1) := by decide +kernel
theorem dX8_mayBegin_25 : decode cX8_mayBegin 25 = .ok (.iload_n 2, 1) := by decide +kernel
theorem dX8_mayBegin_26 : decode cX8_mayBegin 26 = .ok (.iushr, 1) := by decide +kernel
theorem dX8_mayBegin_27 : decode cX8_mayBegin 27 = .ok (.iconst 1, 1) := by decide +kernel
theorem dX8_mayBegin_28 : decode cX8_mayBegin 28 = .ok (.iand, 1) := by decide +kernel
theorem dX8_mayBegin_29 : decode cX8_mayBegin 29 = .ok (.iconst 1, 1) := by decide +kernel
theorem dX8_mayBegin_30 : decode cX8_mayBegin 30 = .ok (.if_icmp .ne 7, 3) := by decide +kernel
theorem dX8_mayBegin_33 : decode cX8_mayBegin 33 = .ok (.iconst 1, 1) := by decide +kernel
theorem dX8_mayBegin_34 : decode cX8_mayBegin 34 = .ok (.goto 4, 3) := by decide +kernel
theorem dX8_mayBegin_37 : decode cX8_mayBegin 37 = .ok (.iconst 0, 1) := by decide +kernel
theorem dX8_mayBegin_38 : decode cX8_mayBegin 38 = .ok (.ireturn, 1) := by decide +kernel
theorem dX8_isQuiet_0 : decode cX8_isQuiet 0 = .ok (.aload_n 0, 1) := by decide +kernel
theorem dX8_isQuiet_1 : decode cX8_isQuiet 1 = .ok (.iload_n 1, 1) := by decide +kernel
theorem dX8_isQuiet_2 : decode cX8_isQuiet 2 = .ok (.invokevirtual 56, 3) := by decide +kernel
theorem dX8_isQuiet_5 : decode cX8_isQuiet 5 = .ok (.ifCond .eq 20, 3) := by decide +kernel
theorem dX8_isQuiet_8 : decode cX8_isQuiet 8 = .ok (.aload_n 0, 1) := by decide +kernel
theorem dX8_isQuiet_9 : decode cX8_isQuiet 9 = .ok (.getfield 25, 3) := by decide +kernel
theorem dX8_isQuiet_12 : decode cX8_isQuiet 12 = .ok (.iload_n 1, 1) := by decide +kernel
theorem dX8_isQuiet_13 : decode cX8_isQuiet 13 = .ok (.invokestatic 60, 3) := by decide +kernel
theorem dX8_isQuiet_16 : decode cX8_isQuiet 16 = .ok (.bipush (-9), 2) := by decide +kernel
theorem dX8_isQuiet_18 : decode cX8_isQuiet 18 = .ok (.if_icmp .ne 7, 3) := by decide +kernel
theorem dX8_isQuiet_21 : decode cX8_isQuiet 21 = .ok (.iconst 1, 1) := by decide +kernel
theorem dX8_isQuiet_22 : decode cX8_isQuiet 22 = .ok (.goto 4, 3) := by decide +kernel
theorem dX8_isQuiet_25 : decode cX8_isQuiet 25 = .ok (.iconst 0, 1) := by decide +kernel
theorem dX8_isQuiet_26 : decode cX8_isQuiet 26 = .ok (.ireturn, 1) := by decide +kernel
theorem dX8_isPealOf_0 : decode cX8_isPealOf 0 = .ok (.aload_n 0, 1) := by decide +kernel
theorem dX8_isPealOf_1 : decode cX8_isPealOf 1 = .ok (.iload_n 1, 1) := by decide +kernel
theorem dX8_isPealOf_2 : decode cX8_isPealOf 2 = .ok (.invokevirtual 56, 3) := by decide +kernel
theorem dX8_isPealOf_5 : decode cX8_isPealOf 5 = .ok (.ifCond .eq 19, 3) := by decide +kernel
theorem dX8_isPealOf_8 : decode cX8_isPealOf 8 = .ok (.aload_n 0, 1) := by decide +kernel
theorem dX8_isPealOf_9 : decode cX8_isPealOf 9 = .ok (.getfield 25, 3) := by decide +kernel
theorem dX8_isPealOf_12 : decode cX8_isPealOf 12 = .ok (.iload_n 1, 1) := by decide +kernel
theorem dX8_isPealOf_13 : decode cX8_isPealOf 13 = .ok (.invokestatic 60, 3) := by decide +kernel
theorem dX8_isPealOf_16 : decode cX8_isPealOf 16 = .ok (.iload_n 2, 1) := by decide +kernel
theorem dX8_isPealOf_17 : decode cX8_isPealOf 17 = .ok (.if_icmp .ne 7, 3) := by decide +kernel
theorem dX8_isPealOf_20 : decode cX8_isPealOf 20 = .ok (.iconst 1, 1) := by decide +kernel
theorem dX8_isPealOf_21 : decode cX8_isPealOf 21 = .ok (.goto 4, 3) := by decide +kernel
theorem dX8_isPealOf_24 : decode cX8_isPealOf 24 = .ok (.iconst 0, 1) := by decide +kernel
theorem dX8_isPealOf_25 : decode cX8_isPealOf 25 = .ok (.ireturn, 1) := by decide +kernel
theorem dX8_takes_0 : decode cX8_takes 0 = .ok (.iload_n 1, 1) := by decide +kernel
theorem dX8_takes_1 : decode cX8_takes 1 = .ok (.ifCond .lt 22, 3) := by decide +kernel
theorem dX8_takes_4 : decode cX8_takes 4 = .ok (.iload_n 1, 1) := by decide +kernel
theorem dX8_takes_5 : decode cX8_takes 5 = .ok (.iconst 5, 1) := by decide +kernel
theorem dX8_takes_6 : decode cX8_takes 6 = .ok (.if_icmp .ge 17, 3) := by decide +kernel
theorem dX8_takes_9 : decode cX8_takes 9 = .ok (.iload_n 2, 1) := by decide +kernel
theorem dX8_takes_10 : decode cX8_takes 10 = .ok (.ifCond .lt 13, 3) := by decide +kernel
theorem dX8_takes_13 : decode cX8_takes 13 = .ok (.iload_n 2, 1) := by decide +kernel
theorem dX8_takes_14 : decode cX8_takes 14 = .ok (.bipush 10, 2) := by decide +kernel
theorem dX8_takes_16 : decode cX8_takes 16 = .ok (.if_icmp .ge 7, 3) := by decide +kernel
theorem dX8_takes_19 : decode cX8_takes 19 = .ok (.iconst 1, 1) := by decide +kernel
theorem dX8_takes_20 : decode cX8_takes 20 = .ok (.goto 4, 3) := by decide +kernel
theorem dX8_takes_23 : decode cX8_takes 23 = .ok (.iconst 0, 1) := by decide +kernel
theorem dX8_takes_24 : decode cX8_takes 24 = .ok (.istore_n 3, 1) := by decide +kernel
theorem dX8_takes_25 : decode cX8_takes 25 = .ok (.iload_n 3, 1) := by decide +kernel
theorem dX8_takes_26 : decode cX8_takes 26 = .ok (.ifCond .eq 17, 3) := by decide +kernel
theorem dX8_takes_29 : decode cX8_takes 29 = .ok (.aload_n 0, 1) := by decide +kernel
theorem dX8_takes_30 : decode cX8_takes 30 = .ok (.getfield 49, 3) := by decide +kernel
theorem dX8_takes_33 : decode cX8_takes 33 = .ok (.bipush 10, 2) := by decide +kernel
theorem dX8_takes_35 : decode cX8_takes 35 = .ok (.iload_n 1, 1) := by decide +kernel
theorem dX8_takes_36 : decode cX8_takes 36 = .ok (.imul, 1) := by decide +kernel
theorem dX8_takes_37 : decode cX8_takes 37 = .ok (.iload_n 2, 1) := by decide +kernel
theorem dX8_takes_38 : decode cX8_takes 38 = .ok (.iadd, 1) := by decide +kernel
theorem dX8_takes_39 : decode cX8_takes 39 = .ok (.laload, 1) := by decide +kernel
theorem dX8_takes_40 : decode cX8_takes 40 = .ok (.goto 4, 3) := by decide +kernel
theorem dX8_takes_43 : decode cX8_takes 43 = .ok (.lconst 0, 1) := by decide +kernel
theorem dX8_takes_44 : decode cX8_takes 44 = .ok (.lreturn, 1) := by decide +kernel
theorem dX8_ringing_0 : decode cX8_ringing 0 = .ok (.iload_n 1, 1) := by decide +kernel
theorem dX8_ringing_1 : decode cX8_ringing 1 = .ok (.ifCond .lt 22, 3) := by decide +kernel
theorem dX8_ringing_4 : decode cX8_ringing 4 = .ok (.iload_n 1, 1) := by decide +kernel
theorem dX8_ringing_5 : decode cX8_ringing 5 = .ok (.iconst 5, 1) := by decide +kernel
theorem dX8_ringing_6 : decode cX8_ringing 6 = .ok (.if_icmp .ge 17, 3) := by decide +kernel
theorem dX8_ringing_9 : decode cX8_ringing 9 = .ok (.iload_n 2, 1) := by decide +kernel
theorem dX8_ringing_10 : decode cX8_ringing 10 = .ok (.ifCond .lt 13, 3) := by decide +kernel
theorem dX8_ringing_13 : decode cX8_ringing 13 = .ok (.iload_n 2, 1) := by decide +kernel
theorem dX8_ringing_14 : decode cX8_ringing 14 = .ok (.bipush 10, 2) := by decide +kernel
theorem dX8_ringing_16 : decode cX8_ringing 16 = .ok (.if_icmp .ge 7, 3) := by decide +kernel
theorem dX8_ringing_19 : decode cX8_ringing 19 = .ok (.iconst 1, 1) := by decide +kernel
theorem dX8_ringing_20 : decode cX8_ringing 20 = .ok (.goto 4, 3) := by decide +kernel
theorem dX8_ringing_23 : decode cX8_ringing 23 = .ok (.iconst 0, 1) := by decide +kernel
theorem dX8_ringing_24 : decode cX8_ringing 24 = .ok (.istore_n 3, 1) := by decide +kernel
theorem dX8_ringing_25 : decode cX8_ringing 25 = .ok (.iload_n 3, 1) := by decide +kernel
theorem dX8_ringing_26 : decode cX8_ringing 26 = .ok (.ifCond .eq 17, 3) := by decide +kernel
theorem dX8_ringing_29 : decode cX8_ringing 29 = .ok (.aload_n 0, 1) := by decide +kernel
theorem dX8_ringing_30 : decode cX8_ringing 30 = .ok (.getfield 53, 3) := by decide +kernel
theorem dX8_ringing_33 : decode cX8_ringing 33 = .ok (.bipush 10, 2) := by decide +kernel
theorem dX8_ringing_35 : decode cX8_ringing 35 = .ok (.iload_n 1, 1) := by decide +kernel
theorem dX8_ringing_36 : decode cX8_ringing 36 = .ok (.imul, 1) := by decide +kernel
theorem dX8_ringing_37 : decode cX8_ringing 37 = .ok (.iload_n 2, 1) := by decide +kernel
theorem dX8_ringing_38 : decode cX8_ringing 38 = .ok (.iadd, 1) := by decide +kernel
theorem dX8_ringing_39 : decode cX8_ringing 39 = .ok (.iaload, 1) := by decide +kernel
theorem dX8_ringing_40 : decode cX8_ringing 40 = .ok (.goto 4, 3) := by decide +kernel
theorem dX8_ringing_43 : decode cX8_ringing 43 = .ok (.iconst 0, 1) := by decide +kernel
theorem dX8_ringing_44 : decode cX8_ringing 44 = .ok (.ireturn, 1) := by decide +kernel
theorem dX8_wants_0 : decode cX8_wants 0 = .ok (.iload_n 1, 1) := by decide +kernel
theorem dX8_wants_1 : decode cX8_wants 1 = .ok (.ifCond .lt 17, 3) := by decide +kernel
theorem dX8_wants_4 : decode cX8_wants 4 = .ok (.iload_n 1, 1) := by decide +kernel
theorem dX8_wants_5 : decode cX8_wants 5 = .ok (.iconst 5, 1) := by decide +kernel
theorem dX8_wants_6 : decode cX8_wants 6 = .ok (.if_icmp .ge 12, 3) := by decide +kernel
theorem dX8_wants_9 : decode cX8_wants 9 = .ok (.aload_n 0, 1) := by decide +kernel
theorem dX8_wants_10 : decode cX8_wants 10 = .ok (.getfield 46, 3) := by decide +kernel
theorem dX8_wants_13 : decode cX8_wants 13 = .ok (.iload_n 1, 1) := by decide +kernel
theorem dX8_wants_14 : decode cX8_wants 14 = .ok (.iaload, 1) := by decide +kernel
theorem dX8_wants_15 : decode cX8_wants 15 = .ok (.goto 4, 3) := by decide +kernel
theorem dX8_wants_18 : decode cX8_wants 18 = .ok (.iconst 0, 1) := by decide +kernel
theorem dX8_wants_19 : decode cX8_wants 19 = .ok (.ireturn, 1) := by decide +kernel
theorem dX8_wantedSeconds_0 : decode cX8_wantedSeconds 0 = .ok (.iconst 0, 1) := by decide +kernel
theorem dX8_wantedSeconds_1 : decode cX8_wantedSeconds 1 = .ok (.istore_n 1, 1) := by decide +kernel
theorem dX8_wantedSeconds_2 : decode cX8_wantedSeconds 2 = .ok (.iconst 0, 1) := by decide +kernel
theorem dX8_wantedSeconds_3 : decode cX8_wantedSeconds 3 = .ok (.istore_n 2, 1) := by decide +kernel
theorem dX8_wantedSeconds_4 : decode cX8_wantedSeconds 4 = .ok (.iload_n 2, 1) := by decide +kernel
theorem dX8_wantedSeconds_5 : decode cX8_wantedSeconds 5 = .ok (.iconst 5, 1) := by decide +kernel
theorem dX8_wantedSeconds_6 : decode cX8_wantedSeconds 6 = .ok (.if_icmp .ge 46, 3) := by decide +kernel
theorem dX8_wantedSeconds_9 : decode cX8_wantedSeconds 9 = .ok (.iload_n 1, 1) := by decide +kernel
theorem dX8_wantedSeconds_10 : decode cX8_wantedSeconds 10 = .ok (.aload_n 0, 1) := by decide +kernel
theorem dX8_wantedSeconds_11 : decode cX8_wantedSeconds 11 = .ok (.iload_n 2, 1) := by decide +kernel
theorem dX8_wantedSeconds_12 : decode cX8_wantedSeconds 12 = .ok (.invokevirtual 64, 3) := by decide +kernel
theorem dX8_wantedSeconds_15 : decode cX8_wantedSeconds 15 = .ok (.invokestatic 68, 3) := by decide +kernel
theorem dX8_wantedSeconds_18 : decode cX8_wantedSeconds 18 = .ok (.ior, 1) := by decide +kernel
theorem dX8_wantedSeconds_19 : decode cX8_wantedSeconds 19 = .ok (.istore_n 1, 1) := by decide +kernel
theorem dX8_wantedSeconds_20 : decode cX8_wantedSeconds 20 = .ok (.iconst 0, 1) := by decide +kernel
theorem dX8_wantedSeconds_21 : decode cX8_wantedSeconds 21 = .ok (.istore_n 3, 1) := by decide +kernel
theorem dX8_wantedSeconds_22 : decode cX8_wantedSeconds 22 = .ok (.iload_n 3, 1) := by decide +kernel
theorem dX8_wantedSeconds_23 : decode cX8_wantedSeconds 23 = .ok (.bipush 10, 2) := by decide +kernel
theorem dX8_wantedSeconds_25 : decode cX8_wantedSeconds 25 = .ok (.if_icmp .ge 21, 3) := by decide +kernel
theorem dX8_wantedSeconds_28 : decode cX8_wantedSeconds 28 = .ok (.iload_n 1, 1) := by decide +kernel
theorem dX8_wantedSeconds_29 : decode cX8_wantedSeconds 29 = .ok (.aload_n 0, 1) := by decide +kernel
theorem dX8_wantedSeconds_30 : decode cX8_wantedSeconds 30 = .ok (.iload_n 2, 1) := by decide +kernel
theorem dX8_wantedSeconds_31 : decode cX8_wantedSeconds 31 = .ok (.iload_n 3, 1) := by decide +kernel
theorem dX8_wantedSeconds_32 : decode cX8_wantedSeconds 32 = .ok (.invokevirtual 71, 3) := by decide +kernel
theorem dX8_wantedSeconds_35 : decode cX8_wantedSeconds 35 = .ok (.invokestatic 68, 3) := by decide +kernel
theorem dX8_wantedSeconds_38 : decode cX8_wantedSeconds 38 = .ok (.ior, 1) := by decide +kernel
theorem dX8_wantedSeconds_39 : decode cX8_wantedSeconds 39 = .ok (.istore_n 1, 1) := by decide +kernel
theorem dX8_wantedSeconds_40 : decode cX8_wantedSeconds 40 = .ok (.iinc 3 1, 3) := by decide +kernel
theorem dX8_wantedSeconds_43 : decode cX8_wantedSeconds 43 = .ok (.goto (-21), 3) := by decide +kernel
theorem dX8_wantedSeconds_46 : decode cX8_wantedSeconds 46 = .ok (.iinc 2 1, 3) := by decide +kernel
theorem dX8_wantedSeconds_49 : decode cX8_wantedSeconds 49 = .ok (.goto (-45), 3) := by decide +kernel
theorem dX8_wantedSeconds_52 : decode cX8_wantedSeconds 52 = .ok (.iload_n 1, 1) := by decide +kernel
theorem dX8_wantedSeconds_53 : decode cX8_wantedSeconds 53 = .ok (.ireturn, 1) := by decide +kernel
theorem dX8_build_0 : decode cX8_build 0 = .ok (.aload_n 0, 1) := by decide +kernel
theorem dX8_build_1 : decode cX8_build 1 = .ok (.invokevirtual 75, 3) := by decide +kernel
theorem dX8_build_4 : decode cX8_build 4 = .ok (.iconst 1, 1) := by decide +kernel
theorem dX8_build_5 : decode cX8_build 5 = .ok (.istore_n 2, 1) := by decide +kernel
theorem dX8_build_6 : decode cX8_build 6 = .ok (.iconst 0, 1) := by decide +kernel
theorem dX8_build_7 : decode cX8_build 7 = .ok (.istore_n 3, 1) := by decide +kernel
theorem dX8_build_8 : decode cX8_build 8 = .ok (.iload_n 3, 1) := by decide +kernel
theorem dX8_build_9 : decode cX8_build 9 = .ok (.bipush 48, 2) := by decide +kernel
theorem dX8_build_11 : decode cX8_build 11 = .ok (.if_icmp .ge 68, 3) := by decide +kernel
theorem dX8_build_14 : decode cX8_build 14 = .ok (.iload_n 2, 1) := by decide +kernel
theorem dX8_build_15 : decode cX8_build 15 = .ok (.aload_n 1, 1) := by decide +kernel
theorem dX8_build_16 : decode cX8_build 16 = .ok (.getfield 78, 3) := by decide +kernel
theorem dX8_build_19 : decode cX8_build 19 = .ok (.if_icmp .ge 60, 3) := by decide +kernel
theorem dX8_build_22 : decode cX8_build 22 = .ok (.aload_n 1, 1) := by decide +kernel
theorem dX8_build_23 : decode cX8_build 23 = .ok (.iload_n 2, 1) := by decide +kernel
theorem dX8_build_24 : decode cX8_build 24 = .ok (.invokevirtual 83, 3) := by decide +kernel
theorem dX8_build_27 : decode cX8_build 27 = .ok (.istore 4, 2) := by decide +kernel
theorem dX8_build_29 : decode cX8_build 29 = .ok (.iload 4, 2) := by decide +kernel
theorem dX8_build_31 : decode cX8_build 31 = .ok (.bipush 66, 2) := by decide +kernel
theorem dX8_build_33 : decode cX8_build 33 = .ok (.if_icmp .ne 24, 3) := by decide +kernel
theorem dX8_build_36 : decode cX8_build 36 = .ok (.aload_n 0, 1) := by decide +kernel
theorem dX8_build_37 : decode cX8_build 37 = .ok (.aload_n 1, 1) := by decide +kernel
theorem dX8_build_38 : decode cX8_build 38 = .ok (.iload_n 2, 1) := by decide +kernel
theorem dX8_build_39 : decode cX8_build 39 = .ok (.iconst 1, 1) := by decide +kernel
theorem dX8_build_40 : decode cX8_build 40 = .ok (.iadd, 1) := by decide +kernel
theorem dX8_build_41 : decode cX8_build 41 = .ok (.invokevirtual 86, 3) := by decide +kernel
theorem dX8_build_44 : decode cX8_build 44 = .ok (.aload_n 1, 1) := by decide +kernel
theorem dX8_build_45 : decode cX8_build 45 = .ok (.iload_n 2, 1) := by decide +kernel
theorem dX8_build_46 : decode cX8_build 46 = .ok (.iconst 2, 1) := by decide +kernel
theorem dX8_build_47 : decode cX8_build 47 = .ok (.iadd, 1) := by decide +kernel
theorem dX8_build_48 : decode cX8_build 48 = .ok (.invokevirtual 86, 3) := by decide +kernel
theorem dX8_build_51 : decode cX8_build 51 = .ok (.invokevirtual 89, 3) := by decide +kernel
theorem dX8_build_54 : decode cX8_build 54 = .ok (.goto 11, 3) := by decide +kernel
theorem dX8_build_57 : decode cX8_build 57 = .ok (.aload_n 0, 1) := by decide +kernel
theorem dX8_build_58 : decode cX8_build 58 = .ok (.iload 4, 2) := by decide +kernel
theorem dX8_build_60 : decode cX8_build 60 = .ok (.aload_n 1, 1) := by decide +kernel
theorem dX8_build_61 : decode cX8_build 61 = .ok (.iload_n 2, 1) := by decide +kernel
theorem dX8_build_62 : decode cX8_build 62 = .ok (.invokevirtual 93, 3) := by decide +kernel
theorem dX8_build_65 : decode cX8_build 65 = .ok (.iload_n 2, 1) := by decide +kernel
theorem dX8_build_66 : decode cX8_build 66 = .ok (.iload 4, 2) := by decide +kernel
theorem dX8_build_68 : decode cX8_build 68 = .ok (.invokestatic 97, 3) := by decide +kernel
theorem dX8_build_71 : decode cX8_build 71 = .ok (.iadd, 1) := by decide +kernel
theorem dX8_build_72 : decode cX8_build 72 = .ok (.istore_n 2, 1) := by decide +kernel
theorem dX8_build_73 : decode cX8_build 73 = .ok (.iinc 3 1, 3) := by decide +kernel
theorem dX8_build_76 : decode cX8_build 76 = .ok (.goto (-68), 3) := by decide +kernel
theorem dX8_build_79 : decode cX8_build 79 = .ok (.return_, 1) := by decide +kernel
theorem dX8_clear_0 : decode cX8_clear 0 = .ok (.aload_n 0, 1) := by decide +kernel
theorem dX8_clear_1 : decode cX8_clear 1 = .ok (.iconst 0, 1) := by decide +kernel
theorem dX8_clear_2 : decode cX8_clear 2 = .ok (.putfield 9, 3) := by decide +kernel
theorem dX8_clear_5 : decode cX8_clear 5 = .ok (.aload_n 0, 1) := by decide +kernel
theorem dX8_clear_6 : decode cX8_clear 6 = .ok (.iconst 0, 1) := by decide +kernel
theorem dX8_clear_7 : decode cX8_clear 7 = .ok (.putfield 15, 3) := by decide +kernel
theorem dX8_clear_10 : decode cX8_clear 10 = .ok (.iconst 0, 1) := by decide +kernel
theorem dX8_clear_11 : decode cX8_clear 11 = .ok (.istore_n 1, 1) := by decide +kernel
theorem dX8_clear_12 : decode cX8_clear 12 = .ok (.iload_n 1, 1) := by decide +kernel
theorem dX8_clear_13 : decode cX8_clear 13 = .ok (.iconst 5, 1) := by decide +kernel
theorem dX8_clear_14 : decode cX8_clear 14 = .ok (.if_icmp .ge 45, 3) := by decide +kernel
theorem dX8_clear_17 : decode cX8_clear 17 = .ok (.aload_n 0, 1) := by decide +kernel
theorem dX8_clear_18 : decode cX8_clear 18 = .ok (.getfield 43, 3) := by decide +kernel
theorem dX8_clear_21 : decode cX8_clear 21 = .ok (.iload_n 1, 1) := by decide +kernel
theorem dX8_clear_22 : decode cX8_clear 22 = .ok (.iconst 0, 1) := by decide +kernel
theorem dX8_clear_23 : decode cX8_clear 23 = .ok (.iastore, 1) := by decide +kernel
theorem dX8_clear_24 : decode cX8_clear 24 = .ok (.aload_n 0, 1) := by decide +kernel
theorem dX8_clear_25 : decode cX8_clear 25 = .ok (.getfield 46, 3) := by decide +kernel
theorem dX8_clear_28 : decode cX8_clear 28 = .ok (.iload_n 1, 1) := by decide +kernel
theorem dX8_clear_29 : decode cX8_clear 29 = .ok (.iconst 0, 1) := by decide +kernel
theorem dX8_clear_30 : decode cX8_clear 30 = .ok (.iastore, 1) := by decide +kernel
theorem dX8_clear_31 : decode cX8_clear 31 = .ok (.iconst 0, 1) := by decide +kernel
theorem dX8_clear_32 : decode cX8_clear 32 = .ok (.istore_n 2, 1) := by decide +kernel
theorem dX8_clear_33 : decode cX8_clear 33 = .ok (.iload_n 2, 1) := by decide +kernel
theorem dX8_clear_34 : decode cX8_clear 34 = .ok (.bipush 10, 2) := by decide +kernel
theorem dX8_clear_36 : decode cX8_clear 36 = .ok (.if_icmp .ge 17, 3) := by decide +kernel
theorem dX8_clear_39 : decode cX8_clear 39 = .ok (.aload_n 0, 1) := by decide +kernel
theorem dX8_clear_40 : decode cX8_clear 40 = .ok (.iload_n 1, 1) := by decide +kernel
theorem dX8_clear_41 : decode cX8_clear 41 = .ok (.iload_n 2, 1) := by decide +kernel
theorem dX8_clear_42 : decode cX8_clear 42 = .ok (.lconst 0, 1) := by decide +kernel
theorem dX8_clear_43 : decode cX8_clear 43 = .ok (.iconst 0, 1) := by decide +kernel
theorem dX8_clear_44 : decode cX8_clear 44 = .ok (.invokevirtual 100, 3) := by decide +kernel
theorem dX8_clear_47 : decode cX8_clear 47 = .ok (.iinc 2 1, 3) := by decide +kernel
theorem dX8_clear_50 : decode cX8_clear 50 = .ok (.goto (-17), 3) := by decide +kernel
theorem dX8_clear_53 : decode cX8_clear 53 = .ok (.iinc 1 1, 3) := by decide +kernel
theorem dX8_clear_56 : decode cX8_clear 56 = .ok (.goto (-44), 3) := by decide +kernel
theorem dX8_clear_59 : decode cX8_clear 59 = .ok (.return_, 1) := by decide +kernel
theorem dX8_addBell_0 : decode cX8_addBell 0 = .ok (.aload_n 0, 1) := by decide +kernel
theorem dX8_addBell_1 : decode cX8_addBell 1 = .ok (.getfield 9, 3) := by decide +kernel
theorem dX8_addBell_4 : decode cX8_addBell 4 = .ok (.ifCond .lt 11, 3) := by decide +kernel
theorem dX8_addBell_7 : decode cX8_addBell 7 = .ok (.aload_n 0, 1) := by decide +kernel
theorem dX8_addBell_8 : decode cX8_addBell 8 = .ok (.getfield 9, 3) := by decide +kernel
theorem dX8_addBell_11 : decode cX8_addBell 11 = .ok (.iconst 3, 1) := by decide +kernel
theorem dX8_addBell_12 : decode cX8_addBell 12 = .ok (.if_icmp .lt 4, 3) := by decide +kernel
theorem dX8_addBell_15 : decode cX8_addBell 15 = .ok (.return_, 1) := by decide +kernel
theorem dX8_addBell_16 : decode cX8_addBell 16 = .ok (.aload_n 0, 1) := by decide +kernel
theorem dX8_addBell_17 : decode cX8_addBell 17 = .ok (.getfield 18, 3) := by decide +kernel
theorem dX8_addBell_20 : decode cX8_addBell 20 = .ok (.aload_n 0, 1) := by decide +kernel
theorem dX8_addBell_21 : decode cX8_addBell 21 = .ok (.getfield 9, 3) := by decide +kernel
theorem dX8_addBell_24 : decode cX8_addBell 24 = .ok (.iload_n 1, 1) := by decide +kernel
theorem dX8_addBell_25 : decode cX8_addBell 25 = .ok (.iastore, 1) := by decide +kernel
theorem dX8_addBell_26 : decode cX8_addBell 26 = .ok (.aload_n 0, 1) := by decide +kernel
theorem dX8_addBell_27 : decode cX8_addBell 27 = .ok (.getfield 22, 3) := by decide +kernel
theorem dX8_addBell_30 : decode cX8_addBell 30 = .ok (.aload_n 0, 1) := by decide +kernel
theorem dX8_addBell_31 : decode cX8_addBell 31 = .ok (.getfield 9, 3) := by decide +kernel
theorem dX8_addBell_34 : decode cX8_addBell 34 = .ok (.iload_n 2, 1) := by decide +kernel
theorem dX8_addBell_35 : decode cX8_addBell 35 = .ok (.iastore, 1) := by decide +kernel
theorem dX8_addBell_36 : decode cX8_addBell 36 = .ok (.aload_n 0, 1) := by decide +kernel
theorem dX8_addBell_37 : decode cX8_addBell 37 = .ok (.dup, 1) := by decide +kernel
theorem dX8_addBell_38 : decode cX8_addBell 38 = .ok (.getfield 9, 3) := by decide +kernel
theorem dX8_addBell_41 : decode cX8_addBell 41 = .ok (.iconst 1, 1) := by decide +kernel
theorem dX8_addBell_42 : decode cX8_addBell 42 = .ok (.iadd, 1) := by decide +kernel
theorem dX8_addBell_43 : decode cX8_addBell 43 = .ok (.putfield 9, 3) := by decide +kernel
theorem dX8_addBell_46 : decode cX8_addBell 46 = .ok (.return_, 1) := by decide +kernel
theorem dX8_addBidder_0 : decode cX8_addBidder 0 = .ok (.aload_n 0, 1) := by decide +kernel
theorem dX8_addBidder_1 : decode cX8_addBidder 1 = .ok (.getfield 15, 3) := by decide +kernel
theorem dX8_addBidder_4 : decode cX8_addBidder 4 = .ok (.istore 4, 2) := by decide +kernel
theorem dX8_addBidder_6 : decode cX8_addBidder 6 = .ok (.iload 4, 2) := by decide +kernel
theorem dX8_addBidder_8 : decode cX8_addBidder 8 = .ok (.ifCond .lt 9, 3) := by decide +kernel
theorem dX8_addBidder_11 : decode cX8_addBidder 11 = .ok (.iload 4, 2) := by decide +kernel
theorem dX8_addBidder_13 : decode cX8_addBidder 13 = .ok (.iconst 5, 1) := by decide +kernel
theorem dX8_addBidder_14 : decode cX8_addBidder 14 = .ok (.if_icmp .lt 4, 3) := by decide +kernel
theorem dX8_addBidder_17 : decode cX8_addBidder 17 = .ok (.return_, 1) := by decide +kernel
theorem dX8_addBidder_18 : decode cX8_addBidder 18 = .ok (.iload_n 1, 1) := by decide +kernel
theorem dX8_addBidder_19 : decode cX8_addBidder 19 = .ok (.bipush 80, 2) := by decide +kernel
theorem dX8_addBidder_21 : decode cX8_addBidder 21 = .ok (.if_icmp .ne 7, 3) := by decide +kernel
theorem dX8_addBidder_24 : decode cX8_addBidder 24 = .ok (.iconst 1, 1) := by decide +kernel
theorem dX8_addBidder_25 : decode cX8_addBidder 25 = .ok (.goto 4, 3) := by decide +kernel
theorem dX8_addBidder_28 : decode cX8_addBidder 28 = .ok (.iconst 0, 1) := by decide +kernel
theorem dX8_addBidder_29 : decode cX8_addBidder 29 = .ok (.istore 5, 2) := by decide +kernel
theorem dX8_addBidder_31 : decode cX8_addBidder 31 = .ok (.iload 5, 2) := by decide +kernel
theorem dX8_addBidder_33 : decode cX8_addBidder 33 = .ok (.ifCond .eq 9, 3) := by decide +kernel
theorem dX8_addBidder_36 : decode cX8_addBidder 36 = .ok (.iload_n 3, 1) := by decide +kernel
theorem dX8_addBidder_37 : decode cX8_addBidder 37 = .ok (.iconst 4, 1) := by decide +kernel
theorem dX8_addBidder_38 : decode cX8_addBidder 38 = .ok (.iadd, 1) := by decide +kernel
theorem dX8_addBidder_39 : decode cX8_addBidder 39 = .ok (.goto 6, 3) := by decide +kernel
theorem dX8_addBidder_42 : decode cX8_addBidder 42 = .ok (.iload_n 3, 1) := by decide +kernel
theorem dX8_addBidder_43 : decode cX8_addBidder 43 = .ok (.iconst 1, 1) := by decide +kernel
theorem dX8_addBidder_44 : decode cX8_addBidder 44 = .ok (.iadd, 1) := by decide +kernel
theorem dX8_addBidder_45 : decode cX8_addBidder 45 = .ok (.istore 6, 2) := by decide +kernel
theorem dX8_addBidder_47 : decode cX8_addBidder 47 = .ok (.aload_n 0, 1) := by decide +kernel
theorem dX8_addBidder_48 : decode cX8_addBidder 48 = .ok (.getfield 25, 3) := by decide +kernel
theorem dX8_addBidder_51 : decode cX8_addBidder 51 = .ok (.iload 4, 2) := by decide +kernel
theorem dX8_addBidder_53 : decode cX8_addBidder 53 = .ok (.iload 5, 2) := by decide +kernel
theorem dX8_addBidder_55 : decode cX8_addBidder 55 = .ok (.ifCond .eq 13, 3) := by decide +kernel
theorem dX8_addBidder_58 : decode cX8_addBidder 58 = .ok (.aload_n 2, 1) := by decide +kernel
theorem dX8_addBidder_59 : decode cX8_addBidder 59 = .ok (.iload_n 3, 1) := by decide +kernel
theorem dX8_addBidder_60 : decode cX8_addBidder 60 = .ok (.iconst 1, 1) := by decide +kernel
theorem dX8_addBidder_61 : decode cX8_addBidder 61 = .ok (.iadd, 1) := by decide +kernel
theorem dX8_addBidder_62 : decode cX8_addBidder 62 = .ok (.invokevirtual 86, 3) := by decide +kernel
theorem dX8_addBidder_65 : decode cX8_addBidder 65 = .ok (.goto 5, 3) := by decide +kernel
theorem dX8_addBidder_68 : decode cX8_addBidder 68 = .ok (.bipush (-9), 2) := by decide +kernel
theorem dX8_addBidder_70 : decode cX8_addBidder 70 = .ok (.iastore, 1) := by decide +kernel
theorem dX8_addBidder_71 : decode cX8_addBidder 71 = .ok (.aload_n 0, 1) := by decide +kernel
theorem dX8_addBidder_72 : decode cX8_addBidder 72 = .ok (.getfield 28, 3) := by decide +kernel
theorem dX8_addBidder_75 : decode cX8_addBidder 75 = .ok (.iload 4, 2) := by decide +kernel
theorem dX8_addBidder_77 : decode cX8_addBidder 77 = .ok (.iload 5, 2) := by decide +kernel
theorem dX8_addBidder_79 : decode cX8_addBidder 79 = .ok (.ifCond .eq 13, 3) := by decide +kernel
theorem dX8_addBidder_82 : decode cX8_addBidder 82 = .ok (.aload_n 2, 1) := by decide +kernel
theorem dX8_addBidder_83 : decode cX8_addBidder 83 = .ok (.iload_n 3, 1) := by decide +kernel
theorem dX8_addBidder_84 : decode cX8_addBidder 84 = .ok (.iconst 2, 1) := by decide +kernel
theorem dX8_addBidder_85 : decode cX8_addBidder 85 = .ok (.iadd, 1) := by decide +kernel
theorem dX8_addBidder_86 : decode cX8_addBidder 86 = .ok (.invokevirtual 86, 3) := by decide +kernel
theorem dX8_addBidder_89 : decode cX8_addBidder 89 = .ok (.goto 4, 3) := by decide +kernel
theorem dX8_addBidder_92 : decode cX8_addBidder 92 = .ok (.iconst 0, 1) := by decide +kernel
theorem dX8_addBidder_93 : decode cX8_addBidder 93 = .ok (.iastore, 1) := by decide +kernel
theorem dX8_addBidder_94 : decode cX8_addBidder 94 = .ok (.aload_n 0, 1) := by decide +kernel
theorem dX8_addBidder_95 : decode cX8_addBidder 95 = .ok (.getfield 31, 3) := by decide +kernel
theorem dX8_addBidder_98 : decode cX8_addBidder 98 = .ok (.iload 4, 2) := by decide +kernel
theorem dX8_addBidder_100 : decode cX8_addBidder 100 = .ok (.iload 5, 2) := by decide +kernel
theorem dX8_addBidder_102 : decode cX8_addBidder 102 = .ok (.ifCond .eq 13, 3) := by decide +kernel
theorem dX8_addBidder_105 : decode cX8_addBidder 105 = .ok (.aload_n 2, 1) := by decide +kernel
theorem dX8_addBidder_106 : decode cX8_addBidder 106 = .ok (.iload_n 3, 1) := by decide +kernel
theorem dX8_addBidder_107 : decode cX8_addBidder 107 = .ok (.iconst 3, 1) := by decide +kernel
theorem dX8_addBidder_108 : decode cX8_addBidder 108 = .ok (.iadd, 1) := by decide +kernel
theorem dX8_addBidder_109 : decode cX8_addBidder 109 = .ok (.invokevirtual 86, 3) := by decide +kernel
theorem dX8_addBidder_112 : decode cX8_addBidder 112 = .ok (.goto 4, 3) := by decide +kernel
theorem dX8_addBidder_115 : decode cX8_addBidder 115 = .ok (.iconst 0, 1) := by decide +kernel
theorem dX8_addBidder_116 : decode cX8_addBidder 116 = .ok (.iastore, 1) := by decide +kernel
theorem dX8_addBidder_117 : decode cX8_addBidder 117 = .ok (.aload_n 0, 1) := by decide +kernel
theorem dX8_addBidder_118 : decode cX8_addBidder 118 = .ok (.getfield 34, 3) := by decide +kernel
theorem dX8_addBidder_121 : decode cX8_addBidder 121 = .ok (.iload 4, 2) := by decide +kernel
theorem dX8_addBidder_123 : decode cX8_addBidder 123 = .ok (.aload_n 2, 1) := by decide +kernel
theorem dX8_addBidder_124 : decode cX8_addBidder 124 = .ok (.iload 6, 2) := by decide +kernel
theorem dX8_addBidder_126 : decode cX8_addBidder 126 = .ok (.invokevirtual 86, 3) := by decide +kernel
theorem dX8_addBidder_129 : decode cX8_addBidder 129 = .ok (.iastore, 1) := by decide +kernel
theorem dX8_addBidder_130 : decode cX8_addBidder 130 = .ok (.aload_n 0, 1) := by decide +kernel
theorem dX8_addBidder_131 : decode cX8_addBidder 131 = .ok (.getfield 37, 3) := by decide +kernel
theorem dX8_addBidder_134 : decode cX8_addBidder 134 = .ok (.iload 4, 2) := by decide +kernel
theorem dX8_addBidder_136 : decode cX8_addBidder 136 = .ok (.aload_n 2, 1) := by decide +kernel
theorem dX8_addBidder_137 : decode cX8_addBidder 137 = .ok (.iload 6, 2) := by decide +kernel
theorem dX8_addBidder_139 : decode cX8_addBidder 139 = .ok (.iconst 1, 1) := by decide +kernel
theorem dX8_addBidder_140 : decode cX8_addBidder 140 = .ok (.iadd, 1) := by decide +kernel
theorem dX8_addBidder_141 : decode cX8_addBidder 141 = .ok (.invokevirtual 86, 3) := by decide +kernel
theorem dX8_addBidder_144 : decode cX8_addBidder 144 = .ok (.iastore, 1) := by decide +kernel
theorem dX8_addBidder_145 : decode cX8_addBidder 145 = .ok (.aload_n 0, 1) := by decide +kernel
theorem dX8_addBidder_146 : decode cX8_addBidder 146 = .ok (.getfield 40, 3) := by decide +kernel
theorem dX8_addBidder_149 : decode cX8_addBidder 149 = .ok (.iload 4, 2) := by decide +kernel
theorem dX8_addBidder_151 : decode cX8_addBidder 151 = .ok (.aload_n 2, 1) := by decide +kernel
theorem dX8_addBidder_152 : decode cX8_addBidder 152 = .ok (.iload 6, 2) := by decide +kernel
theorem dX8_addBidder_154 : decode cX8_addBidder 154 = .ok (.iconst 2, 1) := by decide +kernel
theorem dX8_addBidder_155 : decode cX8_addBidder 155 = .ok (.iadd, 1) := by decide +kernel
theorem dX8_addBidder_156 : decode cX8_addBidder 156 = .ok (.invokevirtual 86, 3) := by decide +kernel
theorem dX8_addBidder_159 : decode cX8_addBidder 159 = .ok (.iastore, 1) := by decide +kernel
theorem dX8_addBidder_160 : decode cX8_addBidder 160 = .ok (.aload_n 0, 1) := by decide +kernel
theorem dX8_addBidder_161 : decode cX8_addBidder 161 = .ok (.dup, 1) := by decide +kernel
theorem dX8_addBidder_162 : decode cX8_addBidder 162 = .ok (.getfield 15, 3) := by decide +kernel
theorem dX8_addBidder_165 : decode cX8_addBidder 165 = .ok (.iconst 1, 1) := by decide +kernel
theorem dX8_addBidder_166 : decode cX8_addBidder 166 = .ok (.iadd, 1) := by decide +kernel
theorem dX8_addBidder_167 : decode cX8_addBidder 167 = .ok (.putfield 15, 3) := by decide +kernel
theorem dX8_addBidder_170 : decode cX8_addBidder 170 = .ok (.iload 5, 2) := by decide +kernel
theorem dX8_addBidder_172 : decode cX8_addBidder 172 = .ok (.ifCond .eq 12, 3) := by decide +kernel
theorem dX8_addBidder_175 : decode cX8_addBidder 175 = .ok (.aload_n 0, 1) := by decide +kernel
theorem dX8_addBidder_176 : decode cX8_addBidder 176 = .ok (.iload 4, 2) := by decide +kernel
theorem dX8_addBidder_178 : decode cX8_addBidder 178 = .ok (.invokevirtual 104, 3) := by decide +kernel
theorem dX8_addBidder_181 : decode cX8_addBidder 181 = .ok (.goto 56, 3) := by decide +kernel
theorem dX8_addBidder_184 : decode cX8_addBidder 184 = .ok (.aload_n 0, 1) := by decide +kernel
theorem dX8_addBidder_185 : decode cX8_addBidder 185 = .ok (.getfield 46, 3) := by decide +kernel
theorem dX8_addBidder_188 : decode cX8_addBidder 188 = .ok (.iload 4, 2) := by decide +kernel
theorem dX8_addBidder_190 : decode cX8_addBidder 190 = .ok (.aload_n 0, 1) := by decide +kernel
theorem dX8_addBidder_191 : decode cX8_addBidder 191 = .ok (.getfield 34, 3) := by decide +kernel
theorem dX8_addBidder_194 : decode cX8_addBidder 194 = .ok (.iload 4, 2) := by decide +kernel
theorem dX8_addBidder_196 : decode cX8_addBidder 196 = .ok (.iaload, 1) := by decide +kernel
theorem dX8_addBidder_197 : decode cX8_addBidder 197 = .ok (.aload_n 0, 1) := by decide +kernel
theorem dX8_addBidder_198 : decode cX8_addBidder 198 = .ok (.getfield 37, 3) := by decide +kernel
theorem dX8_addBidder_201 : decode cX8_addBidder 201 = .ok (.iload 4, 2) := by decide +kernel
theorem dX8_addBidder_203 : decode cX8_addBidder 203 = .ok (.iaload, 1) := by decide +kernel
theorem dX8_addBidder_204 : decode cX8_addBidder 204 = .ok (.aload_n 0, 1) := by decide +kernel
theorem dX8_addBidder_205 : decode cX8_addBidder 205 = .ok (.getfield 34, 3) := by decide +kernel
theorem dX8_addBidder_208 : decode cX8_addBidder 208 = .ok (.iload 4, 2) := by decide +kernel
theorem dX8_addBidder_210 : decode cX8_addBidder 210 = .ok (.iaload, 1) := by decide +kernel
theorem dX8_addBidder_211 : decode cX8_addBidder 211 = .ok (.isub, 1) := by decide +kernel
theorem dX8_addBidder_212 : decode cX8_addBidder 212 = .ok (.iconst 1, 1) := by decide +kernel
theorem dX8_addBidder_213 : decode cX8_addBidder 213 = .ok (.iadd, 1) := by decide +kernel
theorem dX8_addBidder_214 : decode cX8_addBidder 214 = .ok (.invokestatic 108, 3) := by decide +kernel
theorem dX8_addBidder_217 : decode cX8_addBidder 217 = .ok (.ldc 111, 2) := by decide +kernel
theorem dX8_addBidder_219 : decode cX8_addBidder 219 = .ok (.imul, 1) := by decide +kernel
theorem dX8_addBidder_220 : decode cX8_addBidder 220 = .ok (.iastore, 1) := by decide +kernel
theorem dX8_addBidder_221 : decode cX8_addBidder 221 = .ok (.aload_n 0, 1) := by decide +kernel
theorem dX8_addBidder_222 : decode cX8_addBidder 222 = .ok (.getfield 43, 3) := by decide +kernel
theorem dX8_addBidder_225 : decode cX8_addBidder 225 = .ok (.iload 4, 2) := by decide +kernel
theorem dX8_addBidder_227 : decode cX8_addBidder 227 = .ok (.iconst 1, 1) := by decide +kernel
theorem dX8_addBidder_228 : decode cX8_addBidder 228 = .ok (.aload_n 0, 1) := by decide +kernel
theorem dX8_addBidder_229 : decode cX8_addBidder 229 = .ok (.getfield 34, 3) := by decide +kernel
theorem dX8_addBidder_232 : decode cX8_addBidder 232 = .ok (.iload 4, 2) := by decide +kernel
theorem dX8_addBidder_234 : decode cX8_addBidder 234 = .ok (.iaload, 1) := by decide +kernel
theorem dX8_addBidder_235 : decode cX8_addBidder 235 = .ok (.ishl, 1) := by decide +kernel
theorem dX8_addBidder_236 : decode cX8_addBidder 236 = .ok (.iastore, 1) := by decide +kernel
theorem dX8_addBidder_237 : decode cX8_addBidder 237 = .ok (.return_, 1) := by decide +kernel
theorem dX8_layPeal_0 : decode cX8_layPeal 0 = .ok (.aload_n 0, 1) := by decide +kernel
theorem dX8_layPeal_1 : decode cX8_layPeal 1 = .ok (.getfield 25, 3) := by decide +kernel
theorem dX8_layPeal_4 : decode cX8_layPeal 4 = .ok (.iload_n 1, 1) := by decide +kernel
theorem dX8_layPeal_5 : decode cX8_layPeal 5 = .ok (.invokestatic 60, 3) := by decide +kernel
theorem dX8_layPeal_8 : decode cX8_layPeal 8 = .ok (.istore_n 2, 1) := by decide +kernel
theorem dX8_layPeal_9 : decode cX8_layPeal 9 = .ok (.aload_n 0, 1) := by decide +kernel
theorem dX8_layPeal_10 : decode cX8_layPeal 10 = .ok (.getfield 28, 3) := by decide +kernel
theorem dX8_layPeal_13 : decode cX8_layPeal 13 = .ok (.iload_n 1, 1) := by decide +kernel
theorem dX8_layPeal_14 : decode cX8_layPeal 14 = .ok (.invokestatic 60, 3) := by decide +kernel
theorem dX8_layPeal_17 : decode cX8_layPeal 17 = .ok (.istore_n 3, 1) := by decide +kernel
theorem dX8_layPeal_18 : decode cX8_layPeal 18 = .ok (.aload_n 0, 1) := by decide +kernel
theorem dX8_layPeal_19 : decode cX8_layPeal 19 = .ok (.getfield 31, 3) := by decide +kernel
theorem dX8_layPeal_22 : decode cX8_layPeal 22 = .ok (.iload_n 1, 1) := by decide +kernel
theorem dX8_layPeal_23 : decode cX8_layPeal 23 = .ok (.invokestatic 60, 3) := by decide +kernel
theorem dX8_layPeal_26 : decode cX8_layPeal 26 = .ok (.istore 4, 2) := by decide +kernel
theorem dX8_layPeal_28 : decode cX8_layPeal 28 = .ok (.aload_n 0, 1) := by decide +kernel
theorem dX8_layPeal_29 : decode cX8_layPeal 29 = .ok (.getfield 18, 3) := by decide +kernel
theorem dX8_layPeal_32 : decode cX8_layPeal 32 = .ok (.iload_n 2, 1) := by decide +kernel
theorem dX8_layPeal_33 : decode cX8_layPeal 33 = .ok (.invokestatic 60, 3) := by decide +kernel
theorem dX8_layPeal_36 : decode cX8_layPeal 36 = .ok (.istore 5, 2) := by decide +kernel
theorem dX8_layPeal_38 : decode cX8_layPeal 38 = .ok (.aload_n 0, 1) := by decide +kernel
theorem dX8_layPeal_39 : decode cX8_layPeal 39 = .ok (.getfield 22, 3) := by decide +kernel
theorem dX8_layPeal_42 : decode cX8_layPeal 42 = .ok (.iload_n 2, 1) := by decide +kernel
theorem dX8_layPeal_43 : decode cX8_layPeal 43 = .ok (.invokestatic 60, 3) := by decide +kernel
theorem dX8_layPeal_46 : decode cX8_layPeal 46 = .ok (.istore 6, 2) := by decide +kernel
theorem dX8_layPeal_48 : decode cX8_layPeal 48 = .ok (.iload_n 3, 1) := by decide +kernel
theorem dX8_layPeal_49 : decode cX8_layPeal 49 = .ok (.iload 5, 2) := by decide +kernel
theorem dX8_layPeal_51 : decode cX8_layPeal 51 = .ok (.imul, 1) := by decide +kernel
theorem dX8_layPeal_52 : decode cX8_layPeal 52 = .ok (.iload_n 3, 1) := by decide +kernel
theorem dX8_layPeal_53 : decode cX8_layPeal 53 = .ok (.iconst 1, 1) := by decide +kernel
theorem dX8_layPeal_54 : decode cX8_layPeal 54 = .ok (.isub, 1) := by decide +kernel
theorem dX8_layPeal_55 : decode cX8_layPeal 55 = .ok (.iload 4, 2) := by decide +kernel
theorem dX8_layPeal_57 : decode cX8_layPeal 57 = .ok (.imul, 1) := by decide +kernel
theorem dX8_layPeal_58 : decode cX8_layPeal 58 = .ok (.iadd, 1) := by decide +kernel
theorem dX8_layPeal_59 : decode cX8_layPeal 59 = .ok (.istore 7, 2) := by decide +kernel
theorem dX8_layPeal_61 : decode cX8_layPeal 61 = .ok (.iload_n 3, 1) := by decide +kernel
theorem dX8_layPeal_62 : decode cX8_layPeal 62 = .ok (.iconst 1, 1) := by decide +kernel
theorem dX8_layPeal_63 : decode cX8_layPeal 63 = .ok (.if_icmp .le 15, 3) := by decide +kernel
theorem dX8_layPeal_66 : decode cX8_layPeal 66 = .ok (.iload 4, 2) := by decide +kernel
theorem dX8_layPeal_68 : decode cX8_layPeal 68 = .ok (.iload 6, 2) := by decide +kernel
theorem dX8_layPeal_70 : decode cX8_layPeal 70 = .ok (.if_icmp .ge 8, 3) := by decide +kernel
theorem dX8_layPeal_73 : decode cX8_layPeal 73 = .ok (.bipush (-9), 2) := by decide +kernel
theorem dX8_layPeal_75 : decode cX8_layPeal 75 = .ok (.goto 16, 3) := by decide +kernel
theorem dX8_layPeal_78 : decode cX8_layPeal 78 = .ok (.aload_n 0, 1) := by decide +kernel
theorem dX8_layPeal_79 : decode cX8_layPeal 79 = .ok (.getfield 37, 3) := by decide +kernel
theorem dX8_layPeal_82 : decode cX8_layPeal 82 = .ok (.iload_n 1, 1) := by decide +kernel
theorem dX8_layPeal_83 : decode cX8_layPeal 83 = .ok (.invokestatic 60, 3) := by decide +kernel
theorem dX8_layPeal_86 : decode cX8_layPeal 86 = .ok (.iconst 1, 1) := by decide +kernel
theorem dX8_layPeal_87 : decode cX8_layPeal 87 = .ok (.iadd, 1) := by decide +kernel
theorem dX8_layPeal_88 : decode cX8_layPeal 88 = .ok (.iload 7, 2) := by decide +kernel
theorem dX8_layPeal_90 : decode cX8_layPeal 90 = .ok (.isub, 1) := by decide +kernel
theorem dX8_layPeal_91 : decode cX8_layPeal 91 = .ok (.istore 8, 2) := by decide +kernel
theorem dX8_layPeal_93 : decode cX8_layPeal 93 = .ok (.iconst 0, 1) := by decide +kernel
theorem dX8_layPeal_94 : decode cX8_layPeal 94 = .ok (.istore 9, 2) := by decide +kernel
theorem dX8_layPeal_96 : decode cX8_layPeal 96 = .ok (.aload_n 0, 1) := by decide +kernel
theorem dX8_layPeal_97 : decode cX8_layPeal 97 = .ok (.getfield 34, 3) := by decide +kernel
theorem dX8_layPeal_100 : decode cX8_layPeal 100 = .ok (.iload_n 1, 1) := by decide +kernel
theorem dX8_layPeal_101 : decode cX8_layPeal 101 = .ok (.invokestatic 60, 3) := by decide +kernel
theorem dX8_layPeal_104 : decode cX8_layPeal 104 = .ok (.istore 10, 2) := by decide +kernel
theorem dX8_layPeal_106 : decode cX8_layPeal 106 = .ok (.iload 10, 2) := by decide +kernel
theorem dX8_layPeal_108 : decode cX8_layPeal 108 = .ok (.iload 8, 2) := by decide +kernel
theorem dX8_layPeal_110 : decode cX8_layPeal 110 = .ok (.if_icmp .gt 113, 3) := by decide +kernel
theorem dX8_layPeal_113 : decode cX8_layPeal 113 = .ok (.iload 10, 2) := by decide +kernel
theorem dX8_layPeal_115 : decode cX8_layPeal 115 = .ok (.bipush 10, 2) := by decide +kernel
theorem dX8_layPeal_117 : decode cX8_layPeal 117 = .ok (.if_icmp .ge 106, 3) := by decide +kernel
theorem dX8_layPeal_120 : decode cX8_layPeal 120 = .ok (.iconst 0, 1) := by decide +kernel
theorem dX8_layPeal_121 : decode cX8_layPeal 121 = .ok (.istore 11, 2) := by decide +kernel
theorem dX8_layPeal_123 : decode cX8_layPeal 123 = .ok (.iconst 0, 1) := by decide +kernel
theorem dX8_layPeal_124 : decode cX8_layPeal 124 = .ok (.istore 12, 2) := by decide +kernel
theorem dX8_layPeal_126 : decode cX8_layPeal 126 = .ok (.iconst 0, 1) := by decide +kernel
theorem dX8_layPeal_127 : decode cX8_layPeal 127 = .ok (.istore 13, 2) := by decide +kernel
theorem dX8_layPeal_129 : decode cX8_layPeal 129 = .ok (.iload 13, 2) := by decide +kernel
theorem dX8_layPeal_131 : decode cX8_layPeal 131 = .ok (.iload_n 3, 1) := by decide +kernel
theorem dX8_layPeal_132 : decode cX8_layPeal 132 = .ok (.if_icmp .ge 54, 3) := by decide +kernel
theorem dX8_layPeal_135 : decode cX8_layPeal 135 = .ok (.iload 11, 2) := by decide +kernel
theorem dX8_layPeal_137 : decode cX8_layPeal 137 = .ok (.iload 10, 2) := by decide +kernel
theorem dX8_layPeal_139 : decode cX8_layPeal 139 = .ok (.iload 13, 2) := by decide +kernel
theorem dX8_layPeal_141 : decode cX8_layPeal 141 = .ok (.iload 5, 2) := by decide +kernel
theorem dX8_layPeal_143 : decode cX8_layPeal 143 = .ok (.iload 4, 2) := by decide +kernel
theorem dX8_layPeal_145 : decode cX8_layPeal 145 = .ok (.iadd, 1) := by decide +kernel
theorem dX8_layPeal_146 : decode cX8_layPeal 146 = .ok (.imul, 1) := by decide +kernel
theorem dX8_layPeal_147 : decode cX8_layPeal 147 = .ok (.iadd, 1) := by decide +kernel
theorem dX8_layPeal_148 : decode cX8_layPeal 148 = .ok (.iload 5, 2) := by decide +kernel
theorem dX8_layPeal_150 : decode cX8_layPeal 150 = .ok (.invokestatic 108, 3) := by decide +kernel
theorem dX8_layPeal_153 : decode cX8_layPeal 153 = .ok (.ior, 1) := by decide +kernel
theorem dX8_layPeal_154 : decode cX8_layPeal 154 = .ok (.istore 11, 2) := by decide +kernel
theorem dX8_layPeal_156 : decode cX8_layPeal 156 = .ok (.iload 12, 2) := by decide +kernel
theorem dX8_layPeal_158 : decode cX8_layPeal 158 = .ok (.iload 10, 2) := by decide +kernel
theorem dX8_layPeal_160 : decode cX8_layPeal 160 = .ok (.iload 13, 2) := by decide +kernel
theorem dX8_layPeal_162 : decode cX8_layPeal 162 = .ok (.iload 5, 2) := by decide +kernel
theorem dX8_layPeal_164 : decode cX8_layPeal 164 = .ok (.iload 4, 2) := by decide +kernel
theorem dX8_layPeal_166 : decode cX8_layPeal 166 = .ok (.iadd, 1) := by decide +kernel
theorem dX8_layPeal_167 : decode cX8_layPeal 167 = .ok (.imul, 1) := by decide +kernel
theorem dX8_layPeal_168 : decode cX8_layPeal 168 = .ok (.iadd, 1) := by decide +kernel
theorem dX8_layPeal_169 : decode cX8_layPeal 169 = .ok (.iload 5, 2) := by decide +kernel
theorem dX8_layPeal_171 : decode cX8_layPeal 171 = .ok (.iload 6, 2) := by decide +kernel
theorem dX8_layPeal_173 : decode cX8_layPeal 173 = .ok (.iadd, 1) := by decide +kernel
theorem dX8_layPeal_174 : decode cX8_layPeal 174 = .ok (.invokestatic 108, 3) := by decide +kernel
theorem dX8_layPeal_177 : decode cX8_layPeal 177 = .ok (.ior, 1) := by decide +kernel
theorem dX8_layPeal_178 : decode cX8_layPeal 178 = .ok (.istore 12, 2) := by decide +kernel
theorem dX8_layPeal_180 : decode cX8_layPeal 180 = .ok (.iinc 13 1, 3) := by decide +kernel
theorem dX8_layPeal_183 : decode cX8_layPeal 183 = .ok (.goto (-54), 3) := by decide +kernel
theorem dX8_layPeal_186 : decode cX8_layPeal 186 = .ok (.aload_n 0, 1) := by decide +kernel
theorem dX8_layPeal_187 : decode cX8_layPeal 187 = .ok (.iload_n 1, 1) := by decide +kernel
theorem dX8_layPeal_188 : decode cX8_layPeal 188 = .ok (.iload 10, 2) := by decide +kernel
theorem dX8_layPeal_190 : decode cX8_layPeal 190 = .ok (.iload 12, 2) := by decide +kernel
theorem dX8_layPeal_192 : decode cX8_layPeal 192 = .ok (.i2l, 1) := by decide +kernel
theorem dX8_layPeal_193 : decode cX8_layPeal 193 = .ok (.bipush 12, 2) := by decide +kernel
theorem dX8_layPeal_195 : decode cX8_layPeal 195 = .ok (.iload_n 2, 1) := by decide +kernel
theorem dX8_layPeal_196 : decode cX8_layPeal 196 = .ok (.imul, 1) := by decide +kernel
theorem dX8_layPeal_197 : decode cX8_layPeal 197 = .ok (.lshl, 1) := by decide +kernel
theorem dX8_layPeal_198 : decode cX8_layPeal 198 = .ok (.iload 11, 2) := by decide +kernel
theorem dX8_layPeal_200 : decode cX8_layPeal 200 = .ok (.bipush 10, 2) := by decide +kernel
theorem dX8_layPeal_202 : decode cX8_layPeal 202 = .ok (.iload_n 2, 1) := by decide +kernel
theorem dX8_layPeal_203 : decode cX8_layPeal 203 = .ok (.imul, 1) := by decide +kernel
theorem dX8_layPeal_204 : decode cX8_layPeal 204 = .ok (.ishl, 1) := by decide +kernel
theorem dX8_layPeal_205 : decode cX8_layPeal 205 = .ok (.invokevirtual 100, 3) := by decide +kernel
theorem dX8_layPeal_208 : decode cX8_layPeal 208 = .ok (.iload 9, 2) := by decide +kernel
theorem dX8_layPeal_210 : decode cX8_layPeal 210 = .ok (.iconst 1, 1) := by decide +kernel
theorem dX8_layPeal_211 : decode cX8_layPeal 211 = .ok (.iload 10, 2) := by decide +kernel
theorem dX8_layPeal_213 : decode cX8_layPeal 213 = .ok (.ishl, 1) := by decide +kernel
theorem dX8_layPeal_214 : decode cX8_layPeal 214 = .ok (.ior, 1) := by decide +kernel
theorem dX8_layPeal_215 : decode cX8_layPeal 215 = .ok (.istore 9, 2) := by decide +kernel
theorem dX8_layPeal_217 : decode cX8_layPeal 217 = .ok (.iinc 10 1, 3) := by decide +kernel
theorem dX8_layPeal_220 : decode cX8_layPeal 220 = .ok (.goto (-114), 3) := by decide +kernel
theorem dX8_layPeal_223 : decode cX8_layPeal 223 = .ok (.aload_n 0, 1) := by decide +kernel
theorem dX8_layPeal_224 : decode cX8_layPeal 224 = .ok (.getfield 43, 3) := by decide +kernel
theorem dX8_layPeal_227 : decode cX8_layPeal 227 = .ok (.iload_n 1, 1) := by decide +kernel
theorem dX8_layPeal_228 : decode cX8_layPeal 228 = .ok (.iload 9, 2) := by decide +kernel
theorem dX8_layPeal_230 : decode cX8_layPeal 230 = .ok (.iastore, 1) := by decide +kernel
theorem dX8_layPeal_231 : decode cX8_layPeal 231 = .ok (.return_, 1) := by decide +kernel
theorem dX8_layPlace_0 : decode cX8_layPlace 0 = .ok (.iload_n 1, 1) := by decide +kernel
theorem dX8_layPlace_1 : decode cX8_layPlace 1 = .ok (.ifCond .lt 43, 3) := by decide +kernel
theorem dX8_layPlace_4 : decode cX8_layPlace 4 = .ok (.iload_n 1, 1) := by decide +kernel
theorem dX8_layPlace_5 : decode cX8_layPlace 5 = .ok (.iconst 5, 1) := by decide +kernel
theorem dX8_layPlace_6 : decode cX8_layPlace 6 = .ok (.if_icmp .ge 38, 3) := by decide +kernel
theorem dX8_layPlace_9 : decode cX8_layPlace 9 = .ok (.iload_n 2, 1) := by decide +kernel
theorem dX8_layPlace_10 : decode cX8_layPlace 10 = .ok (.ifCond .lt 34, 3) := by decide +kernel
theorem dX8_layPlace_13 : decode cX8_layPlace 13 = .ok (.iload_n 2, 1) := by decide +kernel
theorem dX8_layPlace_14 : decode cX8_layPlace 14 = .ok (.bipush 10, 2) := by decide +kernel
theorem dX8_layPlace_16 : decode cX8_layPlace 16 = .ok (.if_icmp .ge 28, 3) := by decide +kernel
theorem dX8_layPlace_19 : decode cX8_layPlace 19 = .ok (.aload_n 0, 1) := by decide +kernel
theorem dX8_layPlace_20 : decode cX8_layPlace 20 = .ok (.getfield 49, 3) := by decide +kernel
theorem dX8_layPlace_23 : decode cX8_layPlace 23 = .ok (.bipush 10, 2) := by decide +kernel
theorem dX8_layPlace_25 : decode cX8_layPlace 25 = .ok (.iload_n 1, 1) := by decide +kernel
theorem dX8_layPlace_26 : decode cX8_layPlace 26 = .ok (.imul, 1) := by decide +kernel
theorem dX8_layPlace_27 : decode cX8_layPlace 27 = .ok (.iload_n 2, 1) := by decide +kernel
theorem dX8_layPlace_28 : decode cX8_layPlace 28 = .ok (.iadd, 1) := by decide +kernel
theorem dX8_layPlace_29 : decode cX8_layPlace 29 = .ok (.lload_n 3, 1) := by decide +kernel
theorem dX8_layPlace_30 : decode cX8_layPlace 30 = .ok (.lastore, 1) := by decide +kernel
theorem dX8_layPlace_31 : decode cX8_layPlace 31 = .ok (.aload_n 0, 1) := by decide +kernel
theorem dX8_layPlace_32 : decode cX8_layPlace 32 = .ok (.getfield 53, 3) := by decide +kernel
theorem dX8_layPlace_35 : decode cX8_layPlace 35 = .ok (.bipush 10, 2) := by decide +kernel
theorem dX8_layPlace_37 : decode cX8_layPlace 37 = .ok (.iload_n 1, 1) := by decide +kernel
theorem dX8_layPlace_38 : decode cX8_layPlace 38 = .ok (.imul, 1) := by decide +kernel
theorem dX8_layPlace_39 : decode cX8_layPlace 39 = .ok (.iload_n 2, 1) := by decide +kernel
theorem dX8_layPlace_40 : decode cX8_layPlace 40 = .ok (.iadd, 1) := by decide +kernel
theorem dX8_layPlace_41 : decode cX8_layPlace 41 = .ok (.iload 5, 2) := by decide +kernel
theorem dX8_layPlace_43 : decode cX8_layPlace 43 = .ok (.iastore, 1) := by decide +kernel
theorem dX8_layPlace_44 : decode cX8_layPlace 44 = .ok (.return_, 1) := by decide +kernel
theorem dX8_clash_0 : decode cX8_clash 0 = .ok (.aload_n 0, 1) := by decide +kernel
theorem dX8_clash_1 : decode cX8_clash 1 = .ok (.iload_n 1, 1) := by decide +kernel
theorem dX8_clash_2 : decode cX8_clash 2 = .ok (.iload_n 2, 1) := by decide +kernel
theorem dX8_clash_3 : decode cX8_clash 3 = .ok (.invokevirtual 112, 3) := by decide +kernel
theorem dX8_clash_6 : decode cX8_clash 6 = .ok (.aload_n 0, 1) := by decide +kernel
theorem dX8_clash_7 : decode cX8_clash 7 = .ok (.iload_n 3, 1) := by decide +kernel
theorem dX8_clash_8 : decode cX8_clash 8 = .ok (.iload 4, 2) := by decide +kernel
theorem dX8_clash_10 : decode cX8_clash 10 = .ok (.invokevirtual 112, 3) := by decide +kernel
theorem dX8_clash_13 : decode cX8_clash 13 = .ok (.land, 1) := by decide +kernel
theorem dX8_clash_14 : decode cX8_clash 14 = .ok (.lconst 0, 1) := by decide +kernel
theorem dX8_clash_15 : decode cX8_clash 15 = .ok (.lcmp, 1) := by decide +kernel
theorem dX8_clash_16 : decode cX8_clash 16 = .ok (.ifCond .ne 34, 3) := by decide +kernel
theorem dX8_clash_19 : decode cX8_clash 19 = .ok (.aload_n 0, 1) := by decide +kernel
theorem dX8_clash_20 : decode cX8_clash 20 = .ok (.iload_n 1, 1) := by decide +kernel
theorem dX8_clash_21 : decode cX8_clash 21 = .ok (.iload_n 2, 1) := by decide +kernel
theorem dX8_clash_22 : decode cX8_clash 22 = .ok (.invokevirtual 71, 3) := by decide +kernel
theorem dX8_clash_25 : decode cX8_clash 25 = .ok (.aload_n 0, 1) := by decide +kernel
theorem dX8_clash_26 : decode cX8_clash 26 = .ok (.iload_n 3, 1) := by decide +kernel
theorem dX8_clash_27 : decode cX8_clash 27 = .ok (.invokevirtual 64, 3) := by decide +kernel
theorem dX8_clash_30 : decode cX8_clash 30 = .ok (.iand, 1) := by decide +kernel
theorem dX8_clash_31 : decode cX8_clash 31 = .ok (.ifCond .ne 19, 3) := by decide +kernel
theorem dX8_clash_34 : decode cX8_clash 34 = .ok (.aload_n 0, 1) := by decide +kernel
theorem dX8_clash_35 : decode cX8_clash 35 = .ok (.iload_n 3, 1) := by decide +kernel
theorem dX8_clash_36 : decode cX8_clash 36 = .ok (.iload 4, 2) := by decide +kernel
theorem dX8_clash_38 : decode cX8_clash 38 = .ok (.invokevirtual 71, 3) := by decide +kernel
theorem dX8_clash_41 : decode cX8_clash 41 = .ok (.aload_n 0, 1) := by decide +kernel
theorem dX8_clash_42 : decode cX8_clash 42 = .ok (.iload_n 1, 1) := by decide +kernel
theorem dX8_clash_43 : decode cX8_clash 43 = .ok (.invokevirtual 64, 3) := by decide +kernel
theorem dX8_clash_46 : decode cX8_clash 46 = .ok (.iand, 1) := by decide +kernel
theorem dX8_clash_47 : decode cX8_clash 47 = .ok (.ifCond .eq 7, 3) := by decide +kernel
theorem dX8_clash_50 : decode cX8_clash 50 = .ok (.iconst 1, 1) := by decide +kernel
theorem dX8_clash_51 : decode cX8_clash 51 = .ok (.goto 4, 3) := by decide +kernel
theorem dX8_clash_54 : decode cX8_clash 54 = .ok (.iconst 0, 1) := by decide +kernel
theorem dX8_clash_55 : decode cX8_clash 55 = .ok (.ireturn, 1) := by decide +kernel
end
section
theorem dX9_init_0 : decode cX9_init 0 = .ok (.aload_n 0, 1) := by decide +kernel
theorem dX9_init_1 : decode cX9_init 1 = .ok (.invokespecial 1, 3) := by decide +kernel
theorem dX9_init_4 : decode cX9_init 4 = .ok (.aload_n 0, 1) := by decide +kernel
theorem dX9_init_5 : decode cX9_init 5 = .ok (.new 7, 3) := by decide +kernel
theorem dX9_init_8 : decode cX9_init 8 = .ok (.dup, 1) := by decide +kernel
theorem dX9_init_9 : decode cX9_init 9 = .ok (.invokespecial 9, 3) := by decide +kernel
theorem dX9_init_12 : decode cX9_init 12 = .ok (.putfield 10, 3) := by decide +kernel
theorem dX9_init_15 : decode cX9_init 15 = .ok (.aload_n 0, 1) := by decide +kernel
theorem dX9_init_16 : decode cX9_init 16 = .ok (.new 16, 3) := by decide +kernel
theorem dX9_init_19 : decode cX9_init 19 = .ok (.dup, 1) := by decide +kernel
theorem dX9_init_20 : decode cX9_init 20 = .ok (.invokespecial 18, 3) := by decide +kernel
theorem dX9_init_23 : decode cX9_init 23 = .ok (.putfield 19, 3) := by decide +kernel
theorem dX9_init_26 : decode cX9_init 26 = .ok (.aload_n 0, 1) := by decide +kernel
theorem dX9_init_27 : decode cX9_init 27 = .ok (.new 23, 3) := by decide +kernel
theorem dX9_init_30 : decode cX9_init 30 = .ok (.dup, 1) := by decide +kernel
theorem dX9_init_31 : decode cX9_init 31 = .ok (.aload_n 0, 1) := by decide +kernel
theorem dX9_init_32 : decode cX9_init 32 = .ok (.getfield 19, 3) := by decide +kernel
theorem dX9_init_35 : decode cX9_init 35 = .ok (.invokespecial 25, 3) := by decide +kernel
theorem dX9_init_38 : decode cX9_init 38 = .ok (.putfield 28, 3) := by decide +kernel
theorem dX9_init_41 : decode cX9_init 41 = .ok (.aload_n 0, 1) := by decide +kernel
theorem dX9_init_42 : decode cX9_init 42 = .ok (.new 23, 3) := by decide +kernel
theorem dX9_init_45 : decode cX9_init 45 = .ok (.dup, 1) := by decide +kernel
theorem dX9_init_46 : decode cX9_init 46 = .ok (.aload_n 0, 1) := by decide +kernel
theorem dX9_init_47 : decode cX9_init 47 = .ok (.getfield 19, 3) := by decide +kernel
theorem dX9_init_50 : decode cX9_init 50 = .ok (.invokespecial 25, 3) := by decide +kernel
theorem dX9_init_53 : decode cX9_init 53 = .ok (.putfield 32, 3) := by decide +kernel
theorem dX9_init_56 : decode cX9_init 56 = .ok (.aload_n 0, 1) := by decide +kernel
theorem dX9_init_57 : decode cX9_init 57 = .ok (.new 35, 3) := by decide +kernel
theorem dX9_init_60 : decode cX9_init 60 = .ok (.dup, 1) := by decide +kernel
theorem dX9_init_61 : decode cX9_init 61 = .ok (.aload_n 0, 1) := by decide +kernel
theorem dX9_init_62 : decode cX9_init 62 = .ok (.getfield 19, 3) := by decide +kernel
theorem dX9_init_65 : decode cX9_init 65 = .ok (.invokespecial 37, 3) := by decide +kernel
theorem dX9_init_68 : decode cX9_init 68 = .ok (.putfield 38, 3) := by decide +kernel
theorem dX9_init_71 : decode cX9_init 71 = .ok (.aload_n 0, 1) := by decide +kernel
theorem dX9_init_72 : decode cX9_init 72 = .ok (.new 35, 3) := by decide +kernel
theorem dX9_init_75 : decode cX9_init 75 = .ok (.dup, 1) := by decide +kernel
theorem dX9_init_76 : decode cX9_init 76 = .ok (.aload_n 0, 1) := by decide +kernel
theorem dX9_init_77 : decode cX9_init 77 = .ok (.getfield 19, 3) := by decide +kernel
theorem dX9_init_80 : decode cX9_init 80 = .ok (.invokespecial 37, 3) := by decide +kernel
theorem dX9_init_83 : decode cX9_init 83 = .ok (.putfield 42, 3) := by decide +kernel
theorem dX9_init_86 : decode cX9_init 86 = .ok (.aload_n 0, 1) := by decide +kernel
theorem dX9_init_87 : decode cX9_init 87 = .ok (.new 45, 3) := by decide +kernel
theorem dX9_init_90 : decode cX9_init 90 = .ok (.dup, 1) := by decide +kernel
theorem dX9_init_91 : decode cX9_init 91 = .ok (.invokespecial 47, 3) := by decide +kernel
theorem dX9_init_94 : decode cX9_init 94 = .ok (.putfield 48, 3) := by decide +kernel
theorem dX9_init_97 : decode cX9_init 97 = .ok (.aload_n 0, 1) := by decide +kernel
theorem dX9_init_98 : decode cX9_init 98 = .ok (.new 52, 3) := by decide +kernel
theorem dX9_init_101 : decode cX9_init 101 = .ok (.dup, 1) := by decide +kernel
theorem dX9_init_102 : decode cX9_init 102 = .ok (.aload_n 0, 1) := by decide +kernel
theorem dX9_init_103 : decode cX9_init 103 = .ok (.getfield 19, 3) := by decide +kernel
theorem dX9_init_106 : decode cX9_init 106 = .ok (.invokespecial 54, 3) := by decide +kernel
theorem dX9_init_109 : decode cX9_init 109 = .ok (.putfield 55, 3) := by decide +kernel
theorem dX9_init_112 : decode cX9_init 112 = .ok (.aload_n 0, 1) := by decide +kernel
theorem dX9_init_113 : decode cX9_init 113 = .ok (.new 59, 3) := by decide +kernel
theorem dX9_init_116 : decode cX9_init 116 = .ok (.dup, 1) := by decide +kernel
theorem dX9_init_117 : decode cX9_init 117 = .ok (.invokespecial 61, 3) := by decide +kernel
theorem dX9_init_120 : decode cX9_init 120 = .ok (.putfield 62, 3) := by decide +kernel
theorem dX9_init_123 : decode cX9_init 123 = .ok (.aload_n 0, 1) := by decide +kernel
theorem dX9_init_124 : decode cX9_init 124 = .ok (.new 66, 3) := by decide +kernel
theorem dX9_init_127 : decode cX9_init 127 = .ok (.dup, 1) := by decide +kernel
theorem dX9_init_128 : decode cX9_init 128 = .ok (.aload_n 0, 1) := by decide +kernel
theorem dX9_init_129 : decode cX9_init 129 = .ok (.getfield 19, 3) := by decide +kernel
theorem dX9_init_132 : decode cX9_init 132 = .ok (.invokespecial 68, 3) := by decide +kernel
theorem dX9_init_135 : decode cX9_init 135 = .ok (.putfield 69, 3) := by decide +kernel
theorem dX9_init_138 : decode cX9_init 138 = .ok (.aload_n 0, 1) := by decide +kernel
theorem dX9_init_139 : decode cX9_init 139 = .ok (.new 73, 3) := by decide +kernel
theorem dX9_init_142 : decode cX9_init 142 = .ok (.dup, 1) := by decide +kernel
theorem dX9_init_143 : decode cX9_init 143 = .ok (.aload_n 0, 1) := by decide +kernel
theorem dX9_init_144 : decode cX9_init 144 = .ok (.getfield 19, 3) := by decide +kernel
theorem dX9_init_147 : decode cX9_init 147 = .ok (.invokespecial 75, 3) := by decide +kernel
theorem dX9_init_150 : decode cX9_init 150 = .ok (.putfield 76, 3) := by decide +kernel
theorem dX9_init_153 : decode cX9_init 153 = .ok (.aload_n 0, 1) := by decide +kernel
theorem dX9_init_154 : decode cX9_init 154 = .ok (.iconst 5, 1) := by decide +kernel
theorem dX9_init_155 : decode cX9_init 155 = .ok (.newarray .int, 2) := by decide +kernel
theorem dX9_init_157 : decode cX9_init 157 = .ok (.putfield 80, 3) := by decide +kernel
theorem dX9_init_160 : decode cX9_init 160 = .ok (.aload_n 0, 1) := by decide +kernel
theorem dX9_init_161 : decode cX9_init 161 = .ok (.lconst 0, 1) := by decide +kernel
theorem dX9_init_162 : decode cX9_init 162 = .ok (.putfield 84, 3) := by decide +kernel
theorem dX9_init_165 : decode cX9_init 165 = .ok (.return_, 1) := by decide +kernel
theorem dX9_write_0 : decode cX9_write 0 = .ok (.iload_n 1, 1) := by decide +kernel
theorem dX9_write_1 : decode cX9_write 1 = .ok (.ifCond .lt 10, 3) := by decide +kernel
theorem dX9_write_4 : decode cX9_write 4 = .ok (.iload_n 1, 1) := by decide +kernel
theorem dX9_write_5 : decode cX9_write 5 = .ok (.sipush 255, 3) := by decide +kernel
theorem dX9_write_8 : decode cX9_write 8 = .ok (.if_icmp .le 6, 3) := by decide +kernel
theorem dX9_write_11 : decode cX9_write 11 = .ok (.bipush (-2), 2) := by decide +kernel
theorem dX9_write_13 : decode cX9_write 13 = .ok (.ireturn, 1) := by decide +kernel
theorem dX9_write_14 : decode cX9_write 14 = .ok (.aload_n 0, 1) := by decide +kernel
theorem dX9_write_15 : decode cX9_write 15 = .ok (.getfield 10, 3) := by decide +kernel
theorem dX9_write_18 : decode cX9_write 18 = .ok (.iload_n 1, 1) := by decide +kernel
theorem dX9_write_19 : decode cX9_write 19 = .ok (.invokevirtual 88, 3) := by decide +kernel
theorem dX9_write_22 : decode cX9_write 22 = .ok (.ireturn, 1) := by decide +kernel
theorem dX9_wipe_0 : decode cX9_wipe 0 = .ok (.aload_n 0, 1) := by decide +kernel
theorem dX9_wipe_1 : decode cX9_wipe 1 = .ok (.getfield 10, 3) := by decide +kernel
theorem dX9_wipe_4 : decode cX9_wipe 4 = .ok (.invokevirtual 92, 3) := by decide +kernel
theorem dX9_wipe_7 : decode cX9_wipe 7 = .ok (.ireturn, 1) := by decide +kernel
theorem dX9_fault_0 : decode cX9_fault 0 = .ok (.aload_n 0, 1) := by decide +kernel
theorem dX9_fault_1 : decode cX9_fault 1 = .ok (.getfield 10, 3) := by decide +kernel
theorem dX9_fault_4 : decode cX9_fault 4 = .ok (.invokevirtual 96, 3) := by decide +kernel
theorem dX9_fault_7 : decode cX9_fault 7 = .ok (.ireturn, 1) := by decide +kernel
theorem dX9_tower_0 : decode cX9_tower 0 = .ok (.aload_n 0, 1) := by decide +kernel
theorem dX9_tower_1 : decode cX9_tower 1 = .ok (.getfield 10, 3) := by decide +kernel
theorem dX9_tower_4 : decode cX9_tower 4 = .ok (.invokevirtual 96, 3) := by decide +kernel
theorem dX9_tower_7 : decode cX9_tower 7 = .ok (.bipush (-9), 2) := by decide +kernel
theorem dX9_tower_9 : decode cX9_tower 9 = .ok (.if_icmp .eq 6, 3) := by decide +kernel
theorem dX9_tower_12 : decode cX9_tower 12 = .ok (.bipush (-3), 2) := by decide +kernel
theorem dX9_tower_14 : decode cX9_tower 14 = .ok (.ireturn, 1) := by decide +kernel
theorem dX9_tower_15 : decode cX9_tower 15 = .ok (.aload_n 0, 1) := by decide +kernel
theorem dX9_tower_16 : decode cX9_tower 16 = .ok (.getfield 19, 3) := by decide +kernel
theorem dX9_tower_19 : decode cX9_tower 19 = .ok (.aload_n 0, 1) := by decide +kernel
theorem dX9_tower_20 : decode cX9_tower 20 = .ok (.getfield 10, 3) := by decide +kernel
theorem dX9_tower_23 : decode cX9_tower 23 = .ok (.invokevirtual 99, 3) := by decide +kernel
theorem dX9_tower_26 : decode cX9_tower 26 = .ok (.aload_n 0, 1) := by decide +kernel
theorem dX9_tower_27 : decode cX9_tower 27 = .ok (.getfield 28, 3) := by decide +kernel
theorem dX9_tower_30 : decode cX9_tower 30 = .ok (.invokevirtual 103, 3) := by decide +kernel
theorem dX9_tower_33 : decode cX9_tower 33 = .ok (.aload_n 0, 1) := by decide +kernel
theorem dX9_tower_34 : decode cX9_tower 34 = .ok (.getfield 48, 3) := by decide +kernel
theorem dX9_tower_37 : decode cX9_tower 37 = .ok (.invokevirtual 105, 3) := by decide +kernel
theorem dX9_tower_40 : decode cX9_tower 40 = .ok (.aload_n 0, 1) := by decide +kernel
theorem dX9_tower_41 : decode cX9_tower 41 = .ok (.getfield 38, 3) := by decide +kernel
theorem dX9_tower_44 : decode cX9_tower 44 = .ok (.invokevirtual 106, 3) := by decide +kernel
theorem dX9_tower_47 : decode cX9_tower 47 = .ok (.aload_n 0, 1) := by decide +kernel
theorem dX9_tower_48 : decode cX9_tower 48 = .ok (.getfield 42, 3) := by decide +kernel
theorem dX9_tower_51 : decode cX9_tower 51 = .ok (.invokevirtual 106, 3) := by decide +kernel
theorem dX9_tower_54 : decode cX9_tower 54 = .ok (.bipush 10, 2) := by decide +kernel
theorem dX9_tower_56 : decode cX9_tower 56 = .ok (.aload_n 0, 1) := by decide +kernel
theorem dX9_tower_57 : decode cX9_tower 57 = .ok (.getfield 19, 3) := by decide +kernel
theorem dX9_tower_60 : decode cX9_tower 60 = .ok (.getfield 109, 3) := by decide +kernel
theorem dX9_tower_63 : decode cX9_tower 63 = .ok (.imul, 1) := by decide +kernel
theorem dX9_tower_64 : decode cX9_tower 64 = .ok (.aload_n 0, 1) := by decide +kernel
theorem dX9_tower_65 : decode cX9_tower 65 = .ok (.getfield 19, 3) := by decide +kernel
theorem dX9_tower_68 : decode cX9_tower 68 = .ok (.getfield 113, 3) := by decide +kernel
theorem dX9_tower_71 : decode cX9_tower 71 = .ok (.iadd, 1) := by decide +kernel
theorem dX9_tower_72 : decode cX9_tower 72 = .ok (.ireturn, 1) := by decide +kernel
theorem dX9_bell_0 : decode cX9_bell 0 = .ok (.aload_n 0, 1) := by decide +kernel
theorem dX9_bell_1 : decode cX9_bell 1 = .ok (.getfield 19, 3) := by decide +kernel
theorem dX9_bell_4 : decode cX9_bell 4 = .ok (.iload_n 1, 1) := by decide +kernel
theorem dX9_bell_5 : decode cX9_bell 5 = .ok (.invokevirtual 116, 3) := by decide +kernel
theorem dX9_bell_8 : decode cX9_bell 8 = .ok (.ifCond .ne 5, 3) := by decide +kernel
theorem dX9_bell_11 : decode cX9_bell 11 = .ok (.iconst (-1), 1) := by decide +kernel
theorem dX9_bell_12 : decode cX9_bell 12 = .ok (.ireturn, 1) := by decide +kernel
theorem dX9_bell_13 : decode cX9_bell 13 = .ok (.iload_n 2, 1) := by decide +kernel
theorem dX9_bell_14 : decode cX9_bell 14 = .ok (.tableswitch 62 0 2 #[26, 38, 50], 26) := by decide +kernel
theorem dX9_bell_40 : decode cX9_bell 40 = .ok (.aload_n 0, 1) := by decide +kernel
theorem dX9_bell_41 : decode cX9_bell 41 = .ok (.getfield 19, 3) := by decide +kernel
theorem dX9_bell_44 : decode cX9_bell 44 = .ok (.getfield 120, 3) := by decide +kernel
theorem dX9_bell_47 : decode cX9_bell 47 = .ok (.iload_n 1, 1) := by decide +kernel
theorem dX9_bell_48 : decode cX9_bell 48 = .ok (.invokestatic 123, 3) := by decide +kernel
theorem dX9_bell_51 : decode cX9_bell 51 = .ok (.ireturn, 1) := by decide +kernel
theorem dX9_bell_52 : decode cX9_bell 52 = .ok (.aload_n 0, 1) := by decide +kernel
theorem dX9_bell_53 : decode cX9_bell 53 = .ok (.getfield 19, 3) := by decide +kernel
theorem dX9_bell_56 : decode cX9_bell 56 = .ok (.getfield 127, 3) := by decide +kernel
theorem dX9_bell_59 : decode cX9_bell 59 = .ok (.iload_n 1, 1) := by decide +kernel
theorem dX9_bell_60 : decode cX9_bell 60 = .ok (.invokestatic 123, 3) := by decide +kernel
theorem dX9_bell_63 : decode cX9_bell 63 = .ok (.ireturn, 1) := by decide +kernel
theorem dX9_bell_64 : decode cX9_bell 64 = .ok (.aload_n 0, 1) := by decide +kernel
theorem dX9_bell_65 : decode cX9_bell 65 = .ok (.getfield 28, 3) := by decide +kernel
theorem dX9_bell_68 : decode cX9_bell 68 = .ok (.invokevirtual 130, 3) := by decide +kernel
theorem dX9_bell_71 : decode cX9_bell 71 = .ok (.iload_n 1, 1) := by decide +kernel
theorem dX9_bell_72 : decode cX9_bell 72 = .ok (.invokestatic 133, 3) := by decide +kernel
theorem dX9_bell_75 : decode cX9_bell 75 = .ok (.ireturn, 1) := by decide +kernel
theorem dX9_bell_76 : decode cX9_bell 76 = .ok (.bipush (-2), 2) := by decide +kernel
theorem dX9_bell_78 : decode cX9_bell 78 = .ok (.ireturn, 1) := by decide +kernel
theorem dX9_bidder_0 : decode cX9_bidder 0 = .ok (.aload_n 0, 1) := by decide +kernel
theorem dX9_bidder_1 : decode cX9_bidder 1 = .ok (.getfield 19, 3) := by decide +kernel
theorem dX9_bidder_4 : decode cX9_bidder 4 = .ok (.iload_n 1, 1) := by decide +kernel
theorem dX9_bidder_5 : decode cX9_bidder 5 = .ok (.invokevirtual 137, 3) := by decide +kernel
theorem dX9_bidder_8 : decode cX9_bidder 8 = .ok (.ifCond .ne 5, 3) := by decide +kernel
theorem dX9_bidder_11 : decode cX9_bidder 11 = .ok (.iconst (-1), 1) := by decide +kernel
theorem dX9_bidder_12 : decode cX9_bidder 12 = .ok (.ireturn, 1) := by decide +kernel
theorem dX9_bidder_13 : decode cX9_bidder 13 = .ok (.iload_n 2, 1) := by decide +kernel
theorem dX9_bidder_14 : decode cX9_bidder 14 = .ok (.tableswitch 139 0 7 #[46, 58, 70, 82, 94, 106, 118, 127], 46) := by decide +kernel
theorem dX9_bidder_60 : decode cX9_bidder 60 = .ok (.aload_n 0, 1) := by decide +kernel
theorem dX9_bidder_61 : decode cX9_bidder 61 = .ok (.getfield 19, 3) := by decide +kernel
theorem dX9_bidder_64 : decode cX9_bidder 64 = .ok (.getfield 140, 3) := by decide +kernel
theorem dX9_bidder_67 : decode cX9_bidder 67 = .ok (.iload_n 1, 1) := by decide +kernel
theorem dX9_bidder_68 : decode cX9_bidder 68 = .ok (.invokestatic 123, 3) := by decide +kernel
theorem dX9_bidder_71 : decode cX9_bidder 71 = .ok (.ireturn, 1) := by decide +kernel
theorem dX9_bidder_72 : decode cX9_bidder 72 = .ok (.aload_n 0, 1) := by decide +kernel
theorem dX9_bidder_73 : decode cX9_bidder 73 = .ok (.getfield 19, 3) := by decide +kernel
theorem dX9_bidder_76 : decode cX9_bidder 76 = .ok (.getfield 143, 3) := by decide +kernel
theorem dX9_bidder_79 : decode cX9_bidder 79 = .ok (.iload_n 1, 1) := by decide +kernel
theorem dX9_bidder_80 : decode cX9_bidder 80 = .ok (.invokestatic 123, 3) := by decide +kernel
theorem dX9_bidder_83 : decode cX9_bidder 83 = .ok (.ireturn, 1) := by decide +kernel
theorem dX9_bidder_84 : decode cX9_bidder 84 = .ok (.aload_n 0, 1) := by decide +kernel
theorem dX9_bidder_85 : decode cX9_bidder 85 = .ok (.getfield 19, 3) := by decide +kernel
theorem dX9_bidder_88 : decode cX9_bidder 88 = .ok (.getfield 146, 3) := by decide +kernel
theorem dX9_bidder_91 : decode cX9_bidder 91 = .ok (.iload_n 1, 1) := by decide +kernel
theorem dX9_bidder_92 : decode cX9_bidder 92 = .ok (.invokestatic 123, 3) := by decide +kernel
theorem dX9_bidder_95 : decode cX9_bidder 95 = .ok (.ireturn, 1) := by decide +kernel
theorem dX9_bidder_96 : decode cX9_bidder 96 = .ok (.aload_n 0, 1) := by decide +kernel
theorem dX9_bidder_97 : decode cX9_bidder 97 = .ok (.getfield 19, 3) := by decide +kernel
theorem dX9_bidder_100 : decode cX9_bidder 100 = .ok (.getfield 149, 3) := by decide +kernel
theorem dX9_bidder_103 : decode cX9_bidder 103 = .ok (.iload_n 1, 1) := by decide +kernel
theorem dX9_bidder_104 : decode cX9_bidder 104 = .ok (.invokestatic 123, 3) := by decide +kernel
theorem dX9_bidder_107 : decode cX9_bidder 107 = .ok (.ireturn, 1) := by decide +kernel
theorem dX9_bidder_108 : decode cX9_bidder 108 = .ok (.aload_n 0, 1) := by decide +kernel
theorem dX9_bidder_109 : decode cX9_bidder 109 = .ok (.getfield 19, 3) := by decide +kernel
theorem dX9_bidder_112 : decode cX9_bidder 112 = .ok (.getfield 152, 3) := by decide +kernel
theorem dX9_bidder_115 : decode cX9_bidder 115 = .ok (.iload_n 1, 1) := by decide +kernel
theorem dX9_bidder_116 : decode cX9_bidder 116 = .ok (.invokestatic 123, 3) := by decide +kernel
theorem dX9_bidder_119 : decode cX9_bidder 119 = .ok (.ireturn, 1) := by decide +kernel
theorem dX9_bidder_120 : decode cX9_bidder 120 = .ok (.aload_n 0, 1) := by decide +kernel
theorem dX9_bidder_121 : decode cX9_bidder 121 = .ok (.getfield 19, 3) := by decide +kernel
theorem dX9_bidder_124 : decode cX9_bidder 124 = .ok (.getfield 155, 3) := by decide +kernel
theorem dX9_bidder_127 : decode cX9_bidder 127 = .ok (.iload_n 1, 1) := by decide +kernel
theorem dX9_bidder_128 : decode cX9_bidder 128 = .ok (.invokestatic 123, 3) := by decide +kernel
theorem dX9_bidder_131 : decode cX9_bidder 131 = .ok (.ireturn, 1) := by decide +kernel
theorem dX9_bidder_132 : decode cX9_bidder 132 = .ok (.aload_n 0, 1) := by decide +kernel
theorem dX9_bidder_133 : decode cX9_bidder 133 = .ok (.getfield 28, 3) := by decide +kernel
theorem dX9_bidder_136 : decode cX9_bidder 136 = .ok (.iload_n 1, 1) := by decide +kernel
theorem dX9_bidder_137 : decode cX9_bidder 137 = .ok (.invokevirtual 158, 3) := by decide +kernel
theorem dX9_bidder_140 : decode cX9_bidder 140 = .ok (.ireturn, 1) := by decide +kernel
theorem dX9_bidder_141 : decode cX9_bidder 141 = .ok (.aload_n 0, 1) := by decide +kernel
theorem dX9_bidder_142 : decode cX9_bidder 142 = .ok (.getfield 19, 3) := by decide +kernel
theorem dX9_bidder_145 : decode cX9_bidder 145 = .ok (.getfield 161, 3) := by decide +kernel
theorem dX9_bidder_148 : decode cX9_bidder 148 = .ok (.iload_n 1, 1) := by decide +kernel
theorem dX9_bidder_149 : decode cX9_bidder 149 = .ok (.invokestatic 123, 3) := by decide +kernel
theorem dX9_bidder_152 : decode cX9_bidder 152 = .ok (.ireturn, 1) := by decide +kernel
theorem dX9_bidder_153 : decode cX9_bidder 153 = .ok (.bipush (-2), 2) := by decide +kernel
theorem dX9_bidder_155 : decode cX9_bidder 155 = .ok (.ireturn, 1) := by decide +kernel
theorem dX9_rings_0 : decode cX9_rings 0 = .ok (.iload_n 1, 1) := by decide +kernel
theorem dX9_rings_1 : decode cX9_rings 1 = .ok (.invokestatic 164, 3) := by decide +kernel
theorem dX9_rings_4 : decode cX9_rings 4 = .ok (.ifCond .ne 6, 3) := by decide +kernel
theorem dX9_rings_7 : decode cX9_rings 7 = .ok (.bipush (-2), 2) := by decide +kernel
theorem dX9_rings_9 : decode cX9_rings 9 = .ok (.ireturn, 1) := by decide +kernel
theorem dX9_rings_10 : decode cX9_rings 10 = .ok (.aload_n 0, 1) := by decide +kernel
theorem dX9_rings_11 : decode cX9_rings 11 = .ok (.getfield 28, 3) := by decide +kernel
theorem dX9_rings_14 : decode cX9_rings 14 = .ok (.invokevirtual 130, 3) := by decide +kernel
theorem dX9_rings_17 : decode cX9_rings 17 = .ok (.iload_n 1, 1) := by decide +kernel
theorem dX9_rings_18 : decode cX9_rings 18 = .ok (.invokestatic 167, 3) := by decide +kernel
theorem dX9_rings_21 : decode cX9_rings 21 = .ok (.ireturn, 1) := by decide +kernel
theorem dX9_clashes_0 : decode cX9_clashes 0 = .ok (.aload_n 0, 1) := by decide +kernel
theorem dX9_clashes_1 : decode cX9_clashes 1 = .ok (.getfield 19, 3) := by decide +kernel
theorem dX9_clashes_4 : decode cX9_clashes 4 = .ok (.iload_n 1, 1) := by decide +kernel
theorem dX9_clashes_5 : decode cX9_clashes 5 = .ok (.invokevirtual 137, 3) := by decide +kernel
theorem dX9_clashes_8 : decode cX9_clashes 8 = .ok (.ifCond .ne 5, 3) := by decide +kernel
theorem dX9_clashes_11 : decode cX9_clashes 11 = .ok (.iconst (-1), 1) := by decide +kernel
theorem dX9_clashes_12 : decode cX9_clashes 12 = .ok (.ireturn, 1) := by decide +kernel
theorem dX9_clashes_13 : decode cX9_clashes 13 = .ok (.iload_n 2, 1) := by decide +kernel
theorem dX9_clashes_14 : decode cX9_clashes 14 = .ok (.invokestatic 164, 3) := by decide +kernel
theorem dX9_clashes_17 : decode cX9_clashes 17 = .ok (.ifCond .ne 6, 3) := by decide +kernel
theorem dX9_clashes_20 : decode cX9_clashes 20 = .ok (.bipush (-2), 2) := by decide +kernel
theorem dX9_clashes_22 : decode cX9_clashes 22 = .ok (.ireturn, 1) := by decide +kernel
theorem dX9_clashes_23 : decode cX9_clashes 23 = .ok (.aload_n 0, 1) := by decide +kernel
theorem dX9_clashes_24 : decode cX9_clashes 24 = .ok (.getfield 19, 3) := by decide +kernel
theorem dX9_clashes_27 : decode cX9_clashes 27 = .ok (.iload_n 1, 1) := by decide +kernel
theorem dX9_clashes_28 : decode cX9_clashes 28 = .ok (.iload_n 2, 1) := by decide +kernel
theorem dX9_clashes_29 : decode cX9_clashes 29 = .ok (.invokevirtual 170, 3) := by decide +kernel
theorem dX9_clashes_32 : decode cX9_clashes 32 = .ok (.ifCond .ne 6, 3) := by decide +kernel
theorem dX9_clashes_35 : decode cX9_clashes 35 = .ok (.bipush (-3), 2) := by decide +kernel
theorem dX9_clashes_37 : decode cX9_clashes 37 = .ok (.ireturn, 1) := by decide +kernel
theorem dX9_clashes_38 : decode cX9_clashes 38 = .ok (.aload_n 0, 1) := by decide +kernel
theorem dX9_clashes_39 : decode cX9_clashes 39 = .ok (.getfield 28, 3) := by decide +kernel
theorem dX9_clashes_42 : decode cX9_clashes 42 = .ok (.iload_n 1, 1) := by decide +kernel
theorem dX9_clashes_43 : decode cX9_clashes 43 = .ok (.iload_n 2, 1) := by decide +kernel
theorem dX9_clashes_44 : decode cX9_clashes 44 = .ok (.invokevirtual 174, 3) := by decide +kernel
theorem dX9_clashes_47 : decode cX9_clashes 47 = .ok (.ireturn, 1) := by decide +kernel
theorem dX9_let_0 : decode cX9_let 0 = .ok (.aload_n 0, 1) := by decide +kernel
theorem dX9_let_1 : decode cX9_let 1 = .ok (.getfield 19, 3) := by decide +kernel
theorem dX9_let_4 : decode cX9_let 4 = .ok (.iload_n 1, 1) := by decide +kernel
theorem dX9_let_5 : decode cX9_let 5 = .ok (.invokevirtual 137, 3) := by decide +kernel
theorem dX9_let_8 : decode cX9_let 8 = .ok (.ifCond .ne 5, 3) := by decide +kernel
theorem dX9_let_11 : decode cX9_let 11 = .ok (.iconst (-1), 1) := by decide +kernel
theorem dX9_let_12 : decode cX9_let 12 = .ok (.ireturn, 1) := by decide +kernel
theorem dX9_let_13 : decode cX9_let 13 = .ok (.iload_n 2, 1) := by decide +kernel
theorem dX9_let_14 : decode cX9_let 14 = .ok (.invokestatic 164, 3) := by decide +kernel
theorem dX9_let_17 : decode cX9_let 17 = .ok (.ifCond .ne 6, 3) := by decide +kernel
theorem dX9_let_20 : decode cX9_let 20 = .ok (.bipush (-2), 2) := by decide +kernel
theorem dX9_let_22 : decode cX9_let 22 = .ok (.ireturn, 1) := by decide +kernel
theorem dX9_let_23 : decode cX9_let 23 = .ok (.aload_n 0, 1) := by decide +kernel
theorem dX9_let_24 : decode cX9_let 24 = .ok (.getfield 28, 3) := by decide +kernel
theorem dX9_let_27 : decode cX9_let 27 = .ok (.iload_n 1, 1) := by decide +kernel
theorem dX9_let_28 : decode cX9_let 28 = .ok (.invokevirtual 177, 3) := by decide +kernel
theorem dX9_let_31 : decode cX9_let 31 = .ok (.ifCond .ne 15, 3) := by decide +kernel
theorem dX9_let_34 : decode cX9_let 34 = .ok (.aload_n 0, 1) := by decide +kernel
theorem dX9_let_35 : decode cX9_let 35 = .ok (.getfield 28, 3) := by decide +kernel
theorem dX9_let_38 : decode cX9_let 38 = .ok (.iload_n 1, 1) := by decide +kernel
theorem dX9_let_39 : decode cX9_let 39 = .ok (.iload_n 2, 1) := by decide +kernel
theorem dX9_let_40 : decode cX9_let 40 = .ok (.invokevirtual 180, 3) := by decide +kernel
theorem dX9_let_43 : decode cX9_let 43 = .ok (.ifCond .ne 6, 3) := by decide +kernel
theorem dX9_let_46 : decode cX9_let 46 = .ok (.bipush (-3), 2) := by decide +kernel
theorem dX9_let_48 : decode cX9_let 48 = .ok (.ireturn, 1) := by decide +kernel
theorem dX9_let_49 : decode cX9_let 49 = .ok (.aload_n 0, 1) := by decide +kernel
theorem dX9_let_50 : decode cX9_let 50 = .ok (.iload_n 1, 1) := by decide +kernel
theorem dX9_let_51 : decode cX9_let 51 = .ok (.iload_n 2, 1) := by decide +kernel
theorem dX9_let_52 : decode cX9_let 52 = .ok (.iconst 1, 1) := by decide +kernel
theorem dX9_let_53 : decode cX9_let 53 = .ok (.iadd, 1) := by decide +kernel
theorem dX9_let_54 : decode cX9_let 54 = .ok (.invokevirtual 183, 3) := by decide +kernel
theorem dX9_let_57 : decode cX9_let 57 = .ok (.aload_n 0, 1) := by decide +kernel
theorem dX9_let_58 : decode cX9_let 58 = .ok (.getfield 28, 3) := by decide +kernel
theorem dX9_let_61 : decode cX9_let 61 = .ok (.invokevirtual 187, 3) := by decide +kernel
theorem dX9_let_64 : decode cX9_let 64 = .ok (.ireturn, 1) := by decide +kernel
theorem dX9_revoke_0 : decode cX9_revoke 0 = .ok (.aload_n 0, 1) := by decide +kernel
theorem dX9_revoke_1 : decode cX9_revoke 1 = .ok (.getfield 19, 3) := by decide +kernel
theorem dX9_revoke_4 : decode cX9_revoke 4 = .ok (.iload_n 1, 1) := by decide +kernel
theorem dX9_revoke_5 : decode cX9_revoke 5 = .ok (.invokevirtual 137, 3) := by decide +kernel
theorem dX9_revoke_8 : decode cX9_revoke 8 = .ok (.ifCond .ne 5, 3) := by decide +kernel
theorem dX9_revoke_11 : decode cX9_revoke 11 = .ok (.iconst (-1), 1) := by decide +kernel
theorem dX9_revoke_12 : decode cX9_revoke 12 = .ok (.ireturn, 1) := by decide +kernel
theorem dX9_revoke_13 : decode cX9_revoke 13 = .ok (.aload_n 0, 1) := by decide +kernel
theorem dX9_revoke_14 : decode cX9_revoke 14 = .ok (.getfield 28, 3) := by decide +kernel
theorem dX9_revoke_17 : decode cX9_revoke 17 = .ok (.iload_n 1, 1) := by decide +kernel
theorem dX9_revoke_18 : decode cX9_revoke 18 = .ok (.invokevirtual 177, 3) := by decide +kernel
theorem dX9_revoke_21 : decode cX9_revoke 21 = .ok (.ifCond .ne 6, 3) := by decide +kernel
theorem dX9_revoke_24 : decode cX9_revoke 24 = .ok (.bipush (-3), 2) := by decide +kernel
theorem dX9_revoke_26 : decode cX9_revoke 26 = .ok (.ireturn, 1) := by decide +kernel
theorem dX9_revoke_27 : decode cX9_revoke 27 = .ok (.aload_n 0, 1) := by decide +kernel
theorem dX9_revoke_28 : decode cX9_revoke 28 = .ok (.iload_n 1, 1) := by decide +kernel
theorem dX9_revoke_29 : decode cX9_revoke 29 = .ok (.iconst 0, 1) := by decide +kernel
theorem dX9_revoke_30 : decode cX9_revoke 30 = .ok (.invokevirtual 183, 3) := by decide +kernel
theorem dX9_revoke_33 : decode cX9_revoke 33 = .ok (.aload_n 0, 1) := by decide +kernel
theorem dX9_revoke_34 : decode cX9_revoke 34 = .ok (.getfield 28, 3) := by decide +kernel
theorem dX9_revoke_37 : decode cX9_revoke 37 = .ok (.invokevirtual 187, 3) := by decide +kernel
theorem dX9_revoke_40 : decode cX9_revoke 40 = .ok (.ireturn, 1) := by decide +kernel
theorem dX9_move_0 : decode cX9_move 0 = .ok (.aload_n 0, 1) := by decide +kernel
theorem dX9_move_1 : decode cX9_move 1 = .ok (.getfield 19, 3) := by decide +kernel
theorem dX9_move_4 : decode cX9_move 4 = .ok (.iload_n 1, 1) := by decide +kernel
theorem dX9_move_5 : decode cX9_move 5 = .ok (.invokevirtual 137, 3) := by decide +kernel
theorem dX9_move_8 : decode cX9_move 8 = .ok (.ifCond .ne 5, 3) := by decide +kernel
theorem dX9_move_11 : decode cX9_move 11 = .ok (.iconst (-1), 1) := by decide +kernel
theorem dX9_move_12 : decode cX9_move 12 = .ok (.ireturn, 1) := by decide +kernel
theorem dX9_move_13 : decode cX9_move 13 = .ok (.iload_n 2, 1) := by decide +kernel
theorem dX9_move_14 : decode cX9_move 14 = .ok (.invokestatic 164, 3) := by decide +kernel
theorem dX9_move_17 : decode cX9_move 17 = .ok (.ifCond .ne 6, 3) := by decide +kernel
theorem dX9_move_20 : decode cX9_move 20 = .ok (.bipush (-2), 2) := by decide +kernel
theorem dX9_move_22 : decode cX9_move 22 = .ok (.ireturn, 1) := by decide +kernel
theorem dX9_move_23 : decode cX9_move 23 = .ok (.aload_n 0, 1) := by decide +kernel
theorem dX9_move_24 : decode cX9_move 24 = .ok (.getfield 28, 3) := by decide +kernel
theorem dX9_move_27 : decode cX9_move 27 = .ok (.iload_n 1, 1) := by decide +kernel
theorem dX9_move_28 : decode cX9_move 28 = .ok (.invokevirtual 177, 3) := by decide +kernel
theorem dX9_move_31 : decode cX9_move 31 = .ok (.ifCond .eq 27, 3) := by decide +kernel
theorem dX9_move_34 : decode cX9_move 34 = .ok (.aload_n 0, 1) := by decide +kernel
theorem dX9_move_35 : decode cX9_move 35 = .ok (.getfield 28, 3) := by decide +kernel
theorem dX9_move_38 : decode cX9_move 38 = .ok (.iload_n 1, 1) := by decide +kernel
theorem dX9_move_39 : decode cX9_move 39 = .ok (.invokevirtual 158, 3) := by decide +kernel
theorem dX9_move_42 : decode cX9_move 42 = .ok (.iload_n 2, 1) := by decide +kernel
theorem dX9_move_43 : decode cX9_move 43 = .ok (.if_icmp .eq 15, 3) := by decide +kernel
theorem dX9_move_46 : decode cX9_move 46 = .ok (.aload_n 0, 1) := by decide +kernel
theorem dX9_move_47 : decode cX9_move 47 = .ok (.getfield 28, 3) := by decide +kernel
theorem dX9_move_50 : decode cX9_move 50 = .ok (.iload_n 1, 1) := by decide +kernel
theorem dX9_move_51 : decode cX9_move 51 = .ok (.iload_n 2, 1) := by decide +kernel
theorem dX9_move_52 : decode cX9_move 52 = .ok (.invokevirtual 180, 3) := by decide +kernel
theorem dX9_move_55 : decode cX9_move 55 = .ok (.ifCond .ne 6, 3) := by decide +kernel
theorem dX9_move_58 : decode cX9_move 58 = .ok (.bipush (-3), 2) := by decide +kernel
theorem dX9_move_60 : decode cX9_move 60 = .ok (.ireturn, 1) := by decide +kernel
theorem dX9_move_61 : decode cX9_move 61 = .ok (.aload_n 0, 1) := by decide +kernel
theorem dX9_move_62 : decode cX9_move 62 = .ok (.getfield 28, 3) := by decide +kernel
theorem dX9_move_65 : decode cX9_move 65 = .ok (.iload_n 1, 1) := by decide +kernel
theorem dX9_move_66 : decode cX9_move 66 = .ok (.invokevirtual 158, 3) := by decide +kernel
theorem dX9_move_69 : decode cX9_move 69 = .ok (.istore_n 3, 1) := by decide +kernel
theorem dX9_move_70 : decode cX9_move 70 = .ok (.aload_n 0, 1) := by decide +kernel
theorem dX9_move_71 : decode cX9_move 71 = .ok (.iload_n 1, 1) := by decide +kernel
theorem dX9_move_72 : decode cX9_move 72 = .ok (.iload_n 2, 1) := by decide +kernel
theorem dX9_move_73 : decode cX9_move 73 = .ok (.iconst 1, 1) := by decide +kernel
theorem dX9_move_74 : decode cX9_move 74 = .ok (.iadd, 1) := by decide +kernel
theorem dX9_move_75 : decode cX9_move 75 = .ok (.invokevirtual 183, 3) := by decide +kernel
theorem dX9_move_78 : decode cX9_move 78 = .ok (.iload_n 3, 1) := by decide +kernel
theorem dX9_move_79 : decode cX9_move 79 = .ok (.ireturn, 1) := by decide +kernel
theorem dX9_undo_0 : decode cX9_undo 0 = .ok (.aload_n 0, 1) := by decide +kernel
theorem dX9_undo_1 : decode cX9_undo 1 = .ok (.getfield 48, 3) := by decide +kernel
theorem dX9_undo_4 : decode cX9_undo 4 = .ok (.getfield 190, 3) := by decide +kernel
theorem dX9_undo_7 : decode cX9_undo 7 = .ok (.ifCond .ne 6, 3) := by decide +kernel
theorem dX9_undo_10 : decode cX9_undo 10 = .ok (.bipush (-3), 2) := by decide +kernel
theorem dX9_undo_12 : decode cX9_undo 12 = .ok (.ireturn, 1) := by decide +kernel
theorem dX9_undo_13 : decode cX9_undo 13 = .ok (.aload_n 0, 1) := by decide +kernel
theorem dX9_undo_14 : decode cX9_undo 14 = .ok (.getfield 48, 3) := by decide +kernel
theorem dX9_undo_17 : decode cX9_undo 17 = .ok (.aload_n 0, 1) := by decide +kernel
theorem dX9_undo_18 : decode cX9_undo 18 = .ok (.getfield 28, 3) := by decide +kernel
theorem dX9_undo_21 : decode cX9_undo 21 = .ok (.invokevirtual 193, 3) := by decide +kernel
theorem dX9_undo_24 : decode cX9_undo 24 = .ok (.aload_n 0, 1) := by decide +kernel
theorem dX9_undo_25 : decode cX9_undo 25 = .ok (.getfield 48, 3) := by decide +kernel
theorem dX9_undo_28 : decode cX9_undo 28 = .ok (.getfield 190, 3) := by decide +kernel
theorem dX9_undo_31 : decode cX9_undo 31 = .ok (.ireturn, 1) := by decide +kernel
theorem dX9_act_0 : decode cX9_act 0 = .ok (.aload_n 0, 1) := by decide +kernel
theorem dX9_act_1 : decode cX9_act 1 = .ok (.getfield 48, 3) := by decide +kernel
theorem dX9_act_4 : decode cX9_act 4 = .ok (.iload_n 1, 1) := by decide +kernel
theorem dX9_act_5 : decode cX9_act 5 = .ok (.aload_n 0, 1) := by decide +kernel
theorem dX9_act_6 : decode cX9_act 6 = .ok (.getfield 28, 3) := by decide +kernel
theorem dX9_act_9 : decode cX9_act 9 = .ok (.iload_n 1, 1) := by decide +kernel
theorem dX9_act_10 : decode cX9_act 10 = .ok (.invokevirtual 197, 3) := by decide +kernel
theorem dX9_act_13 : decode cX9_act 13 = .ok (.invokevirtual 200, 3) := by decide +kernel
theorem dX9_act_16 : decode cX9_act 16 = .ok (.aload_n 0, 1) := by decide +kernel
theorem dX9_act_17 : decode cX9_act 17 = .ok (.getfield 28, 3) := by decide +kernel
theorem dX9_act_20 : decode cX9_act 20 = .ok (.iload_n 1, 1) := by decide +kernel
theorem dX9_act_21 : decode cX9_act 21 = .ok (.iload_n 2, 1) := by decide +kernel
theorem dX9_act_22 : decode cX9_act 22 = .ok (.invokevirtual 202, 3) := by decide +kernel
theorem dX9_act_25 : decode cX9_act 25 = .ok (.return_, 1) := by decide +kernel
theorem dX9_best_0 : decode cX9_best 0 = .ok (.iload_n 1, 1) := by decide +kernel
theorem dX9_best_1 : decode cX9_best 1 = .ok (.ifCond .lt 14, 3) := by decide +kernel
theorem dX9_best_4 : decode cX9_best 4 = .ok (.iload_n 1, 1) := by decide +kernel
theorem dX9_best_5 : decode cX9_best 5 = .ok (.aload_n 0, 1) := by decide +kernel
theorem dX9_best_6 : decode cX9_best 6 = .ok (.getfield 19, 3) := by decide +kernel
theorem dX9_best_9 : decode cX9_best 9 = .ok (.invokevirtual 205, 3) := by decide +kernel
theorem dX9_best_12 : decode cX9_best 12 = .ok (.if_icmp .le 6, 3) := by decide +kernel
theorem dX9_best_15 : decode cX9_best 15 = .ok (.bipush (-2), 2) := by decide +kernel
theorem dX9_best_17 : decode cX9_best 17 = .ok (.ireturn, 1) := by decide +kernel
theorem dX9_best_18 : decode cX9_best 18 = .ok (.aload_n 0, 1) := by decide +kernel
theorem dX9_best_19 : decode cX9_best 19 = .ok (.getfield 55, 3) := by decide +kernel
theorem dX9_best_22 : decode cX9_best 22 = .ok (.iload_n 1, 1) := by decide +kernel
theorem dX9_best_23 : decode cX9_best 23 = .ok (.invokevirtual 208, 3) := by decide +kernel
theorem dX9_best_26 : decode cX9_best 26 = .ok (.ireturn, 1) := by decide +kernel
theorem dX9_bestOf_0 : decode cX9_bestOf 0 = .ok (.aload_n 0, 1) := by decide +kernel
theorem dX9_bestOf_1 : decode cX9_bestOf 1 = .ok (.getfield 19, 3) := by decide +kernel
theorem dX9_bestOf_4 : decode cX9_bestOf 4 = .ok (.iload_n 1, 1) := by decide +kernel
theorem dX9_bestOf_5 : decode cX9_bestOf 5 = .ok (.invokevirtual 137, 3) := by decide +kernel
theorem dX9_bestOf_8 : decode cX9_bestOf 8 = .ok (.ifCond .ne 5, 3) := by decide +kernel
theorem dX9_bestOf_11 : decode cX9_bestOf 11 = .ok (.iconst (-1), 1) := by decide +kernel
theorem dX9_bestOf_12 : decode cX9_bestOf 12 = .ok (.ireturn, 1) := by decide +kernel
theorem dX9_bestOf_13 : decode cX9_bestOf 13 = .ok (.aload_n 0, 1) := by decide +kernel
theorem dX9_bestOf_14 : decode cX9_bestOf 14 = .ok (.getfield 55, 3) := by decide +kernel
theorem dX9_bestOf_17 : decode cX9_bestOf 17 = .ok (.aload_n 0, 1) := by decide +kernel
theorem dX9_bestOf_18 : decode cX9_bestOf 18 = .ok (.getfield 19, 3) := by decide +kernel
theorem dX9_bestOf_21 : decode cX9_bestOf 21 = .ok (.invokevirtual 205, 3) := by decide +kernel
theorem dX9_bestOf_24 : decode cX9_bestOf 24 = .ok (.invokevirtual 208, 3) := by decide +kernel
theorem dX9_bestOf_27 : decode cX9_bestOf 27 = .ok (.pop, 1) := by decide +kernel
theorem dX9_bestOf_28 : decode cX9_bestOf 28 = .ok (.aload_n 0, 1) := by decide +kernel
theorem dX9_bestOf_29 : decode cX9_bestOf 29 = .ok (.getfield 55, 3) := by decide +kernel
theorem dX9_bestOf_32 : decode cX9_bestOf 32 = .ok (.getfield 211, 3) := by decide +kernel
theorem dX9_bestOf_35 : decode cX9_bestOf 35 = .ok (.iload_n 1, 1) := by decide +kernel
theorem dX9_bestOf_36 : decode cX9_bestOf 36 = .ok (.invokevirtual 158, 3) := by decide +kernel
theorem dX9_bestOf_39 : decode cX9_bestOf 39 = .ok (.ireturn, 1) := by decide +kernel
theorem dX9_beside_0 : decode cX9_beside 0 = .ok (.aload_n 0, 1) := by decide +kernel
theorem dX9_beside_1 : decode cX9_beside 1 = .ok (.getfield 55, 3) := by decide +kernel
theorem dX9_beside_4 : decode cX9_beside 4 = .ok (.aload_n 0, 1) := by decide +kernel
theorem dX9_beside_5 : decode cX9_beside 5 = .ok (.getfield 28, 3) := by decide +kernel
theorem dX9_beside_8 : decode cX9_beside 8 = .ok (.invokevirtual 214, 3) := by decide +kernel
theorem dX9_beside_11 : decode cX9_beside 11 = .ok (.ireturn, 1) := by decide +kernel
theorem dX9_price_0 : decode cX9_price 0 = .ok (.aload_n 0, 1) := by decide +kernel
theorem dX9_price_1 : decode cX9_price 1 = .ok (.getfield 19, 3) := by decide +kernel
theorem dX9_price_4 : decode cX9_price 4 = .ok (.iload_n 1, 1) := by decide +kernel
theorem dX9_price_5 : decode cX9_price 5 = .ok (.invokevirtual 137, 3) := by decide +kernel
theorem dX9_price_8 : decode cX9_price 8 = .ok (.ifCond .ne 5, 3) := by decide +kernel
theorem dX9_price_11 : decode cX9_price 11 = .ok (.iconst (-1), 1) := by decide +kernel
theorem dX9_price_12 : decode cX9_price 12 = .ok (.ireturn, 1) := by decide +kernel
theorem dX9_price_13 : decode cX9_price 13 = .ok (.aload_n 0, 1) := by decide +kernel
theorem dX9_price_14 : decode cX9_price 14 = .ok (.getfield 55, 3) := by decide +kernel
theorem dX9_price_17 : decode cX9_price 17 = .ok (.aload_n 0, 1) := by decide +kernel
theorem dX9_price_18 : decode cX9_price 18 = .ok (.getfield 19, 3) := by decide +kernel
theorem dX9_price_21 : decode cX9_price 21 = .ok (.invokevirtual 205, 3) := by decide +kernel
theorem dX9_price_24 : decode cX9_price 24 = .ok (.invokevirtual 208, 3) := by decide +kernel
theorem dX9_price_27 : decode cX9_price 27 = .ok (.istore_n 2, 1) := by decide +kernel
theorem dX9_price_28 : decode cX9_price 28 = .ok (.aload_n 0, 1) := by decide +kernel
theorem dX9_price_29 : decode cX9_price 29 = .ok (.getfield 55, 3) := by decide +kernel
theorem dX9_price_32 : decode cX9_price 32 = .ok (.getfield 211, 3) := by decide +kernel
theorem dX9_price_35 : decode cX9_price 35 = .ok (.iload_n 1, 1) := by decide +kernel
theorem dX9_price_36 : decode cX9_price 36 = .ok (.invokevirtual 177, 3) := by decide +kernel
theorem dX9_price_39 : decode cX9_price 39 = .ok (.ifCond .ne 6, 3) := by decide +kernel
theorem dX9_price_42 : decode cX9_price 42 = .ok (.bipush (-9), 2) := by decide +kernel
theorem dX9_price_44 : decode cX9_price 44 = .ok (.ireturn, 1) := by decide +kernel
theorem dX9_price_45 : decode cX9_price 45 = .ok (.iload_n 2, 1) := by decide +kernel
theorem dX9_price_46 : decode cX9_price 46 = .ok (.aload_n 0, 1) := by decide +kernel
theorem dX9_price_47 : decode cX9_price 47 = .ok (.getfield 19, 3) := by decide +kernel
theorem dX9_price_50 : decode cX9_price 50 = .ok (.getfield 155, 3) := by decide +kernel
theorem dX9_price_53 : decode cX9_price 53 = .ok (.iload_n 1, 1) := by decide +kernel
theorem dX9_price_54 : decode cX9_price 54 = .ok (.invokestatic 123, 3) := by decide +kernel
theorem dX9_price_57 : decode cX9_price 57 = .ok (.isub, 1) := by decide +kernel
theorem dX9_price_58 : decode cX9_price 58 = .ok (.istore_n 3, 1) := by decide +kernel
theorem dX9_price_59 : decode cX9_price 59 = .ok (.aload_n 0, 1) := by decide +kernel
theorem dX9_price_60 : decode cX9_price 60 = .ok (.getfield 55, 3) := by decide +kernel
theorem dX9_price_63 : decode cX9_price 63 = .ok (.aload_n 0, 1) := by decide +kernel
theorem dX9_price_64 : decode cX9_price 64 = .ok (.getfield 19, 3) := by decide +kernel
theorem dX9_price_67 : decode cX9_price 67 = .ok (.invokevirtual 205, 3) := by decide +kernel
theorem dX9_price_70 : decode cX9_price 70 = .ok (.iconst 1, 1) := by decide +kernel
theorem dX9_price_71 : decode cX9_price 71 = .ok (.iload_n 1, 1) := by decide +kernel
theorem dX9_price_72 : decode cX9_price 72 = .ok (.ishl, 1) := by decide +kernel
theorem dX9_price_73 : decode cX9_price 73 = .ok (.iconst (-1), 1) := by decide +kernel
theorem dX9_price_74 : decode cX9_price 74 = .ok (.ixor, 1) := by decide +kernel
theorem dX9_price_75 : decode cX9_price 75 = .ok (.iand, 1) := by decide +kernel
theorem dX9_price_76 : decode cX9_price 76 = .ok (.invokevirtual 208, 3) := by decide +kernel
theorem dX9_price_79 : decode cX9_price 79 = .ok (.iload_n 3, 1) := by decide +kernel
theorem dX9_price_80 : decode cX9_price 80 = .ok (.isub, 1) := by decide +kernel
theorem dX9_price_81 : decode cX9_price 81 = .ok (.ireturn, 1) := by decide +kernel
theorem dX9_many_0 : decode cX9_many 0 = .ok (.aload_n 0, 1) := by decide +kernel
theorem dX9_many_1 : decode cX9_many 1 = .ok (.getfield 55, 3) := by decide +kernel
theorem dX9_many_4 : decode cX9_many 4 = .ok (.invokevirtual 218, 3) := by decide +kernel
theorem dX9_many_7 : decode cX9_many 7 = .ok (.ireturn, 1) := by decide +kernel
theorem dX9_room_0 : decode cX9_room 0 = .ok (.aload_n 0, 1) := by decide +kernel
theorem dX9_room_1 : decode cX9_room 1 = .ok (.getfield 19, 3) := by decide +kernel
theorem dX9_room_4 : decode cX9_room 4 = .ok (.iload_n 1, 1) := by decide +kernel
theorem dX9_room_5 : decode cX9_room 5 = .ok (.invokevirtual 137, 3) := by decide +kernel
theorem dX9_room_8 : decode cX9_room 8 = .ok (.ifCond .ne 5, 3) := by decide +kernel
theorem dX9_room_11 : decode cX9_room 11 = .ok (.iconst (-1), 1) := by decide +kernel
theorem dX9_room_12 : decode cX9_room 12 = .ok (.ireturn, 1) := by decide +kernel
theorem dX9_room_13 : decode cX9_room 13 = .ok (.iload_n 2, 1) := by decide +kernel
theorem dX9_room_14 : decode cX9_room 14 = .ok (.ifCond .lt 8, 3) := by decide +kernel
theorem dX9_room_17 : decode cX9_room 17 = .ok (.iload_n 2, 1) := by decide +kernel
theorem dX9_room_18 : decode cX9_room 18 = .ok (.iconst 1, 1) := by decide +kernel
theorem dX9_room_19 : decode cX9_room 19 = .ok (.if_icmp .le 6, 3) := by decide +kernel
theorem dX9_room_22 : decode cX9_room 22 = .ok (.bipush (-2), 2) := by decide +kernel
theorem dX9_room_24 : decode cX9_room 24 = .ok (.ireturn, 1) := by decide +kernel
theorem dX9_room_25 : decode cX9_room 25 = .ok (.aload_n 0, 1) := by decide +kernel
theorem dX9_room_26 : decode cX9_room 26 = .ok (.getfield 28, 3) := by decide +kernel
theorem dX9_room_29 : decode cX9_room 29 = .ok (.iload_n 1, 1) := by decide +kernel
theorem dX9_room_30 : decode cX9_room 30 = .ok (.invokevirtual 177, 3) := by decide +kernel
theorem dX9_room_33 : decode cX9_room 33 = .ok (.ifCond .eq 6, 3) := by decide +kernel
theorem dX9_room_36 : decode cX9_room 36 = .ok (.bipush (-3), 2) := by decide +kernel
theorem dX9_room_38 : decode cX9_room 38 = .ok (.ireturn, 1) := by decide +kernel
theorem dX9_room_39 : decode cX9_room 39 = .ok (.aload_n 0, 1) := by decide +kernel
theorem dX9_room_40 : decode cX9_room 40 = .ok (.getfield 28, 3) := by decide +kernel
theorem dX9_room_43 : decode cX9_room 43 = .ok (.iload_n 1, 1) := by decide +kernel
theorem dX9_room_44 : decode cX9_room 44 = .ok (.invokevirtual 221, 3) := by decide +kernel
theorem dX9_room_47 : decode cX9_room 47 = .ok (.istore_n 3, 1) := by decide +kernel
theorem dX9_room_48 : decode cX9_room 48 = .ok (.iload_n 3, 1) := by decide +kernel
theorem dX9_room_49 : decode cX9_room 49 = .ok (.bipush (-9), 2) := by decide +kernel
theorem dX9_room_51 : decode cX9_room 51 = .ok (.if_icmp .eq 8, 3) := by decide +kernel
theorem dX9_room_54 : decode cX9_room 54 = .ok (.iload_n 2, 1) := by decide +kernel
theorem dX9_room_55 : decode cX9_room 55 = .ok (.iconst 1, 1) := by decide +kernel
theorem dX9_room_56 : decode cX9_room 56 = .ok (.if_icmp .ne 7, 3) := by decide +kernel
theorem dX9_room_59 : decode cX9_room 59 = .ok (.iload_n 3, 1) := by decide +kernel
theorem dX9_room_60 : decode cX9_room 60 = .ok (.goto 19, 3) := by decide +kernel
theorem dX9_room_63 : decode cX9_room 63 = .ok (.aload_n 0, 1) := by decide +kernel
theorem dX9_room_64 : decode cX9_room 64 = .ok (.getfield 28, 3) := by decide +kernel
theorem dX9_room_67 : decode cX9_room 67 = .ok (.aload_n 0, 1) := by decide +kernel
theorem dX9_room_68 : decode cX9_room 68 = .ok (.getfield 28, 3) := by decide +kernel
theorem dX9_room_71 : decode cX9_room 71 = .ok (.iload_n 1, 1) := by decide +kernel
theorem dX9_room_72 : decode cX9_room 72 = .ok (.iload_n 3, 1) := by decide +kernel
theorem dX9_room_73 : decode cX9_room 73 = .ok (.invokevirtual 174, 3) := by decide +kernel
theorem dX9_room_76 : decode cX9_room 76 = .ok (.invokevirtual 224, 3) := by decide +kernel
theorem dX9_room_79 : decode cX9_room 79 = .ok (.ireturn, 1) := by decide +kernel
theorem dX9_hands_0 : decode cX9_hands 0 = .ok (.aload_n 0, 1) := by decide +kernel
theorem dX9_hands_1 : decode cX9_hands 1 = .ok (.getfield 76, 3) := by decide +kernel
theorem dX9_hands_4 : decode cX9_hands 4 = .ok (.aload_n 0, 1) := by decide +kernel
theorem dX9_hands_5 : decode cX9_hands 5 = .ok (.getfield 28, 3) := by decide +kernel
theorem dX9_hands_8 : decode cX9_hands 8 = .ok (.invokevirtual 227, 3) := by decide +kernel
theorem dX9_hands_11 : decode cX9_hands 11 = .ok (.ireturn, 1) := by decide +kernel
theorem dX9_judge_0 : decode cX9_judge 0 = .ok (.iload_n 1, 1) := by decide +kernel
theorem dX9_judge_1 : decode cX9_judge 1 = .ok (.iconst 1, 1) := by decide +kernel
theorem dX9_judge_2 : decode cX9_judge 2 = .ok (.if_icmp .lt 14, 3) := by decide +kernel
theorem dX9_judge_5 : decode cX9_judge 5 = .ok (.iload_n 1, 1) := by decide +kernel
theorem dX9_judge_6 : decode cX9_judge 6 = .ok (.iconst 5, 1) := by decide +kernel
theorem dX9_judge_7 : decode cX9_judge 7 = .ok (.if_icmp .gt 9, 3) := by decide +kernel
theorem dX9_judge_10 : decode cX9_judge 10 = .ok (.lload_n 2, 1) := by decide +kernel
theorem dX9_judge_11 : decode cX9_judge 11 = .ok (.lconst 0, 1) := by decide +kernel
theorem dX9_judge_12 : decode cX9_judge 12 = .ok (.lcmp, 1) := by decide +kernel
theorem dX9_judge_13 : decode cX9_judge 13 = .ok (.ifCond .ge 6, 3) := by decide +kernel
theorem dX9_judge_16 : decode cX9_judge 16 = .ok (.bipush (-2), 2) := by decide +kernel
theorem dX9_judge_18 : decode cX9_judge 18 = .ok (.ireturn, 1) := by decide +kernel
theorem dX9_judge_19 : decode cX9_judge 19 = .ok (.lload_n 2, 1) := by decide +kernel
theorem dX9_judge_20 : decode cX9_judge 20 = .ok (.lstore 4, 2) := by decide +kernel
theorem dX9_judge_22 : decode cX9_judge 22 = .ok (.iconst 4, 1) := by decide +kernel
theorem dX9_judge_23 : decode cX9_judge 23 = .ok (.istore 6, 2) := by decide +kernel
theorem dX9_judge_25 : decode cX9_judge 25 = .ok (.iload 6, 2) := by decide +kernel
theorem dX9_judge_27 : decode cX9_judge 27 = .ok (.ifCond .lt 37, 3) := by decide +kernel
theorem dX9_judge_30 : decode cX9_judge 30 = .ok (.iload 6, 2) := by decide +kernel
theorem dX9_judge_32 : decode cX9_judge 32 = .ok (.iload_n 1, 1) := by decide +kernel
theorem dX9_judge_33 : decode cX9_judge 33 = .ok (.if_icmp .ge 25, 3) := by decide +kernel
theorem dX9_judge_36 : decode cX9_judge 36 = .ok (.aload_n 0, 1) := by decide +kernel
theorem dX9_judge_37 : decode cX9_judge 37 = .ok (.getfield 80, 3) := by decide +kernel
theorem dX9_judge_40 : decode cX9_judge 40 = .ok (.iload 6, 2) := by decide +kernel
theorem dX9_judge_42 : decode cX9_judge 42 = .ok (.lload 4, 2) := by decide +kernel
theorem dX9_judge_44 : decode cX9_judge 44 = .ok (.ldc2_w 230, 3) := by decide +kernel
theorem dX9_judge_47 : decode cX9_judge 47 = .ok (.lrem, 1) := by decide +kernel
theorem dX9_judge_48 : decode cX9_judge 48 = .ok (.l2i, 1) := by decide +kernel
theorem dX9_judge_49 : decode cX9_judge 49 = .ok (.iastore, 1) := by decide +kernel
theorem dX9_judge_50 : decode cX9_judge 50 = .ok (.lload 4, 2) := by decide +kernel
theorem dX9_judge_52 : decode cX9_judge 52 = .ok (.ldc2_w 230, 3) := by decide +kernel
theorem dX9_judge_55 : decode cX9_judge 55 = .ok (.ldiv, 1) := by decide +kernel
theorem dX9_judge_56 : decode cX9_judge 56 = .ok (.lstore 4, 2) := by decide +kernel
theorem dX9_judge_58 : decode cX9_judge 58 = .ok (.iinc 6 (-1), 3) := by decide +kernel
theorem dX9_judge_61 : decode cX9_judge 61 = .ok (.goto (-36), 3) := by decide +kernel
theorem dX9_judge_64 : decode cX9_judge 64 = .ok (.lload 4, 2) := by decide +kernel
theorem dX9_judge_66 : decode cX9_judge 66 = .ok (.lconst 0, 1) := by decide +kernel
theorem dX9_judge_67 : decode cX9_judge 67 = .ok (.lcmp, 1) := by decide +kernel
theorem dX9_judge_68 : decode cX9_judge 68 = .ok (.ifCond .eq 6, 3) := by decide +kernel
theorem dX9_judge_71 : decode cX9_judge 71 = .ok (.bipush (-2), 2) := by decide +kernel
theorem dX9_judge_73 : decode cX9_judge 73 = .ok (.ireturn, 1) := by decide +kernel
theorem dX9_judge_74 : decode cX9_judge 74 = .ok (.aload_n 0, 1) := by decide +kernel
theorem dX9_judge_75 : decode cX9_judge 75 = .ok (.iload_n 1, 1) := by decide +kernel
theorem dX9_judge_76 : decode cX9_judge 76 = .ok (.invokevirtual 232, 3) := by decide +kernel
theorem dX9_judge_79 : decode cX9_judge 79 = .ok (.ireturn, 1) := by decide +kernel
theorem dX9_firstThatCanNotBe_0 : decode cX9_firstThatCanNotBe 0 = .ok (.aload_n 0, 1) := by decide +kernel
theorem dX9_firstThatCanNotBe_1 : decode cX9_firstThatCanNotBe 1 = .ok (.getfield 32, 3) := by decide +kernel
theorem dX9_firstThatCanNotBe_4 : decode cX9_firstThatCanNotBe 4 = .ok (.aload_n 0, 1) := by decide +kernel
theorem dX9_firstThatCanNotBe_5 : decode cX9_firstThatCanNotBe 5 = .ok (.getfield 28, 3) := by decide +kernel
theorem dX9_firstThatCanNotBe_8 : decode cX9_firstThatCanNotBe 8 = .ok (.invokevirtual 235, 3) := by decide +kernel
theorem dX9_firstThatCanNotBe_11 : decode cX9_firstThatCanNotBe 11 = .ok (.iconst 0, 1) := by decide +kernel
theorem dX9_firstThatCanNotBe_12 : decode cX9_firstThatCanNotBe 12 = .ok (.istore_n 2, 1) := by decide +kernel
theorem dX9_firstThatCanNotBe_13 : decode cX9_firstThatCanNotBe 13 = .ok (.iload_n 2, 1) := by decide +kernel
theorem dX9_firstThatCanNotBe_14 : decode cX9_firstThatCanNotBe 14 = .ok (.iconst 5, 1) := by decide +kernel
theorem dX9_firstThatCanNotBe_15 : decode cX9_firstThatCanNotBe 15 = .ok (.if_icmp .ge 44, 3) := by decide +kernel
theorem dX9_firstThatCanNotBe_18 : decode cX9_firstThatCanNotBe 18 = .ok (.iload_n 2, 1) := by decide +kernel
theorem dX9_firstThatCanNotBe_19 : decode cX9_firstThatCanNotBe 19 = .ok (.iload_n 1, 1) := by decide +kernel
theorem dX9_firstThatCanNotBe_20 : decode cX9_firstThatCanNotBe 20 = .ok (.if_icmp .ge 39, 3) := by decide +kernel
theorem dX9_firstThatCanNotBe_23 : decode cX9_firstThatCanNotBe 23 = .ok (.aload_n 0, 1) := by decide +kernel
theorem dX9_firstThatCanNotBe_24 : decode cX9_firstThatCanNotBe 24 = .ok (.getfield 32, 3) := by decide +kernel
theorem dX9_firstThatCanNotBe_27 : decode cX9_firstThatCanNotBe 27 = .ok (.aload_n 0, 1) := by decide +kernel
theorem dX9_firstThatCanNotBe_28 : decode cX9_firstThatCanNotBe 28 = .ok (.getfield 80, 3) := by decide +kernel
theorem dX9_firstThatCanNotBe_31 : decode cX9_firstThatCanNotBe 31 = .ok (.iload_n 2, 1) := by decide +kernel
theorem dX9_firstThatCanNotBe_32 : decode cX9_firstThatCanNotBe 32 = .ok (.iaload, 1) := by decide +kernel
theorem dX9_firstThatCanNotBe_33 : decode cX9_firstThatCanNotBe 33 = .ok (.bipush 10, 2) := by decide +kernel
theorem dX9_firstThatCanNotBe_35 : decode cX9_firstThatCanNotBe 35 = .ok (.idiv, 1) := by decide +kernel
theorem dX9_firstThatCanNotBe_36 : decode cX9_firstThatCanNotBe 36 = .ok (.aload_n 0, 1) := by decide +kernel
theorem dX9_firstThatCanNotBe_37 : decode cX9_firstThatCanNotBe 37 = .ok (.getfield 80, 3) := by decide +kernel
theorem dX9_firstThatCanNotBe_40 : decode cX9_firstThatCanNotBe 40 = .ok (.iload_n 2, 1) := by decide +kernel
theorem dX9_firstThatCanNotBe_41 : decode cX9_firstThatCanNotBe 41 = .ok (.iaload, 1) := by decide +kernel
theorem dX9_firstThatCanNotBe_42 : decode cX9_firstThatCanNotBe 42 = .ok (.bipush 10, 2) := by decide +kernel
theorem dX9_firstThatCanNotBe_44 : decode cX9_firstThatCanNotBe 44 = .ok (.irem, 1) := by decide +kernel
theorem dX9_firstThatCanNotBe_45 : decode cX9_firstThatCanNotBe 45 = .ok (.invokevirtual 238, 3) := by decide +kernel
theorem dX9_firstThatCanNotBe_48 : decode cX9_firstThatCanNotBe 48 = .ok (.ifCond .ne 5, 3) := by decide +kernel
theorem dX9_firstThatCanNotBe_51 : decode cX9_firstThatCanNotBe 51 = .ok (.iload_n 2, 1) := by decide +kernel
theorem dX9_firstThatCanNotBe_52 : decode cX9_firstThatCanNotBe 52 = .ok (.ireturn, 1) := by decide +kernel
theorem dX9_firstThatCanNotBe_53 : decode cX9_firstThatCanNotBe 53 = .ok (.iinc 2 1, 3) := by decide +kernel
theorem dX9_firstThatCanNotBe_56 : decode cX9_firstThatCanNotBe 56 = .ok (.goto (-43), 3) := by decide +kernel
theorem dX9_firstThatCanNotBe_59 : decode cX9_firstThatCanNotBe 59 = .ok (.bipush (-9), 2) := by decide +kernel
theorem dX9_firstThatCanNotBe_61 : decode cX9_firstThatCanNotBe 61 = .ok (.ireturn, 1) := by decide +kernel
theorem dX9_hear_0 : decode cX9_hear 0 = .ok (.iload_n 1, 1) := by decide +kernel
theorem dX9_hear_1 : decode cX9_hear 1 = .ok (.invokestatic 164, 3) := by decide +kernel
theorem dX9_hear_4 : decode cX9_hear 4 = .ok (.ifCond .eq 18, 3) := by decide +kernel
theorem dX9_hear_7 : decode cX9_hear 7 = .ok (.iload_n 2, 1) := by decide +kernel
theorem dX9_hear_8 : decode cX9_hear 8 = .ok (.ifCond .lt 14, 3) := by decide +kernel
theorem dX9_hear_11 : decode cX9_hear 11 = .ok (.iload_n 2, 1) := by decide +kernel
theorem dX9_hear_12 : decode cX9_hear 12 = .ok (.aload_n 0, 1) := by decide +kernel
theorem dX9_hear_13 : decode cX9_hear 13 = .ok (.getfield 19, 3) := by decide +kernel
theorem dX9_hear_16 : decode cX9_hear 16 = .ok (.invokevirtual 241, 3) := by decide +kernel
theorem dX9_hear_19 : decode cX9_hear 19 = .ok (.if_icmp .le 6, 3) := by decide +kernel
theorem dX9_hear_22 : decode cX9_hear 22 = .ok (.bipush (-2), 2) := by decide +kernel
theorem dX9_hear_24 : decode cX9_hear 24 = .ok (.ireturn, 1) := by decide +kernel
theorem dX9_hear_25 : decode cX9_hear 25 = .ok (.aload_n 0, 1) := by decide +kernel
theorem dX9_hear_26 : decode cX9_hear 26 = .ok (.getfield 62, 3) := by decide +kernel
theorem dX9_hear_29 : decode cX9_hear 29 = .ok (.iload_n 1, 1) := by decide +kernel
theorem dX9_hear_30 : decode cX9_hear 30 = .ok (.iload_n 2, 1) := by decide +kernel
theorem dX9_hear_31 : decode cX9_hear 31 = .ok (.invokevirtual 244, 3) := by decide +kernel
theorem dX9_hear_34 : decode cX9_hear 34 = .ok (.ireturn, 1) := by decide +kernel
theorem dX9_unhear_0 : decode cX9_unhear 0 = .ok (.aload_n 0, 1) := by decide +kernel
theorem dX9_unhear_1 : decode cX9_unhear 1 = .ok (.getfield 62, 3) := by decide +kernel
theorem dX9_unhear_4 : decode cX9_unhear 4 = .ok (.invokevirtual 246, 3) := by decide +kernel
theorem dX9_unhear_7 : decode cX9_unhear 7 = .ok (.ireturn, 1) := by decide +kernel
theorem dX9_fit_0 : decode cX9_fit 0 = .ok (.iload_n 1, 1) := by decide +kernel
theorem dX9_fit_1 : decode cX9_fit 1 = .ok (.ifCond .lt 8, 3) := by decide +kernel
theorem dX9_fit_4 : decode cX9_fit 4 = .ok (.iload_n 1, 1) := by decide +kernel
theorem dX9_fit_5 : decode cX9_fit 5 = .ok (.iconst 2, 1) := by decide +kernel
theorem dX9_fit_6 : decode cX9_fit 6 = .ok (.if_icmp .le 6, 3) := by decide +kernel
theorem dX9_fit_9 : decode cX9_fit 9 = .ok (.bipush (-2), 2) := by decide +kernel
theorem dX9_fit_11 : decode cX9_fit 11 = .ok (.ireturn, 1) := by decide +kernel
theorem dX9_fit_12 : decode cX9_fit 12 = .ok (.aload_n 0, 1) := by decide +kernel
theorem dX9_fit_13 : decode cX9_fit 13 = .ok (.getfield 69, 3) := by decide +kernel
theorem dX9_fit_16 : decode cX9_fit 16 = .ok (.aload_n 0, 1) := by decide +kernel
theorem dX9_fit_17 : decode cX9_fit 17 = .ok (.getfield 62, 3) := by decide +kernel
theorem dX9_fit_20 : decode cX9_fit 20 = .ok (.iconst 0, 1) := by decide +kernel
theorem dX9_fit_21 : decode cX9_fit 21 = .ok (.invokevirtual 247, 3) := by decide +kernel
theorem dX9_fit_24 : decode cX9_fit 24 = .ok (.iload_n 1, 1) := by decide +kernel
theorem dX9_fit_25 : decode cX9_fit 25 = .ok (.ifCond .ne 11, 3) := by decide +kernel
theorem dX9_fit_28 : decode cX9_fit 28 = .ok (.aload_n 0, 1) := by decide +kernel
theorem dX9_fit_29 : decode cX9_fit 29 = .ok (.getfield 69, 3) := by decide +kernel
theorem dX9_fit_32 : decode cX9_fit 32 = .ok (.getfield 251, 3) := by decide +kernel
theorem dX9_fit_35 : decode cX9_fit 35 = .ok (.ireturn, 1) := by decide +kernel
theorem dX9_fit_36 : decode cX9_fit 36 = .ok (.aload_n 0, 1) := by decide +kernel
theorem dX9_fit_37 : decode cX9_fit 37 = .ok (.getfield 69, 3) := by decide +kernel
theorem dX9_fit_40 : decode cX9_fit 40 = .ok (.getfield 251, 3) := by decide +kernel
theorem dX9_fit_43 : decode cX9_fit 43 = .ok (.ifCond .ne 6, 3) := by decide +kernel
theorem dX9_fit_46 : decode cX9_fit 46 = .ok (.bipush (-9), 2) := by decide +kernel
theorem dX9_fit_48 : decode cX9_fit 48 = .ok (.ireturn, 1) := by decide +kernel
theorem dX9_fit_49 : decode cX9_fit 49 = .ok (.iload_n 1, 1) := by decide +kernel
theorem dX9_fit_50 : decode cX9_fit 50 = .ok (.iconst 1, 1) := by decide +kernel
theorem dX9_fit_51 : decode cX9_fit 51 = .ok (.if_icmp .ne 13, 3) := by decide +kernel
theorem dX9_fit_54 : decode cX9_fit 54 = .ok (.aload_n 0, 1) := by decide +kernel
theorem dX9_fit_55 : decode cX9_fit 55 = .ok (.getfield 69, 3) := by decide +kernel
theorem dX9_fit_58 : decode cX9_fit 58 = .ok (.getfield 254, 3) := by decide +kernel
theorem dX9_fit_61 : decode cX9_fit 61 = .ok (.goto 20, 3) := by decide +kernel
theorem dX9_fit_64 : decode cX9_fit 64 = .ok (.aload_n 0, 1) := by decide +kernel
theorem dX9_fit_65 : decode cX9_fit 65 = .ok (.getfield 19, 3) := by decide +kernel
theorem dX9_fit_68 : decode cX9_fit 68 = .ok (.invokevirtual 205, 3) := by decide +kernel
theorem dX9_fit_71 : decode cX9_fit 71 = .ok (.aload_n 0, 1) := by decide +kernel
theorem dX9_fit_72 : decode cX9_fit 72 = .ok (.getfield 69, 3) := by decide +kernel
theorem dX9_fit_75 : decode cX9_fit 75 = .ok (.getfield 257, 3) := by decide +kernel
theorem dX9_fit_78 : decode cX9_fit 78 = .ok (.iconst (-1), 1) := by decide +kernel
theorem dX9_fit_79 : decode cX9_fit 79 = .ok (.ixor, 1) := by decide +kernel
theorem dX9_fit_80 : decode cX9_fit 80 = .ok (.iand, 1) := by decide +kernel
theorem dX9_fit_81 : decode cX9_fit 81 = .ok (.ireturn, 1) := by decide +kernel
theorem dX9_likely_0 : decode cX9_likely 0 = .ok (.iload_n 1, 1) := by decide +kernel
theorem dX9_likely_1 : decode cX9_likely 1 = .ok (.invokestatic 164, 3) := by decide +kernel
theorem dX9_likely_4 : decode cX9_likely 4 = .ok (.ifCond .ne 6, 3) := by decide +kernel
theorem dX9_likely_7 : decode cX9_likely 7 = .ok (.bipush (-2), 2) := by decide +kernel
theorem dX9_likely_9 : decode cX9_likely 9 = .ok (.ireturn, 1) := by decide +kernel
theorem dX9_likely_10 : decode cX9_likely 10 = .ok (.aload_n 0, 1) := by decide +kernel
theorem dX9_likely_11 : decode cX9_likely 11 = .ok (.getfield 69, 3) := by decide +kernel
theorem dX9_likely_14 : decode cX9_likely 14 = .ok (.aload_n 0, 1) := by decide +kernel
theorem dX9_likely_15 : decode cX9_likely 15 = .ok (.getfield 62, 3) := by decide +kernel
theorem dX9_likely_18 : decode cX9_likely 18 = .ok (.ldc_w 260, 3) := by decide +kernel
theorem dX9_likely_21 : decode cX9_likely 21 = .ok (.iload_n 1, 1) := by decide +kernel
theorem dX9_likely_22 : decode cX9_likely 22 = .ok (.ishl, 1) := by decide +kernel
theorem dX9_likely_23 : decode cX9_likely 23 = .ok (.invokevirtual 247, 3) := by decide +kernel
theorem dX9_likely_26 : decode cX9_likely 26 = .ok (.aload_n 0, 1) := by decide +kernel
theorem dX9_likely_27 : decode cX9_likely 27 = .ok (.getfield 69, 3) := by decide +kernel
theorem dX9_likely_30 : decode cX9_likely 30 = .ok (.getfield 251, 3) := by decide +kernel
theorem dX9_likely_33 : decode cX9_likely 33 = .ok (.ifCond .ne 6, 3) := by decide +kernel
theorem dX9_likely_36 : decode cX9_likely 36 = .ok (.bipush (-3), 2) := by decide +kernel
theorem dX9_likely_38 : decode cX9_likely 38 = .ok (.ireturn, 1) := by decide +kernel
theorem dX9_likely_39 : decode cX9_likely 39 = .ok (.aload_n 0, 1) := by decide +kernel
theorem dX9_likely_40 : decode cX9_likely 40 = .ok (.getfield 69, 3) := by decide +kernel
theorem dX9_likely_43 : decode cX9_likely 43 = .ok (.getfield 251, 3) := by decide +kernel
theorem dX9_likely_46 : decode cX9_likely 46 = .ok (.aload_n 0, 1) := by decide +kernel
theorem dX9_likely_47 : decode cX9_likely 47 = .ok (.getfield 69, 3) := by decide +kernel
theorem dX9_likely_50 : decode cX9_likely 50 = .ok (.getfield 261, 3) := by decide +kernel
theorem dX9_likely_53 : decode cX9_likely 53 = .ok (.isub, 1) := by decide +kernel
theorem dX9_likely_54 : decode cX9_likely 54 = .ok (.istore_n 3, 1) := by decide +kernel
theorem dX9_likely_55 : decode cX9_likely 55 = .ok (.aload_n 0, 1) := by decide +kernel
theorem dX9_likely_56 : decode cX9_likely 56 = .ok (.getfield 69, 3) := by decide +kernel
theorem dX9_likely_59 : decode cX9_likely 59 = .ok (.getfield 251, 3) := by decide +kernel
theorem dX9_likely_62 : decode cX9_likely 62 = .ok (.iload_n 3, 1) := by decide +kernel
theorem dX9_likely_63 : decode cX9_likely 63 = .ok (.invokestatic 264, 3) := by decide +kernel
theorem dX9_likely_66 : decode cX9_likely 66 = .ok (.istore 4, 2) := by decide +kernel
theorem dX9_likely_68 : decode cX9_likely 68 = .ok (.iload 4, 2) := by decide +kernel
theorem dX9_likely_70 : decode cX9_likely 70 = .ok (.iconst 1, 1) := by decide +kernel
theorem dX9_likely_71 : decode cX9_likely 71 = .ok (.if_icmp .ge 6, 3) := by decide +kernel
theorem dX9_likely_74 : decode cX9_likely 74 = .ok (.bipush (-3), 2) := by decide +kernel
theorem dX9_likely_76 : decode cX9_likely 76 = .ok (.ireturn, 1) := by decide +kernel
theorem dX9_likely_77 : decode cX9_likely 77 = .ok (.iload_n 2, 1) := by decide +kernel
theorem dX9_likely_78 : decode cX9_likely 78 = .ok (.ifCond .eq 7, 3) := by decide +kernel
theorem dX9_likely_81 : decode cX9_likely 81 = .ok (.iload_n 3, 1) := by decide +kernel
theorem dX9_likely_82 : decode cX9_likely 82 = .ok (.goto 10, 3) := by decide +kernel
theorem dX9_likely_85 : decode cX9_likely 85 = .ok (.aload_n 0, 1) := by decide +kernel
theorem dX9_likely_86 : decode cX9_likely 86 = .ok (.getfield 69, 3) := by decide +kernel
theorem dX9_likely_89 : decode cX9_likely 89 = .ok (.getfield 251, 3) := by decide +kernel
theorem dX9_likely_92 : decode cX9_likely 92 = .ok (.iload 4, 2) := by decide +kernel
theorem dX9_likely_94 : decode cX9_likely 94 = .ok (.idiv, 1) := by decide +kernel
theorem dX9_likely_95 : decode cX9_likely 95 = .ok (.ireturn, 1) := by decide +kernel
theorem dX9_unwanted_0 : decode cX9_unwanted 0 = .ok (.sipush 1023, 3) := by decide +kernel
theorem dX9_unwanted_3 : decode cX9_unwanted 3 = .ok (.aload_n 0, 1) := by decide +kernel
theorem dX9_unwanted_4 : decode cX9_unwanted 4 = .ok (.getfield 19, 3) := by decide +kernel
theorem dX9_unwanted_7 : decode cX9_unwanted 7 = .ok (.invokevirtual 267, 3) := by decide +kernel
theorem dX9_unwanted_10 : decode cX9_unwanted 10 = .ok (.iconst (-1), 1) := by decide +kernel
theorem dX9_unwanted_11 : decode cX9_unwanted 11 = .ok (.ixor, 1) := by decide +kernel
theorem dX9_unwanted_12 : decode cX9_unwanted 12 = .ok (.iand, 1) := by decide +kernel
theorem dX9_unwanted_13 : decode cX9_unwanted 13 = .ok (.ireturn, 1) := by decide +kernel
theorem dX9_sealed_0 : decode cX9_sealed 0 = .ok (.iload_n 1, 1) := by decide +kernel
theorem dX9_sealed_1 : decode cX9_sealed 1 = .ok (.invokestatic 270, 3) := by decide +kernel
theorem dX9_sealed_4 : decode cX9_sealed 4 = .ok (.ifCond .eq 19, 3) := by decide +kernel
theorem dX9_sealed_7 : decode cX9_sealed 7 = .ok (.iload_n 2, 1) := by decide +kernel
theorem dX9_sealed_8 : decode cX9_sealed 8 = .ok (.invokestatic 270, 3) := by decide +kernel
theorem dX9_sealed_11 : decode cX9_sealed 11 = .ok (.ifCond .eq 12, 3) := by decide +kernel
theorem dX9_sealed_14 : decode cX9_sealed 14 = .ok (.iload_n 3, 1) := by decide +kernel
theorem dX9_sealed_15 : decode cX9_sealed 15 = .ok (.ifCond .lt 8, 3) := by decide +kernel
theorem dX9_sealed_18 : decode cX9_sealed 18 = .ok (.iload_n 3, 1) := by decide +kernel
theorem dX9_sealed_19 : decode cX9_sealed 19 = .ok (.iconst 1, 1) := by decide +kernel
theorem dX9_sealed_20 : decode cX9_sealed 20 = .ok (.if_icmp .le 6, 3) := by decide +kernel
theorem dX9_sealed_23 : decode cX9_sealed 23 = .ok (.bipush (-2), 2) := by decide +kernel
theorem dX9_sealed_25 : decode cX9_sealed 25 = .ok (.ireturn, 1) := by decide +kernel
theorem dX9_sealed_26 : decode cX9_sealed 26 = .ok (.iconst 0, 1) := by decide +kernel
theorem dX9_sealed_27 : decode cX9_sealed 27 = .ok (.istore 4, 2) := by decide +kernel
theorem dX9_sealed_29 : decode cX9_sealed 29 = .ok (.bipush (-9), 2) := by decide +kernel
theorem dX9_sealed_31 : decode cX9_sealed 31 = .ok (.istore 5, 2) := by decide +kernel
theorem dX9_sealed_33 : decode cX9_sealed 33 = .ok (.iconst 0, 1) := by decide +kernel
theorem dX9_sealed_34 : decode cX9_sealed 34 = .ok (.istore 6, 2) := by decide +kernel
theorem dX9_sealed_36 : decode cX9_sealed 36 = .ok (.iload 6, 2) := by decide +kernel
theorem dX9_sealed_38 : decode cX9_sealed 38 = .ok (.bipush 9, 2) := by decide +kernel
theorem dX9_sealed_40 : decode cX9_sealed 40 = .ok (.if_icmp .gt 62, 3) := by decide +kernel
theorem dX9_sealed_43 : decode cX9_sealed 43 = .ok (.iconst 0, 1) := by decide +kernel
theorem dX9_sealed_44 : decode cX9_sealed 44 = .ok (.istore 7, 2) := by decide +kernel
theorem dX9_sealed_46 : decode cX9_sealed 46 = .ok (.iload 7, 2) := by decide +kernel
theorem dX9_sealed_48 : decode cX9_sealed 48 = .ok (.bipush 9, 2) := by decide +kernel
theorem dX9_sealed_50 : decode cX9_sealed 50 = .ok (.if_icmp .gt 46, 3) := by decide +kernel
theorem dX9_sealed_53 : decode cX9_sealed 53 = .ok (.iload_n 1, 1) := by decide +kernel
theorem dX9_sealed_54 : decode cX9_sealed 54 = .ok (.iload_n 2, 1) := by decide +kernel
theorem dX9_sealed_55 : decode cX9_sealed 55 = .ok (.iload 6, 2) := by decide +kernel
theorem dX9_sealed_57 : decode cX9_sealed 57 = .ok (.iload 7, 2) := by decide +kernel
theorem dX9_sealed_59 : decode cX9_sealed 59 = .ok (.invokestatic 273, 3) := by decide +kernel
theorem dX9_sealed_62 : decode cX9_sealed 62 = .ok (.ifCond .eq 28, 3) := by decide +kernel
theorem dX9_sealed_65 : decode cX9_sealed 65 = .ok (.iinc 4 1, 3) := by decide +kernel
theorem dX9_sealed_68 : decode cX9_sealed 68 = .ok (.iload 5, 2) := by decide +kernel
theorem dX9_sealed_70 : decode cX9_sealed 70 = .ok (.bipush (-9), 2) := by decide +kernel
theorem dX9_sealed_72 : decode cX9_sealed 72 = .ok (.if_icmp .ne 14, 3) := by decide +kernel
theorem dX9_sealed_75 : decode cX9_sealed 75 = .ok (.bipush 10, 2) := by decide +kernel
theorem dX9_sealed_77 : decode cX9_sealed 77 = .ok (.iload 6, 2) := by decide +kernel
theorem dX9_sealed_79 : decode cX9_sealed 79 = .ok (.imul, 1) := by decide +kernel
theorem dX9_sealed_80 : decode cX9_sealed 80 = .ok (.iload 7, 2) := by decide +kernel
theorem dX9_sealed_82 : decode cX9_sealed 82 = .ok (.iadd, 1) := by decide +kernel
theorem dX9_sealed_83 : decode cX9_sealed 83 = .ok (.goto 5, 3) := by decide +kernel
theorem dX9_sealed_86 : decode cX9_sealed 86 = .ok (.iload 5, 2) := by decide +kernel
theorem dX9_sealed_88 : decode cX9_sealed 88 = .ok (.istore 5, 2) := by decide +kernel
theorem dX9_sealed_90 : decode cX9_sealed 90 = .ok (.iinc 7 1, 3) := by decide +kernel
theorem dX9_sealed_93 : decode cX9_sealed 93 = .ok (.goto (-47), 3) := by decide +kernel
theorem dX9_sealed_96 : decode cX9_sealed 96 = .ok (.iinc 6 1, 3) := by decide +kernel
theorem dX9_sealed_99 : decode cX9_sealed 99 = .ok (.goto (-63), 3) := by decide +kernel
theorem dX9_sealed_102 : decode cX9_sealed 102 = .ok (.iload_n 3, 1) := by decide +kernel
theorem dX9_sealed_103 : decode cX9_sealed 103 = .ok (.ifCond .ne 8, 3) := by decide +kernel
theorem dX9_sealed_106 : decode cX9_sealed 106 = .ok (.iload 4, 2) := by decide +kernel
theorem dX9_sealed_108 : decode cX9_sealed 108 = .ok (.goto 5, 3) := by decide +kernel
theorem dX9_sealed_111 : decode cX9_sealed 111 = .ok (.iload 5, 2) := by decide +kernel
theorem dX9_sealed_113 : decode cX9_sealed 113 = .ok (.ireturn, 1) := by decide +kernel
theorem dX9_seed_0 : decode cX9_seed 0 = .ok (.aload_n 0, 1) := by decide +kernel
theorem dX9_seed_1 : decode cX9_seed 1 = .ok (.getfield 84, 3) := by decide +kernel
theorem dX9_seed_4 : decode cX9_seed 4 = .ok (.lstore_n 3, 1) := by decide +kernel
theorem dX9_seed_5 : decode cX9_seed 5 = .ok (.aload_n 0, 1) := by decide +kernel
theorem dX9_seed_6 : decode cX9_seed 6 = .ok (.lload_n 1, 1) := by decide +kernel
theorem dX9_seed_7 : decode cX9_seed 7 = .ok (.putfield 84, 3) := by decide +kernel
theorem dX9_seed_10 : decode cX9_seed 10 = .ok (.lload_n 3, 1) := by decide +kernel
theorem dX9_seed_11 : decode cX9_seed 11 = .ok (.lreturn, 1) := by decide +kernel
theorem dX9_day_0 : decode cX9_day 0 = .ok (.iload_n 1, 1) := by decide +kernel
theorem dX9_day_1 : decode cX9_day 1 = .ok (.iconst 1, 1) := by decide +kernel
theorem dX9_day_2 : decode cX9_day 2 = .ok (.if_icmp .lt 9, 3) := by decide +kernel
theorem dX9_day_5 : decode cX9_day 5 = .ok (.iload_n 1, 1) := by decide +kernel
theorem dX9_day_6 : decode cX9_day 6 = .ok (.bipush 20, 2) := by decide +kernel
theorem dX9_day_8 : decode cX9_day 8 = .ok (.if_icmp .le 6, 3) := by decide +kernel
theorem dX9_day_11 : decode cX9_day 11 = .ok (.bipush (-2), 2) := by decide +kernel
theorem dX9_day_13 : decode cX9_day 13 = .ok (.ireturn, 1) := by decide +kernel
theorem dX9_day_14 : decode cX9_day 14 = .ok (.aload_n 0, 1) := by decide +kernel
theorem dX9_day_15 : decode cX9_day 15 = .ok (.getfield 32, 3) := by decide +kernel
theorem dX9_day_18 : decode cX9_day 18 = .ok (.aload_n 0, 1) := by decide +kernel
theorem dX9_day_19 : decode cX9_day 19 = .ok (.getfield 28, 3) := by decide +kernel
end
section
theorem dX9_day_22 : decode cX9_day 22 = .ok (.invokevirtual 235, 3) := by decide +kernel
theorem dX9_day_25 : decode cX9_day 25 = .ok (.iconst 0, 1) := by decide +kernel
theorem dX9_day_26 : decode cX9_day 26 = .ok (.istore_n 2, 1) := by decide +kernel
theorem dX9_day_27 : decode cX9_day 27 = .ok (.iload_n 2, 1) := by decide +kernel
theorem dX9_day_28 : decode cX9_day 28 = .ok (.iload_n 1, 1) := by decide +kernel
theorem dX9_day_29 : decode cX9_day 29 = .ok (.if_icmp .ge 54, 3) := by decide +kernel
theorem dX9_day_32 : decode cX9_day 32 = .ok (.aload_n 0, 1) := by decide +kernel
theorem dX9_day_33 : decode cX9_day 33 = .ok (.aload_n 0, 1) := by decide +kernel
theorem dX9_day_34 : decode cX9_day 34 = .ok (.getfield 84, 3) := by decide +kernel
theorem dX9_day_37 : decode cX9_day 37 = .ok (.ldc2_w 277, 3) := by decide +kernel
theorem dX9_day_40 : decode cX9_day 40 = .ok (.lmul, 1) := by decide +kernel
theorem dX9_day_41 : decode cX9_day 41 = .ok (.ldc2_w 279, 3) := by decide +kernel
theorem dX9_day_44 : decode cX9_day 44 = .ok (.ladd, 1) := by decide +kernel
theorem dX9_day_45 : decode cX9_day 45 = .ok (.putfield 84, 3) := by decide +kernel
theorem dX9_day_48 : decode cX9_day 48 = .ok (.aload_n 0, 1) := by decide +kernel
theorem dX9_day_49 : decode cX9_day 49 = .ok (.getfield 84, 3) := by decide +kernel
theorem dX9_day_52 : decode cX9_day 52 = .ok (.bipush 33, 2) := by decide +kernel
theorem dX9_day_54 : decode cX9_day 54 = .ok (.lushr, 1) := by decide +kernel
theorem dX9_day_55 : decode cX9_day 55 = .ok (.ldc2_w 281, 3) := by decide +kernel
theorem dX9_day_58 : decode cX9_day 58 = .ok (.lrem, 1) := by decide +kernel
theorem dX9_day_59 : decode cX9_day 59 = .ok (.l2i, 1) := by decide +kernel
theorem dX9_day_60 : decode cX9_day 60 = .ok (.istore_n 3, 1) := by decide +kernel
theorem dX9_day_61 : decode cX9_day 61 = .ok (.aload_n 0, 1) := by decide +kernel
theorem dX9_day_62 : decode cX9_day 62 = .ok (.getfield 32, 3) := by decide +kernel
theorem dX9_day_65 : decode cX9_day 65 = .ok (.iload_n 3, 1) := by decide +kernel
theorem dX9_day_66 : decode cX9_day 66 = .ok (.bipush 10, 2) := by decide +kernel
theorem dX9_day_68 : decode cX9_day 68 = .ok (.idiv, 1) := by decide +kernel
theorem dX9_day_69 : decode cX9_day 69 = .ok (.iload_n 3, 1) := by decide +kernel
theorem dX9_day_70 : decode cX9_day 70 = .ok (.bipush 10, 2) := by decide +kernel
theorem dX9_day_72 : decode cX9_day 72 = .ok (.irem, 1) := by decide +kernel
theorem dX9_day_73 : decode cX9_day 73 = .ok (.invokevirtual 238, 3) := by decide +kernel
theorem dX9_day_76 : decode cX9_day 76 = .ok (.pop, 1) := by decide +kernel
theorem dX9_day_77 : decode cX9_day 77 = .ok (.iinc 2 1, 3) := by decide +kernel
theorem dX9_day_80 : decode cX9_day 80 = .ok (.goto (-53), 3) := by decide +kernel
theorem dX9_day_83 : decode cX9_day 83 = .ok (.aload_n 0, 1) := by decide +kernel
theorem dX9_day_84 : decode cX9_day 84 = .ok (.getfield 32, 3) := by decide +kernel
theorem dX9_day_87 : decode cX9_day 87 = .ok (.invokevirtual 187, 3) := by decide +kernel
theorem dX9_day_90 : decode cX9_day 90 = .ok (.ireturn, 1) := by decide +kernel
theorem dX9_keep_0 : decode cX9_keep 0 = .ok (.aload_n 0, 1) := by decide +kernel
theorem dX9_keep_1 : decode cX9_keep 1 = .ok (.iload_n 1, 1) := by decide +kernel
theorem dX9_keep_2 : decode cX9_keep 2 = .ok (.invokevirtual 283, 3) := by decide +kernel
theorem dX9_keep_5 : decode cX9_keep 5 = .ok (.astore_n 2, 1) := by decide +kernel
theorem dX9_keep_6 : decode cX9_keep 6 = .ok (.aload_n 2, 1) := by decide +kernel
theorem dX9_keep_7 : decode cX9_keep 7 = .ok (.ifnonnull 5, 3) := by decide +kernel
theorem dX9_keep_10 : decode cX9_keep 10 = .ok (.iconst (-1), 1) := by decide +kernel
theorem dX9_keep_11 : decode cX9_keep 11 = .ok (.ireturn, 1) := by decide +kernel
theorem dX9_keep_12 : decode cX9_keep 12 = .ok (.aload_n 2, 1) := by decide +kernel
theorem dX9_keep_13 : decode cX9_keep 13 = .ok (.aload_n 0, 1) := by decide +kernel
theorem dX9_keep_14 : decode cX9_keep 14 = .ok (.getfield 28, 3) := by decide +kernel
theorem dX9_keep_17 : decode cX9_keep 17 = .ok (.invokevirtual 287, 3) := by decide +kernel
theorem dX9_keep_20 : decode cX9_keep 20 = .ok (.aload_n 0, 1) := by decide +kernel
theorem dX9_keep_21 : decode cX9_keep 21 = .ok (.getfield 28, 3) := by decide +kernel
theorem dX9_keep_24 : decode cX9_keep 24 = .ok (.invokevirtual 187, 3) := by decide +kernel
theorem dX9_keep_27 : decode cX9_keep 27 = .ok (.ireturn, 1) := by decide +kernel
theorem dX9_again_0 : decode cX9_again 0 = .ok (.aload_n 0, 1) := by decide +kernel
theorem dX9_again_1 : decode cX9_again 1 = .ok (.iload_n 1, 1) := by decide +kernel
theorem dX9_again_2 : decode cX9_again 2 = .ok (.invokevirtual 283, 3) := by decide +kernel
theorem dX9_again_5 : decode cX9_again 5 = .ok (.astore_n 2, 1) := by decide +kernel
theorem dX9_again_6 : decode cX9_again 6 = .ok (.aload_n 2, 1) := by decide +kernel
theorem dX9_again_7 : decode cX9_again 7 = .ok (.ifnonnull 5, 3) := by decide +kernel
theorem dX9_again_10 : decode cX9_again 10 = .ok (.iconst (-1), 1) := by decide +kernel
theorem dX9_again_11 : decode cX9_again 11 = .ok (.ireturn, 1) := by decide +kernel
theorem dX9_again_12 : decode cX9_again 12 = .ok (.aload_n 2, 1) := by decide +kernel
theorem dX9_again_13 : decode cX9_again 13 = .ok (.getfield 290, 3) := by decide +kernel
theorem dX9_again_16 : decode cX9_again 16 = .ok (.ifCond .ne 6, 3) := by decide +kernel
theorem dX9_again_19 : decode cX9_again 19 = .ok (.bipush (-3), 2) := by decide +kernel
theorem dX9_again_21 : decode cX9_again 21 = .ok (.ireturn, 1) := by decide +kernel
theorem dX9_again_22 : decode cX9_again 22 = .ok (.aload_n 0, 1) := by decide +kernel
theorem dX9_again_23 : decode cX9_again 23 = .ok (.getfield 28, 3) := by decide +kernel
theorem dX9_again_26 : decode cX9_again 26 = .ok (.aload_n 2, 1) := by decide +kernel
theorem dX9_again_27 : decode cX9_again 27 = .ok (.getfield 294, 3) := by decide +kernel
theorem dX9_again_30 : decode cX9_again 30 = .ok (.invokevirtual 235, 3) := by decide +kernel
theorem dX9_again_33 : decode cX9_again 33 = .ok (.aload_n 0, 1) := by decide +kernel
theorem dX9_again_34 : decode cX9_again 34 = .ok (.getfield 48, 3) := by decide +kernel
theorem dX9_again_37 : decode cX9_again 37 = .ok (.invokevirtual 105, 3) := by decide +kernel
theorem dX9_again_40 : decode cX9_again 40 = .ok (.aload_n 0, 1) := by decide +kernel
theorem dX9_again_41 : decode cX9_again 41 = .ok (.getfield 28, 3) := by decide +kernel
theorem dX9_again_44 : decode cX9_again 44 = .ok (.invokevirtual 187, 3) := by decide +kernel
theorem dX9_again_47 : decode cX9_again 47 = .ok (.ireturn, 1) := by decide +kernel
theorem dX9_count_0 : decode cX9_count 0 = .ok (.iload_n 1, 1) := by decide +kernel
theorem dX9_count_1 : decode cX9_count 1 = .ok (.tableswitch 114 0 7 #[47, 55, 63, 71, 79, 87, 98, 106], 47) := by decide +kernel
theorem dX9_count_48 : decode cX9_count 48 = .ok (.aload_n 0, 1) := by decide +kernel
theorem dX9_count_49 : decode cX9_count 49 = .ok (.getfield 10, 3) := by decide +kernel
theorem dX9_count_52 : decode cX9_count 52 = .ok (.getfield 297, 3) := by decide +kernel
theorem dX9_count_55 : decode cX9_count 55 = .ok (.ireturn, 1) := by decide +kernel
theorem dX9_count_56 : decode cX9_count 56 = .ok (.aload_n 0, 1) := by decide +kernel
theorem dX9_count_57 : decode cX9_count 57 = .ok (.getfield 19, 3) := by decide +kernel
theorem dX9_count_60 : decode cX9_count 60 = .ok (.getfield 109, 3) := by decide +kernel
theorem dX9_count_63 : decode cX9_count 63 = .ok (.ireturn, 1) := by decide +kernel
theorem dX9_count_64 : decode cX9_count 64 = .ok (.aload_n 0, 1) := by decide +kernel
theorem dX9_count_65 : decode cX9_count 65 = .ok (.getfield 19, 3) := by decide +kernel
theorem dX9_count_68 : decode cX9_count 68 = .ok (.getfield 113, 3) := by decide +kernel
theorem dX9_count_71 : decode cX9_count 71 = .ok (.ireturn, 1) := by decide +kernel
theorem dX9_count_72 : decode cX9_count 72 = .ok (.aload_n 0, 1) := by decide +kernel
theorem dX9_count_73 : decode cX9_count 73 = .ok (.getfield 28, 3) := by decide +kernel
theorem dX9_count_76 : decode cX9_count 76 = .ok (.invokevirtual 300, 3) := by decide +kernel
theorem dX9_count_79 : decode cX9_count 79 = .ok (.ireturn, 1) := by decide +kernel
theorem dX9_count_80 : decode cX9_count 80 = .ok (.aload_n 0, 1) := by decide +kernel
theorem dX9_count_81 : decode cX9_count 81 = .ok (.getfield 28, 3) := by decide +kernel
theorem dX9_count_84 : decode cX9_count 84 = .ok (.invokevirtual 187, 3) := by decide +kernel
theorem dX9_count_87 : decode cX9_count 87 = .ok (.ireturn, 1) := by decide +kernel
theorem dX9_count_88 : decode cX9_count 88 = .ok (.aload_n 0, 1) := by decide +kernel
theorem dX9_count_89 : decode cX9_count 89 = .ok (.getfield 28, 3) := by decide +kernel
theorem dX9_count_92 : decode cX9_count 92 = .ok (.invokevirtual 130, 3) := by decide +kernel
theorem dX9_count_95 : decode cX9_count 95 = .ok (.invokestatic 303, 3) := by decide +kernel
theorem dX9_count_98 : decode cX9_count 98 = .ok (.ireturn, 1) := by decide +kernel
theorem dX9_count_99 : decode cX9_count 99 = .ok (.aload_n 0, 1) := by decide +kernel
theorem dX9_count_100 : decode cX9_count 100 = .ok (.getfield 48, 3) := by decide +kernel
theorem dX9_count_103 : decode cX9_count 103 = .ok (.getfield 190, 3) := by decide +kernel
theorem dX9_count_106 : decode cX9_count 106 = .ok (.ireturn, 1) := by decide +kernel
theorem dX9_count_107 : decode cX9_count 107 = .ok (.aload_n 0, 1) := by decide +kernel
theorem dX9_count_108 : decode cX9_count 108 = .ok (.getfield 62, 3) := by decide +kernel
theorem dX9_count_111 : decode cX9_count 111 = .ok (.getfield 306, 3) := by decide +kernel
theorem dX9_count_114 : decode cX9_count 114 = .ok (.ireturn, 1) := by decide +kernel
theorem dX9_count_115 : decode cX9_count 115 = .ok (.bipush (-2), 2) := by decide +kernel
theorem dX9_count_117 : decode cX9_count 117 = .ok (.ireturn, 1) := by decide +kernel
theorem dX9_slotOf_0 : decode cX9_slotOf 0 = .ok (.iload_n 1, 1) := by decide +kernel
theorem dX9_slotOf_1 : decode cX9_slotOf 1 = .ok (.ifCond .ne 8, 3) := by decide +kernel
theorem dX9_slotOf_4 : decode cX9_slotOf 4 = .ok (.aload_n 0, 1) := by decide +kernel
theorem dX9_slotOf_5 : decode cX9_slotOf 5 = .ok (.getfield 38, 3) := by decide +kernel
theorem dX9_slotOf_8 : decode cX9_slotOf 8 = .ok (.areturn, 1) := by decide +kernel
theorem dX9_slotOf_9 : decode cX9_slotOf 9 = .ok (.iload_n 1, 1) := by decide +kernel
theorem dX9_slotOf_10 : decode cX9_slotOf 10 = .ok (.iconst 1, 1) := by decide +kernel
theorem dX9_slotOf_11 : decode cX9_slotOf 11 = .ok (.if_icmp .ne 10, 3) := by decide +kernel
theorem dX9_slotOf_14 : decode cX9_slotOf 14 = .ok (.aload_n 0, 1) := by decide +kernel
theorem dX9_slotOf_15 : decode cX9_slotOf 15 = .ok (.getfield 42, 3) := by decide +kernel
theorem dX9_slotOf_18 : decode cX9_slotOf 18 = .ok (.goto 4, 3) := by decide +kernel
theorem dX9_slotOf_21 : decode cX9_slotOf 21 = .ok (.aconst_null, 1) := by decide +kernel
theorem dX9_slotOf_22 : decode cX9_slotOf 22 = .ok (.areturn, 1) := by decide +kernel
theorem dX9_isSecond_0 : decode cX9_isSecond 0 = .ok (.iload_n 0, 1) := by decide +kernel
theorem dX9_isSecond_1 : decode cX9_isSecond 1 = .ok (.ifCond .lt 13, 3) := by decide +kernel
theorem dX9_isSecond_4 : decode cX9_isSecond 4 = .ok (.iload_n 0, 1) := by decide +kernel
theorem dX9_isSecond_5 : decode cX9_isSecond 5 = .ok (.bipush 10, 2) := by decide +kernel
theorem dX9_isSecond_7 : decode cX9_isSecond 7 = .ok (.if_icmp .ge 7, 3) := by decide +kernel
theorem dX9_isSecond_10 : decode cX9_isSecond 10 = .ok (.iconst 1, 1) := by decide +kernel
theorem dX9_isSecond_11 : decode cX9_isSecond 11 = .ok (.goto 4, 3) := by decide +kernel
theorem dX9_isSecond_14 : decode cX9_isSecond 14 = .ok (.iconst 0, 1) := by decide +kernel
theorem dX9_isSecond_15 : decode cX9_isSecond 15 = .ok (.ireturn, 1) := by decide +kernel
theorem dX9_isBid_0 : decode cX9_isBid 0 = .ok (.iload_n 0, 1) := by decide +kernel
theorem dX9_isBid_1 : decode cX9_isBid 1 = .ok (.ifCond .lt 13, 3) := by decide +kernel
theorem dX9_isBid_4 : decode cX9_isBid 4 = .ok (.iload_n 0, 1) := by decide +kernel
theorem dX9_isBid_5 : decode cX9_isBid 5 = .ok (.bipush 9, 2) := by decide +kernel
theorem dX9_isBid_7 : decode cX9_isBid 7 = .ok (.if_icmp .gt 7, 3) := by decide +kernel
theorem dX9_isBid_10 : decode cX9_isBid 10 = .ok (.iconst 1, 1) := by decide +kernel
theorem dX9_isBid_11 : decode cX9_isBid 11 = .ok (.goto 4, 3) := by decide +kernel
theorem dX9_isBid_14 : decode cX9_isBid 14 = .ok (.iconst 0, 1) := by decide +kernel
theorem dX9_isBid_15 : decode cX9_isBid 15 = .ok (.ireturn, 1) := by decide +kernel
theorem dX9_at_0 : decode cX9_at 0 = .ok (.iload_n 1, 1) := by decide +kernel
theorem dX9_at_1 : decode cX9_at 1 = .ok (.ifCond .lt 15, 3) := by decide +kernel
theorem dX9_at_4 : decode cX9_at 4 = .ok (.iload_n 1, 1) := by decide +kernel
theorem dX9_at_5 : decode cX9_at 5 = .ok (.aload_n 0, 1) := by decide +kernel
theorem dX9_at_6 : decode cX9_at 6 = .ok (.arraylength, 1) := by decide +kernel
theorem dX9_at_7 : decode cX9_at 7 = .ok (.if_icmp .ge 9, 3) := by decide +kernel
theorem dX9_at_10 : decode cX9_at 10 = .ok (.aload_n 0, 1) := by decide +kernel
theorem dX9_at_11 : decode cX9_at 11 = .ok (.iload_n 1, 1) := by decide +kernel
theorem dX9_at_12 : decode cX9_at 12 = .ok (.iaload, 1) := by decide +kernel
theorem dX9_at_13 : decode cX9_at 13 = .ok (.goto 5, 3) := by decide +kernel
theorem dX9_at_16 : decode cX9_at 16 = .ok (.bipush (-9), 2) := by decide +kernel
theorem dX9_at_18 : decode cX9_at 18 = .ok (.ireturn, 1) := by decide +kernel
theorem dX9_stretch_0 : decode cX9_stretch 0 = .ok (.iconst 1, 1) := by decide +kernel
theorem dX9_stretch_1 : decode cX9_stretch 1 = .ok (.iload_n 1, 1) := by decide +kernel
theorem dX9_stretch_2 : decode cX9_stretch 2 = .ok (.ishl, 1) := by decide +kernel
theorem dX9_stretch_3 : decode cX9_stretch 3 = .ok (.iconst 1, 1) := by decide +kernel
theorem dX9_stretch_4 : decode cX9_stretch 4 = .ok (.isub, 1) := by decide +kernel
theorem dX9_stretch_5 : decode cX9_stretch 5 = .ok (.iload_n 0, 1) := by decide +kernel
theorem dX9_stretch_6 : decode cX9_stretch 6 = .ok (.ishl, 1) := by decide +kernel
theorem dX9_stretch_7 : decode cX9_stretch 7 = .ok (.ireturn, 1) := by decide +kernel
theorem dX9_secondsOf_0 : decode cX9_secondsOf 0 = .ok (.iload_n 0, 1) := by decide +kernel
theorem dX9_secondsOf_1 : decode cX9_secondsOf 1 = .ok (.bipush 10, 2) := by decide +kernel
theorem dX9_secondsOf_3 : decode cX9_secondsOf 3 = .ok (.iload_n 1, 1) := by decide +kernel
theorem dX9_secondsOf_4 : decode cX9_secondsOf 4 = .ok (.imul, 1) := by decide +kernel
theorem dX9_secondsOf_5 : decode cX9_secondsOf 5 = .ok (.iushr, 1) := by decide +kernel
theorem dX9_secondsOf_6 : decode cX9_secondsOf 6 = .ok (.sipush 1023, 3) := by decide +kernel
theorem dX9_secondsOf_9 : decode cX9_secondsOf 9 = .ok (.iand, 1) := by decide +kernel
theorem dX9_secondsOf_10 : decode cX9_secondsOf 10 = .ok (.ireturn, 1) := by decide +kernel
theorem dX9_ofAnyBell_0 : decode cX9_ofAnyBell 0 = .ok (.iload_n 0, 1) := by decide +kernel
theorem dX9_ofAnyBell_1 : decode cX9_ofAnyBell 1 = .ok (.iload_n 0, 1) := by decide +kernel
theorem dX9_ofAnyBell_2 : decode cX9_ofAnyBell 2 = .ok (.bipush 10, 2) := by decide +kernel
theorem dX9_ofAnyBell_4 : decode cX9_ofAnyBell 4 = .ok (.iushr, 1) := by decide +kernel
theorem dX9_ofAnyBell_5 : decode cX9_ofAnyBell 5 = .ok (.ior, 1) := by decide +kernel
theorem dX9_ofAnyBell_6 : decode cX9_ofAnyBell 6 = .ok (.iload_n 0, 1) := by decide +kernel
theorem dX9_ofAnyBell_7 : decode cX9_ofAnyBell 7 = .ok (.bipush 20, 2) := by decide +kernel
theorem dX9_ofAnyBell_9 : decode cX9_ofAnyBell 9 = .ok (.iushr, 1) := by decide +kernel
theorem dX9_ofAnyBell_10 : decode cX9_ofAnyBell 10 = .ok (.ior, 1) := by decide +kernel
theorem dX9_ofAnyBell_11 : decode cX9_ofAnyBell 11 = .ok (.sipush 1023, 3) := by decide +kernel
theorem dX9_ofAnyBell_14 : decode cX9_ofAnyBell 14 = .ok (.iand, 1) := by decide +kernel
theorem dX9_ofAnyBell_15 : decode cX9_ofAnyBell 15 = .ok (.ireturn, 1) := by decide +kernel
theorem dX9_bellsAt_0 : decode cX9_bellsAt 0 = .ok (.iconst 0, 1) := by decide +kernel
theorem dX9_bellsAt_1 : decode cX9_bellsAt 1 = .ok (.istore_n 2, 1) := by decide +kernel
theorem dX9_bellsAt_2 : decode cX9_bellsAt 2 = .ok (.iconst 0, 1) := by decide +kernel
theorem dX9_bellsAt_3 : decode cX9_bellsAt 3 = .ok (.istore_n 3, 1) := by decide +kernel
theorem dX9_bellsAt_4 : decode cX9_bellsAt 4 = .ok (.iload_n 3, 1) := by decide +kernel
theorem dX9_bellsAt_5 : decode cX9_bellsAt 5 = .ok (.iconst 3, 1) := by decide +kernel
theorem dX9_bellsAt_6 : decode cX9_bellsAt 6 = .ok (.if_icmp .ge 23, 3) := by decide +kernel
theorem dX9_bellsAt_9 : decode cX9_bellsAt 9 = .ok (.iload_n 2, 1) := by decide +kernel
theorem dX9_bellsAt_10 : decode cX9_bellsAt 10 = .ok (.iload_n 0, 1) := by decide +kernel
theorem dX9_bellsAt_11 : decode cX9_bellsAt 11 = .ok (.iload_n 3, 1) := by decide +kernel
theorem dX9_bellsAt_12 : decode cX9_bellsAt 12 = .ok (.invokestatic 133, 3) := by decide +kernel
theorem dX9_bellsAt_15 : decode cX9_bellsAt 15 = .ok (.iload_n 1, 1) := by decide +kernel
theorem dX9_bellsAt_16 : decode cX9_bellsAt 16 = .ok (.iushr, 1) := by decide +kernel
theorem dX9_bellsAt_17 : decode cX9_bellsAt 17 = .ok (.iconst 1, 1) := by decide +kernel
theorem dX9_bellsAt_18 : decode cX9_bellsAt 18 = .ok (.iand, 1) := by decide +kernel
theorem dX9_bellsAt_19 : decode cX9_bellsAt 19 = .ok (.iload_n 3, 1) := by decide +kernel
theorem dX9_bellsAt_20 : decode cX9_bellsAt 20 = .ok (.ishl, 1) := by decide +kernel
theorem dX9_bellsAt_21 : decode cX9_bellsAt 21 = .ok (.ior, 1) := by decide +kernel
theorem dX9_bellsAt_22 : decode cX9_bellsAt 22 = .ok (.istore_n 2, 1) := by decide +kernel
theorem dX9_bellsAt_23 : decode cX9_bellsAt 23 = .ok (.iinc 3 1, 3) := by decide +kernel
theorem dX9_bellsAt_26 : decode cX9_bellsAt 26 = .ok (.goto (-22), 3) := by decide +kernel
theorem dX9_bellsAt_29 : decode cX9_bellsAt 29 = .ok (.iload_n 2, 1) := by decide +kernel
theorem dX9_bellsAt_30 : decode cX9_bellsAt 30 = .ok (.ireturn, 1) := by decide +kernel
theorem dX9_commonDivisor_0 : decode cX9_commonDivisor 0 = .ok (.iload_n 0, 1) := by decide +kernel
theorem dX9_commonDivisor_1 : decode cX9_commonDivisor 1 = .ok (.istore_n 2, 1) := by decide +kernel
theorem dX9_commonDivisor_2 : decode cX9_commonDivisor 2 = .ok (.iload_n 1, 1) := by decide +kernel
theorem dX9_commonDivisor_3 : decode cX9_commonDivisor 3 = .ok (.istore_n 3, 1) := by decide +kernel
theorem dX9_commonDivisor_4 : decode cX9_commonDivisor 4 = .ok (.iconst 0, 1) := by decide +kernel
theorem dX9_commonDivisor_5 : decode cX9_commonDivisor 5 = .ok (.istore 4, 2) := by decide +kernel
theorem dX9_commonDivisor_7 : decode cX9_commonDivisor 7 = .ok (.iload 4, 2) := by decide +kernel
theorem dX9_commonDivisor_9 : decode cX9_commonDivisor 9 = .ok (.bipush 64, 2) := by decide +kernel
theorem dX9_commonDivisor_11 : decode cX9_commonDivisor 11 = .ok (.if_icmp .ge 23, 3) := by decide +kernel
theorem dX9_commonDivisor_14 : decode cX9_commonDivisor 14 = .ok (.iload_n 3, 1) := by decide +kernel
theorem dX9_commonDivisor_15 : decode cX9_commonDivisor 15 = .ok (.ifCond .eq 19, 3) := by decide +kernel
theorem dX9_commonDivisor_18 : decode cX9_commonDivisor 18 = .ok (.iload_n 2, 1) := by decide +kernel
theorem dX9_commonDivisor_19 : decode cX9_commonDivisor 19 = .ok (.iload_n 3, 1) := by decide +kernel
theorem dX9_commonDivisor_20 : decode cX9_commonDivisor 20 = .ok (.irem, 1) := by decide +kernel
theorem dX9_commonDivisor_21 : decode cX9_commonDivisor 21 = .ok (.istore 5, 2) := by decide +kernel
theorem dX9_commonDivisor_23 : decode cX9_commonDivisor 23 = .ok (.iload_n 3, 1) := by decide +kernel
theorem dX9_commonDivisor_24 : decode cX9_commonDivisor 24 = .ok (.istore_n 2, 1) := by decide +kernel
theorem dX9_commonDivisor_25 : decode cX9_commonDivisor 25 = .ok (.iload 5, 2) := by decide +kernel
theorem dX9_commonDivisor_27 : decode cX9_commonDivisor 27 = .ok (.istore_n 3, 1) := by decide +kernel
theorem dX9_commonDivisor_28 : decode cX9_commonDivisor 28 = .ok (.iinc 4 1, 3) := by decide +kernel
theorem dX9_commonDivisor_31 : decode cX9_commonDivisor 31 = .ok (.goto (-24), 3) := by decide +kernel
theorem dX9_commonDivisor_34 : decode cX9_commonDivisor 34 = .ok (.iload_n 2, 1) := by decide +kernel
theorem dX9_commonDivisor_35 : decode cX9_commonDivisor 35 = .ok (.ireturn, 1) := by decide +kernel
theorem dX9_rests_0 : decode cX9_rests 0 = .ok (.iconst 0, 1) := by decide +kernel
theorem dX9_rests_1 : decode cX9_rests 1 = .ok (.istore 4, 2) := by decide +kernel
theorem dX9_rests_3 : decode cX9_rests 3 = .ok (.iload 4, 2) := by decide +kernel
theorem dX9_rests_5 : decode cX9_rests 5 = .ok (.bipush 9, 2) := by decide +kernel
theorem dX9_rests_7 : decode cX9_rests 7 = .ok (.if_icmp .gt 45, 3) := by decide +kernel
theorem dX9_rests_10 : decode cX9_rests 10 = .ok (.iload_n 0, 1) := by decide +kernel
theorem dX9_rests_11 : decode cX9_rests 11 = .ok (.iload 4, 2) := by decide +kernel
theorem dX9_rests_13 : decode cX9_rests 13 = .ok (.iload_n 3, 1) := by decide +kernel
theorem dX9_rests_14 : decode cX9_rests 14 = .ok (.invokestatic 307, 3) := by decide +kernel
theorem dX9_rests_17 : decode cX9_rests 17 = .ok (.iload_n 0, 1) := by decide +kernel
theorem dX9_rests_18 : decode cX9_rests 18 = .ok (.iload_n 2, 1) := by decide +kernel
theorem dX9_rests_19 : decode cX9_rests 19 = .ok (.iload_n 3, 1) := by decide +kernel
theorem dX9_rests_20 : decode cX9_rests 20 = .ok (.invokestatic 307, 3) := by decide +kernel
theorem dX9_rests_23 : decode cX9_rests 23 = .ok (.if_icmp .le 5, 3) := by decide +kernel
theorem dX9_rests_26 : decode cX9_rests 26 = .ok (.iconst 0, 1) := by decide +kernel
theorem dX9_rests_27 : decode cX9_rests 27 = .ok (.ireturn, 1) := by decide +kernel
theorem dX9_rests_28 : decode cX9_rests 28 = .ok (.iload_n 1, 1) := by decide +kernel
theorem dX9_rests_29 : decode cX9_rests 29 = .ok (.iload_n 2, 1) := by decide +kernel
theorem dX9_rests_30 : decode cX9_rests 30 = .ok (.iload 4, 2) := by decide +kernel
theorem dX9_rests_32 : decode cX9_rests 32 = .ok (.invokestatic 311, 3) := by decide +kernel
theorem dX9_rests_35 : decode cX9_rests 35 = .ok (.iload_n 1, 1) := by decide +kernel
theorem dX9_rests_36 : decode cX9_rests 36 = .ok (.iload_n 2, 1) := by decide +kernel
theorem dX9_rests_37 : decode cX9_rests 37 = .ok (.iload_n 3, 1) := by decide +kernel
theorem dX9_rests_38 : decode cX9_rests 38 = .ok (.invokestatic 311, 3) := by decide +kernel
theorem dX9_rests_41 : decode cX9_rests 41 = .ok (.if_icmp .le 5, 3) := by decide +kernel
theorem dX9_rests_44 : decode cX9_rests 44 = .ok (.iconst 0, 1) := by decide +kernel
theorem dX9_rests_45 : decode cX9_rests 45 = .ok (.ireturn, 1) := by decide +kernel
theorem dX9_rests_46 : decode cX9_rests 46 = .ok (.iinc 4 1, 3) := by decide +kernel
theorem dX9_rests_49 : decode cX9_rests 49 = .ok (.goto (-46), 3) := by decide +kernel
theorem dX9_rests_52 : decode cX9_rests 52 = .ok (.iconst 1, 1) := by decide +kernel
theorem dX9_rests_53 : decode cX9_rests 53 = .ok (.ireturn, 1) := by decide +kernel
theorem dX9_gainOfOne_0 : decode cX9_gainOfOne 0 = .ok (.iload_n 1, 1) := by decide +kernel
theorem dX9_gainOfOne_1 : decode cX9_gainOfOne 1 = .ok (.iload_n 2, 1) := by decide +kernel
theorem dX9_gainOfOne_2 : decode cX9_gainOfOne 2 = .ok (.if_icmp .lt 9, 3) := by decide +kernel
theorem dX9_gainOfOne_5 : decode cX9_gainOfOne 5 = .ok (.iload_n 0, 1) := by decide +kernel
theorem dX9_gainOfOne_6 : decode cX9_gainOfOne 6 = .ok (.iload_n 1, 1) := by decide +kernel
theorem dX9_gainOfOne_7 : decode cX9_gainOfOne 7 = .ok (.isub, 1) := by decide +kernel
theorem dX9_gainOfOne_8 : decode cX9_gainOfOne 8 = .ok (.goto 4, 3) := by decide +kernel
theorem dX9_gainOfOne_11 : decode cX9_gainOfOne 11 = .ok (.iconst 0, 1) := by decide +kernel
theorem dX9_gainOfOne_12 : decode cX9_gainOfOne 12 = .ok (.ireturn, 1) := by decide +kernel
theorem dX9_gainOfOther_0 : decode cX9_gainOfOther 0 = .ok (.iload_n 2, 1) := by decide +kernel
theorem dX9_gainOfOther_1 : decode cX9_gainOfOther 1 = .ok (.iload_n 1, 1) := by decide +kernel
theorem dX9_gainOfOther_2 : decode cX9_gainOfOther 2 = .ok (.if_icmp .le 9, 3) := by decide +kernel
theorem dX9_gainOfOther_5 : decode cX9_gainOfOther 5 = .ok (.iload_n 0, 1) := by decide +kernel
theorem dX9_gainOfOther_6 : decode cX9_gainOfOther 6 = .ok (.iload_n 2, 1) := by decide +kernel
theorem dX9_gainOfOther_7 : decode cX9_gainOfOther 7 = .ok (.isub, 1) := by decide +kernel
theorem dX9_gainOfOther_8 : decode cX9_gainOfOther 8 = .ok (.goto 4, 3) := by decide +kernel
theorem dX9_gainOfOther_11 : decode cX9_gainOfOther 11 = .ok (.iconst 0, 1) := by decide +kernel
theorem dX9_gainOfOther_12 : decode cX9_gainOfOther 12 = .ok (.ireturn, 1) := by decide +kernel
end
section
theorem dX10_init_0 : decode cX10_init 0 = .ok (.aload_n 0, 1) := by decide +kernel
theorem dX10_init_1 : decode cX10_init 1 = .ok (.invokespecial 1, 3) := by decide +kernel
theorem dX10_init_4 : decode cX10_init 4 = .ok (.aload_n 0, 1) := by decide +kernel
theorem dX10_init_5 : decode cX10_init 5 = .ok (.iconst 3, 1) := by decide +kernel
theorem dX10_init_6 : decode cX10_init 6 = .ok (.newarray .int, 2) := by decide +kernel
theorem dX10_init_8 : decode cX10_init 8 = .ok (.putfield 7, 3) := by decide +kernel
theorem dX10_init_11 : decode cX10_init 11 = .ok (.aload_n 0, 1) := by decide +kernel
theorem dX10_init_12 : decode cX10_init 12 = .ok (.iconst 3, 1) := by decide +kernel
theorem dX10_init_13 : decode cX10_init 13 = .ok (.newarray .int, 2) := by decide +kernel
theorem dX10_init_15 : decode cX10_init 15 = .ok (.putfield 13, 3) := by decide +kernel
theorem dX10_init_18 : decode cX10_init 18 = .ok (.aload_n 0, 1) := by decide +kernel
theorem dX10_init_19 : decode cX10_init 19 = .ok (.bipush 30, 2) := by decide +kernel
theorem dX10_init_21 : decode cX10_init 21 = .ok (.newarray .int, 2) := by decide +kernel
theorem dX10_init_23 : decode cX10_init 23 = .ok (.putfield 16, 3) := by decide +kernel
theorem dX10_init_26 : decode cX10_init 26 = .ok (.aload_n 0, 1) := by decide +kernel
theorem dX10_init_27 : decode cX10_init 27 = .ok (.bipush 6, 2) := by decide +kernel
theorem dX10_init_29 : decode cX10_init 29 = .ok (.newarray .int, 2) := by decide +kernel
theorem dX10_init_31 : decode cX10_init 31 = .ok (.putfield 19, 3) := by decide +kernel
theorem dX10_init_34 : decode cX10_init 34 = .ok (.aload_n 0, 1) := by decide +kernel
theorem dX10_init_35 : decode cX10_init 35 = .ok (.bipush 30, 2) := by decide +kernel
theorem dX10_init_37 : decode cX10_init 37 = .ok (.newarray .int, 2) := by decide +kernel
theorem dX10_init_39 : decode cX10_init 39 = .ok (.putfield 22, 3) := by decide +kernel
theorem dX10_init_42 : decode cX10_init 42 = .ok (.aload_n 0, 1) := by decide +kernel
theorem dX10_init_43 : decode cX10_init 43 = .ok (.iconst 5, 1) := by decide +kernel
theorem dX10_init_44 : decode cX10_init 44 = .ok (.newarray .int, 2) := by decide +kernel
theorem dX10_init_46 : decode cX10_init 46 = .ok (.putfield 25, 3) := by decide +kernel
theorem dX10_init_49 : decode cX10_init 49 = .ok (.aload_n 0, 1) := by decide +kernel
theorem dX10_init_50 : decode cX10_init 50 = .ok (.bipush 48, 2) := by decide +kernel
theorem dX10_init_52 : decode cX10_init 52 = .ok (.newarray .int, 2) := by decide +kernel
theorem dX10_init_54 : decode cX10_init 54 = .ok (.putfield 28, 3) := by decide +kernel
theorem dX10_init_57 : decode cX10_init 57 = .ok (.aload_n 0, 1) := by decide +kernel
theorem dX10_init_58 : decode cX10_init 58 = .ok (.bipush 80, 2) := by decide +kernel
theorem dX10_init_60 : decode cX10_init 60 = .ok (.newarray .int, 2) := by decide +kernel
theorem dX10_init_62 : decode cX10_init 62 = .ok (.putfield 31, 3) := by decide +kernel
theorem dX10_init_65 : decode cX10_init 65 = .ok (.aload_n 0, 1) := by decide +kernel
theorem dX10_init_66 : decode cX10_init 66 = .ok (.iconst 5, 1) := by decide +kernel
theorem dX10_init_67 : decode cX10_init 67 = .ok (.newarray .int, 2) := by decide +kernel
theorem dX10_init_69 : decode cX10_init 69 = .ok (.putfield 34, 3) := by decide +kernel
theorem dX10_init_72 : decode cX10_init 72 = .ok (.aload_n 0, 1) := by decide +kernel
theorem dX10_init_73 : decode cX10_init 73 = .ok (.iconst 5, 1) := by decide +kernel
theorem dX10_init_74 : decode cX10_init 74 = .ok (.newarray .int, 2) := by decide +kernel
theorem dX10_init_76 : decode cX10_init 76 = .ok (.putfield 37, 3) := by decide +kernel
theorem dX10_init_79 : decode cX10_init 79 = .ok (.aload_n 0, 1) := by decide +kernel
theorem dX10_init_80 : decode cX10_init 80 = .ok (.bipush 32, 2) := by decide +kernel
theorem dX10_init_82 : decode cX10_init 82 = .ok (.newarray .boolean, 2) := by decide +kernel
theorem dX10_init_84 : decode cX10_init 84 = .ok (.putfield 40, 3) := by decide +kernel
theorem dX10_init_87 : decode cX10_init 87 = .ok (.aload_n 0, 1) := by decide +kernel
theorem dX10_init_88 : decode cX10_init 88 = .ok (.bipush 10, 2) := by decide +kernel
theorem dX10_init_90 : decode cX10_init 90 = .ok (.newarray .int, 2) := by decide +kernel
theorem dX10_init_92 : decode cX10_init 92 = .ok (.putfield 44, 3) := by decide +kernel
theorem dX10_init_95 : decode cX10_init 95 = .ok (.aload_n 0, 1) := by decide +kernel
theorem dX10_init_96 : decode cX10_init 96 = .ok (.bipush 50, 2) := by decide +kernel
theorem dX10_init_98 : decode cX10_init 98 = .ok (.newarray .boolean, 2) := by decide +kernel
theorem dX10_init_100 : decode cX10_init 100 = .ok (.putfield 47, 3) := by decide +kernel
theorem dX10_init_103 : decode cX10_init 103 = .ok (.aload_n 0, 1) := by decide +kernel
theorem dX10_init_104 : decode cX10_init 104 = .ok (.bipush 50, 2) := by decide +kernel
theorem dX10_init_106 : decode cX10_init 106 = .ok (.newarray .int, 2) := by decide +kernel
theorem dX10_init_108 : decode cX10_init 108 = .ok (.putfield 50, 3) := by decide +kernel
theorem dX10_init_111 : decode cX10_init 111 = .ok (.aload_n 0, 1) := by decide +kernel
theorem dX10_init_112 : decode cX10_init 112 = .ok (.bipush 50, 2) := by decide +kernel
theorem dX10_init_114 : decode cX10_init 114 = .ok (.newarray .int, 2) := by decide +kernel
theorem dX10_init_116 : decode cX10_init 116 = .ok (.putfield 53, 3) := by decide +kernel
theorem dX10_init_119 : decode cX10_init 119 = .ok (.aload_n 0, 1) := by decide +kernel
theorem dX10_init_120 : decode cX10_init 120 = .ok (.iconst 3, 1) := by decide +kernel
theorem dX10_init_121 : decode cX10_init 121 = .ok (.newarray .int, 2) := by decide +kernel
theorem dX10_init_123 : decode cX10_init 123 = .ok (.putfield 56, 3) := by decide +kernel
theorem dX10_init_126 : decode cX10_init 126 = .ok (.aload_n 0, 1) := by decide +kernel
theorem dX10_init_127 : decode cX10_init 127 = .ok (.bipush 15, 2) := by decide +kernel
theorem dX10_init_129 : decode cX10_init 129 = .ok (.newarray .int, 2) := by decide +kernel
theorem dX10_init_131 : decode cX10_init 131 = .ok (.putfield 59, 3) := by decide +kernel
theorem dX10_init_134 : decode cX10_init 134 = .ok (.aload_n 0, 1) := by decide +kernel
theorem dX10_init_135 : decode cX10_init 135 = .ok (.bipush 15, 2) := by decide +kernel
theorem dX10_init_137 : decode cX10_init 137 = .ok (.newarray .int, 2) := by decide +kernel
theorem dX10_init_139 : decode cX10_init 139 = .ok (.putfield 62, 3) := by decide +kernel
theorem dX10_init_142 : decode cX10_init 142 = .ok (.aload_n 0, 1) := by decide +kernel
theorem dX10_init_143 : decode cX10_init 143 = .ok (.bipush 15, 2) := by decide +kernel
theorem dX10_init_145 : decode cX10_init 145 = .ok (.newarray .int, 2) := by decide +kernel
theorem dX10_init_147 : decode cX10_init 147 = .ok (.putfield 65, 3) := by decide +kernel
theorem dX10_init_150 : decode cX10_init 150 = .ok (.aload_n 0, 1) := by decide +kernel
theorem dX10_init_151 : decode cX10_init 151 = .ok (.bipush 15, 2) := by decide +kernel
theorem dX10_init_153 : decode cX10_init 153 = .ok (.newarray .int, 2) := by decide +kernel
theorem dX10_init_155 : decode cX10_init 155 = .ok (.putfield 68, 3) := by decide +kernel
theorem dX10_init_158 : decode cX10_init 158 = .ok (.aload_n 0, 1) := by decide +kernel
theorem dX10_init_159 : decode cX10_init 159 = .ok (.bipush 15, 2) := by decide +kernel
theorem dX10_init_161 : decode cX10_init 161 = .ok (.newarray .int, 2) := by decide +kernel
theorem dX10_init_163 : decode cX10_init 163 = .ok (.putfield 71, 3) := by decide +kernel
theorem dX10_init_166 : decode cX10_init 166 = .ok (.aload_n 0, 1) := by decide +kernel
theorem dX10_init_167 : decode cX10_init 167 = .ok (.bipush 15, 2) := by decide +kernel
theorem dX10_init_169 : decode cX10_init 169 = .ok (.newarray .int, 2) := by decide +kernel
theorem dX10_init_171 : decode cX10_init 171 = .ok (.putfield 74, 3) := by decide +kernel
theorem dX10_init_174 : decode cX10_init 174 = .ok (.aload_n 0, 1) := by decide +kernel
theorem dX10_init_175 : decode cX10_init 175 = .ok (.bipush 15, 2) := by decide +kernel
theorem dX10_init_177 : decode cX10_init 177 = .ok (.newarray .int, 2) := by decide +kernel
theorem dX10_init_179 : decode cX10_init 179 = .ok (.putfield 77, 3) := by decide +kernel
theorem dX10_init_182 : decode cX10_init 182 = .ok (.aload_n 0, 1) := by decide +kernel
theorem dX10_init_183 : decode cX10_init 183 = .ok (.iconst 5, 1) := by decide +kernel
theorem dX10_init_184 : decode cX10_init 184 = .ok (.newarray .int, 2) := by decide +kernel
theorem dX10_init_186 : decode cX10_init 186 = .ok (.putfield 80, 3) := by decide +kernel
theorem dX10_init_189 : decode cX10_init 189 = .ok (.aload_n 0, 1) := by decide +kernel
theorem dX10_init_190 : decode cX10_init 190 = .ok (.bipush 6, 2) := by decide +kernel
theorem dX10_init_192 : decode cX10_init 192 = .ok (.newarray .int, 2) := by decide +kernel
theorem dX10_init_194 : decode cX10_init 194 = .ok (.putfield 83, 3) := by decide +kernel
theorem dX10_init_197 : decode cX10_init 197 = .ok (.aload_n 0, 1) := by decide +kernel
theorem dX10_init_198 : decode cX10_init 198 = .ok (.bipush 6, 2) := by decide +kernel
theorem dX10_init_200 : decode cX10_init 200 = .ok (.newarray .int, 2) := by decide +kernel
theorem dX10_init_202 : decode cX10_init 202 = .ok (.putfield 86, 3) := by decide +kernel
theorem dX10_init_205 : decode cX10_init 205 = .ok (.aload_n 0, 1) := by decide +kernel
theorem dX10_init_206 : decode cX10_init 206 = .ok (.iconst 2, 1) := by decide +kernel
theorem dX10_init_207 : decode cX10_init 207 = .ok (.newarray .boolean, 2) := by decide +kernel
theorem dX10_init_209 : decode cX10_init 209 = .ok (.putfield 89, 3) := by decide +kernel
theorem dX10_init_212 : decode cX10_init 212 = .ok (.aload_n 0, 1) := by decide +kernel
theorem dX10_init_213 : decode cX10_init 213 = .ok (.bipush 10, 2) := by decide +kernel
theorem dX10_init_215 : decode cX10_init 215 = .ok (.newarray .int, 2) := by decide +kernel
theorem dX10_init_217 : decode cX10_init 217 = .ok (.putfield 92, 3) := by decide +kernel
theorem dX10_init_220 : decode cX10_init 220 = .ok (.iconst 0, 1) := by decide +kernel
theorem dX10_init_221 : decode cX10_init 221 = .ok (.istore_n 1, 1) := by decide +kernel
theorem dX10_init_222 : decode cX10_init 222 = .ok (.iload_n 1, 1) := by decide +kernel
theorem dX10_init_223 : decode cX10_init 223 = .ok (.iconst 5, 1) := by decide +kernel
theorem dX10_init_224 : decode cX10_init 224 = .ok (.if_icmp .ge 17, 3) := by decide +kernel
theorem dX10_init_227 : decode cX10_init 227 = .ok (.aload_n 0, 1) := by decide +kernel
theorem dX10_init_228 : decode cX10_init 228 = .ok (.getfield 25, 3) := by decide +kernel
theorem dX10_init_231 : decode cX10_init 231 = .ok (.iload_n 1, 1) := by decide +kernel
theorem dX10_init_232 : decode cX10_init 232 = .ok (.bipush (-9), 2) := by decide +kernel
theorem dX10_init_234 : decode cX10_init 234 = .ok (.iastore, 1) := by decide +kernel
theorem dX10_init_235 : decode cX10_init 235 = .ok (.iinc 1 1, 3) := by decide +kernel
theorem dX10_init_238 : decode cX10_init 238 = .ok (.goto (-16), 3) := by decide +kernel
theorem dX10_init_241 : decode cX10_init 241 = .ok (.return_, 1) := by decide +kernel
theorem dX10_in_0 : decode cX10_in 0 = .ok (.lload_n 0, 1) := by decide +kernel
theorem dX10_in_1 : decode cX10_in 1 = .ok (.lload_n 2, 1) := by decide +kernel
theorem dX10_in_2 : decode cX10_in 2 = .ok (.lcmp, 1) := by decide +kernel
theorem dX10_in_3 : decode cX10_in 3 = .ok (.ifCond .lt 14, 3) := by decide +kernel
theorem dX10_in_6 : decode cX10_in 6 = .ok (.lload_n 0, 1) := by decide +kernel
theorem dX10_in_7 : decode cX10_in 7 = .ok (.lload 4, 2) := by decide +kernel
theorem dX10_in_9 : decode cX10_in 9 = .ok (.lcmp, 1) := by decide +kernel
theorem dX10_in_10 : decode cX10_in 10 = .ok (.ifCond .gt 7, 3) := by decide +kernel
theorem dX10_in_13 : decode cX10_in 13 = .ok (.iconst 1, 1) := by decide +kernel
theorem dX10_in_14 : decode cX10_in 14 = .ok (.goto 4, 3) := by decide +kernel
theorem dX10_in_17 : decode cX10_in 17 = .ok (.iconst 0, 1) := by decide +kernel
theorem dX10_in_18 : decode cX10_in 18 = .ok (.ireturn, 1) := by decide +kernel
theorem dX10_has_0 : decode cX10_has 0 = .ok (.iload_n 0, 1) := by decide +kernel
theorem dX10_has_1 : decode cX10_has 1 = .ok (.iload_n 1, 1) := by decide +kernel
theorem dX10_has_2 : decode cX10_has 2 = .ok (.ishr, 1) := by decide +kernel
theorem dX10_has_3 : decode cX10_has 3 = .ok (.iconst 1, 1) := by decide +kernel
theorem dX10_has_4 : decode cX10_has 4 = .ok (.iand, 1) := by decide +kernel
theorem dX10_has_5 : decode cX10_has 5 = .ok (.iconst 1, 1) := by decide +kernel
theorem dX10_has_6 : decode cX10_has 6 = .ok (.if_icmp .ne 7, 3) := by decide +kernel
theorem dX10_has_9 : decode cX10_has 9 = .ok (.iconst 1, 1) := by decide +kernel
theorem dX10_has_10 : decode cX10_has 10 = .ok (.goto 4, 3) := by decide +kernel
theorem dX10_has_13 : decode cX10_has 13 = .ok (.iconst 0, 1) := by decide +kernel
theorem dX10_has_14 : decode cX10_has 14 = .ok (.ireturn, 1) := by decide +kernel
theorem dX10_ones_0 : decode cX10_ones 0 = .ok (.iconst 0, 1) := by decide +kernel
theorem dX10_ones_1 : decode cX10_ones 1 = .ok (.istore_n 1, 1) := by decide +kernel
theorem dX10_ones_2 : decode cX10_ones 2 = .ok (.iconst 0, 1) := by decide +kernel
theorem dX10_ones_3 : decode cX10_ones 3 = .ok (.istore_n 2, 1) := by decide +kernel
theorem dX10_ones_4 : decode cX10_ones 4 = .ok (.iload_n 2, 1) := by decide +kernel
theorem dX10_ones_5 : decode cX10_ones 5 = .ok (.bipush 12, 2) := by decide +kernel
theorem dX10_ones_7 : decode cX10_ones 7 = .ok (.if_icmp .ge 17, 3) := by decide +kernel
theorem dX10_ones_10 : decode cX10_ones 10 = .ok (.iload_n 1, 1) := by decide +kernel
theorem dX10_ones_11 : decode cX10_ones 11 = .ok (.iload_n 0, 1) := by decide +kernel
theorem dX10_ones_12 : decode cX10_ones 12 = .ok (.iload_n 2, 1) := by decide +kernel
theorem dX10_ones_13 : decode cX10_ones 13 = .ok (.ishr, 1) := by decide +kernel
theorem dX10_ones_14 : decode cX10_ones 14 = .ok (.iconst 1, 1) := by decide +kernel
theorem dX10_ones_15 : decode cX10_ones 15 = .ok (.iand, 1) := by decide +kernel
theorem dX10_ones_16 : decode cX10_ones 16 = .ok (.iadd, 1) := by decide +kernel
theorem dX10_ones_17 : decode cX10_ones 17 = .ok (.istore_n 1, 1) := by decide +kernel
theorem dX10_ones_18 : decode cX10_ones 18 = .ok (.iinc 2 1, 3) := by decide +kernel
theorem dX10_ones_21 : decode cX10_ones 21 = .ok (.goto (-17), 3) := by decide +kernel
theorem dX10_ones_24 : decode cX10_ones 24 = .ok (.iload_n 1, 1) := by decide +kernel
theorem dX10_ones_25 : decode cX10_ones 25 = .ok (.ireturn, 1) := by decide +kernel
theorem dX10_write_0 : decode cX10_write 0 = .ok (.iload_n 1, 1) := by decide +kernel
theorem dX10_write_1 : decode cX10_write 1 = .ok (.i2l, 1) := by decide +kernel
theorem dX10_write_2 : decode cX10_write 2 = .ok (.lconst 0, 1) := by decide +kernel
theorem dX10_write_3 : decode cX10_write 3 = .ok (.ldc2_w 95, 3) := by decide +kernel
theorem dX10_write_6 : decode cX10_write 6 = .ok (.invokestatic 97, 3) := by decide +kernel
theorem dX10_write_9 : decode cX10_write 9 = .ok (.ifCond .ne 6, 3) := by decide +kernel
theorem dX10_write_12 : decode cX10_write 12 = .ok (.bipush (-2), 2) := by decide +kernel
theorem dX10_write_14 : decode cX10_write 14 = .ok (.ireturn, 1) := by decide +kernel
theorem dX10_write_15 : decode cX10_write 15 = .ok (.aload_n 0, 1) := by decide +kernel
theorem dX10_write_16 : decode cX10_write 16 = .ok (.getfield 101, 3) := by decide +kernel
theorem dX10_write_19 : decode cX10_write 19 = .ok (.bipush 48, 2) := by decide +kernel
theorem dX10_write_21 : decode cX10_write 21 = .ok (.if_icmp .ne 6, 3) := by decide +kernel
theorem dX10_write_24 : decode cX10_write 24 = .ok (.bipush (-4), 2) := by decide +kernel
theorem dX10_write_26 : decode cX10_write 26 = .ok (.ireturn, 1) := by decide +kernel
theorem dX10_write_27 : decode cX10_write 27 = .ok (.aload_n 0, 1) := by decide +kernel
theorem dX10_write_28 : decode cX10_write 28 = .ok (.getfield 28, 3) := by decide +kernel
theorem dX10_write_31 : decode cX10_write 31 = .ok (.aload_n 0, 1) := by decide +kernel
theorem dX10_write_32 : decode cX10_write 32 = .ok (.getfield 101, 3) := by decide +kernel
theorem dX10_write_35 : decode cX10_write 35 = .ok (.iload_n 1, 1) := by decide +kernel
theorem dX10_write_36 : decode cX10_write 36 = .ok (.iastore, 1) := by decide +kernel
theorem dX10_write_37 : decode cX10_write 37 = .ok (.aload_n 0, 1) := by decide +kernel
theorem dX10_write_38 : decode cX10_write 38 = .ok (.dup, 1) := by decide +kernel
theorem dX10_write_39 : decode cX10_write 39 = .ok (.getfield 101, 3) := by decide +kernel
theorem dX10_write_42 : decode cX10_write 42 = .ok (.iconst 1, 1) := by decide +kernel
theorem dX10_write_43 : decode cX10_write 43 = .ok (.iadd, 1) := by decide +kernel
theorem dX10_write_44 : decode cX10_write 44 = .ok (.putfield 101, 3) := by decide +kernel
theorem dX10_write_47 : decode cX10_write 47 = .ok (.aload_n 0, 1) := by decide +kernel
theorem dX10_write_48 : decode cX10_write 48 = .ok (.getfield 101, 3) := by decide +kernel
theorem dX10_write_51 : decode cX10_write 51 = .ok (.ireturn, 1) := by decide +kernel
theorem dX10_wipe_0 : decode cX10_wipe 0 = .ok (.aload_n 0, 1) := by decide +kernel
theorem dX10_wipe_1 : decode cX10_wipe 1 = .ok (.getfield 101, 3) := by decide +kernel
theorem dX10_wipe_4 : decode cX10_wipe 4 = .ok (.istore_n 1, 1) := by decide +kernel
theorem dX10_wipe_5 : decode cX10_wipe 5 = .ok (.aload_n 0, 1) := by decide +kernel
theorem dX10_wipe_6 : decode cX10_wipe 6 = .ok (.iconst 0, 1) := by decide +kernel
theorem dX10_wipe_7 : decode cX10_wipe 7 = .ok (.putfield 101, 3) := by decide +kernel
theorem dX10_wipe_10 : decode cX10_wipe 10 = .ok (.iload_n 1, 1) := by decide +kernel
theorem dX10_wipe_11 : decode cX10_wipe 11 = .ok (.ireturn, 1) := by decide +kernel
theorem dX10_figure_0 : decode cX10_figure 0 = .ok (.aload_n 0, 1) := by decide +kernel
theorem dX10_figure_1 : decode cX10_figure 1 = .ok (.getfield 105, 3) := by decide +kernel
theorem dX10_figure_4 : decode cX10_figure 4 = .ok (.bipush (-9), 2) := by decide +kernel
theorem dX10_figure_6 : decode cX10_figure 6 = .ok (.if_icmp .ne 29, 3) := by decide +kernel
theorem dX10_figure_9 : decode cX10_figure 9 = .ok (.aload_n 0, 1) := by decide +kernel
theorem dX10_figure_10 : decode cX10_figure 10 = .ok (.getfield 108, 3) := by decide +kernel
theorem dX10_figure_13 : decode cX10_figure 13 = .ok (.aload_n 0, 1) := by decide +kernel
theorem dX10_figure_14 : decode cX10_figure 14 = .ok (.getfield 101, 3) := by decide +kernel
theorem dX10_figure_17 : decode cX10_figure 17 = .ok (.if_icmp .ge 18, 3) := by decide +kernel
theorem dX10_figure_20 : decode cX10_figure 20 = .ok (.aload_n 0, 1) := by decide +kernel
theorem dX10_figure_21 : decode cX10_figure 21 = .ok (.getfield 28, 3) := by decide +kernel
theorem dX10_figure_24 : decode cX10_figure 24 = .ok (.aload_n 0, 1) := by decide +kernel
theorem dX10_figure_25 : decode cX10_figure 25 = .ok (.getfield 108, 3) := by decide +kernel
theorem dX10_figure_28 : decode cX10_figure 28 = .ok (.iaload, 1) := by decide +kernel
theorem dX10_figure_29 : decode cX10_figure 29 = .ok (.bipush 48, 2) := by decide +kernel
theorem dX10_figure_31 : decode cX10_figure 31 = .ok (.isub, 1) := by decide +kernel
theorem dX10_figure_32 : decode cX10_figure 32 = .ok (.goto 5, 3) := by decide +kernel
theorem dX10_figure_35 : decode cX10_figure 35 = .ok (.bipush (-9), 2) := by decide +kernel
theorem dX10_figure_37 : decode cX10_figure 37 = .ok (.istore_n 3, 1) := by decide +kernel
theorem dX10_figure_38 : decode cX10_figure 38 = .ok (.iload_n 3, 1) := by decide +kernel
theorem dX10_figure_39 : decode cX10_figure 39 = .ok (.i2l, 1) := by decide +kernel
theorem dX10_figure_40 : decode cX10_figure 40 = .ok (.iload_n 1, 1) := by decide +kernel
theorem dX10_figure_41 : decode cX10_figure 41 = .ok (.i2l, 1) := by decide +kernel
theorem dX10_figure_42 : decode cX10_figure 42 = .ok (.iload_n 2, 1) := by decide +kernel
theorem dX10_figure_43 : decode cX10_figure 43 = .ok (.i2l, 1) := by decide +kernel
theorem dX10_figure_44 : decode cX10_figure 44 = .ok (.invokestatic 97, 3) := by decide +kernel
theorem dX10_figure_47 : decode cX10_figure 47 = .ok (.ifCond .ne 29, 3) := by decide +kernel
theorem dX10_figure_50 : decode cX10_figure 50 = .ok (.aload_n 0, 1) := by decide +kernel
theorem dX10_figure_51 : decode cX10_figure 51 = .ok (.aload_n 0, 1) := by decide +kernel
theorem dX10_figure_52 : decode cX10_figure 52 = .ok (.getfield 105, 3) := by decide +kernel
theorem dX10_figure_55 : decode cX10_figure 55 = .ok (.bipush (-9), 2) := by decide +kernel
theorem dX10_figure_57 : decode cX10_figure 57 = .ok (.if_icmp .ne 10, 3) := by decide +kernel
theorem dX10_figure_60 : decode cX10_figure 60 = .ok (.aload_n 0, 1) := by decide +kernel
theorem dX10_figure_61 : decode cX10_figure 61 = .ok (.getfield 108, 3) := by decide +kernel
theorem dX10_figure_64 : decode cX10_figure 64 = .ok (.goto 7, 3) := by decide +kernel
theorem dX10_figure_67 : decode cX10_figure 67 = .ok (.aload_n 0, 1) := by decide +kernel
theorem dX10_figure_68 : decode cX10_figure 68 = .ok (.getfield 105, 3) := by decide +kernel
theorem dX10_figure_71 : decode cX10_figure 71 = .ok (.putfield 105, 3) := by decide +kernel
theorem dX10_figure_74 : decode cX10_figure 74 = .ok (.iload_n 1, 1) := by decide +kernel
theorem dX10_figure_75 : decode cX10_figure 75 = .ok (.ireturn, 1) := by decide +kernel
theorem dX10_figure_76 : decode cX10_figure 76 = .ok (.aload_n 0, 1) := by decide +kernel
theorem dX10_figure_77 : decode cX10_figure 77 = .ok (.dup, 1) := by decide +kernel
theorem dX10_figure_78 : decode cX10_figure 78 = .ok (.getfield 108, 3) := by decide +kernel
theorem dX10_figure_81 : decode cX10_figure 81 = .ok (.iconst 1, 1) := by decide +kernel
theorem dX10_figure_82 : decode cX10_figure 82 = .ok (.iadd, 1) := by decide +kernel
theorem dX10_figure_83 : decode cX10_figure 83 = .ok (.putfield 108, 3) := by decide +kernel
theorem dX10_figure_86 : decode cX10_figure 86 = .ok (.iload_n 3, 1) := by decide +kernel
theorem dX10_figure_87 : decode cX10_figure 87 = .ok (.ireturn, 1) := by decide +kernel
theorem dX10_readText_0 : decode cX10_readText 0 = .ok (.aload_n 0, 1) := by decide +kernel
theorem dX10_readText_1 : decode cX10_readText 1 = .ok (.iconst 0, 1) := by decide +kernel
theorem dX10_readText_2 : decode cX10_readText 2 = .ok (.putfield 108, 3) := by decide +kernel
theorem dX10_readText_5 : decode cX10_readText 5 = .ok (.aload_n 0, 1) := by decide +kernel
theorem dX10_readText_6 : decode cX10_readText 6 = .ok (.bipush (-9), 2) := by decide +kernel
theorem dX10_readText_8 : decode cX10_readText 8 = .ok (.putfield 105, 3) := by decide +kernel
theorem dX10_readText_11 : decode cX10_readText 11 = .ok (.aload_n 0, 1) := by decide +kernel
theorem dX10_readText_12 : decode cX10_readText 12 = .ok (.iconst 0, 1) := by decide +kernel
theorem dX10_readText_13 : decode cX10_readText 13 = .ok (.putfield 111, 3) := by decide +kernel
theorem dX10_readText_16 : decode cX10_readText 16 = .ok (.aload_n 0, 1) := by decide +kernel
theorem dX10_readText_17 : decode cX10_readText 17 = .ok (.iconst 0, 1) := by decide +kernel
theorem dX10_readText_18 : decode cX10_readText 18 = .ok (.putfield 114, 3) := by decide +kernel
theorem dX10_readText_21 : decode cX10_readText 21 = .ok (.aload_n 0, 1) := by decide +kernel
theorem dX10_readText_22 : decode cX10_readText 22 = .ok (.getfield 101, 3) := by decide +kernel
theorem dX10_readText_25 : decode cX10_readText 25 = .ok (.ifCond .eq 14, 3) := by decide +kernel
theorem dX10_readText_28 : decode cX10_readText 28 = .ok (.aload_n 0, 1) := by decide +kernel
theorem dX10_readText_29 : decode cX10_readText 29 = .ok (.getfield 28, 3) := by decide +kernel
theorem dX10_readText_32 : decode cX10_readText 32 = .ok (.iconst 0, 1) := by decide +kernel
theorem dX10_readText_33 : decode cX10_readText 33 = .ok (.iaload, 1) := by decide +kernel
theorem dX10_readText_34 : decode cX10_readText 34 = .ok (.bipush 84, 2) := by decide +kernel
theorem dX10_readText_36 : decode cX10_readText 36 = .ok (.if_icmp .eq 5, 3) := by decide +kernel
theorem dX10_readText_39 : decode cX10_readText 39 = .ok (.iconst 0, 1) := by decide +kernel
theorem dX10_readText_40 : decode cX10_readText 40 = .ok (.ireturn, 1) := by decide +kernel
theorem dX10_readText_41 : decode cX10_readText 41 = .ok (.aload_n 0, 1) := by decide +kernel
theorem dX10_readText_42 : decode cX10_readText 42 = .ok (.iconst 1, 1) := by decide +kernel
theorem dX10_readText_43 : decode cX10_readText 43 = .ok (.putfield 108, 3) := by decide +kernel
theorem dX10_readText_46 : decode cX10_readText 46 = .ok (.aload_n 0, 1) := by decide +kernel
theorem dX10_readText_47 : decode cX10_readText 47 = .ok (.getfield 105, 3) := by decide +kernel
theorem dX10_readText_50 : decode cX10_readText 50 = .ok (.bipush (-9), 2) := by decide +kernel
theorem dX10_readText_52 : decode cX10_readText 52 = .ok (.if_icmp .ne 30, 3) := by decide +kernel
theorem dX10_readText_55 : decode cX10_readText 55 = .ok (.aload_n 0, 1) := by decide +kernel
theorem dX10_readText_56 : decode cX10_readText 56 = .ok (.getfield 108, 3) := by decide +kernel
theorem dX10_readText_59 : decode cX10_readText 59 = .ok (.aload_n 0, 1) := by decide +kernel
theorem dX10_readText_60 : decode cX10_readText 60 = .ok (.getfield 101, 3) := by decide +kernel
theorem dX10_readText_63 : decode cX10_readText 63 = .ok (.if_icmp .ge 19, 3) := by decide +kernel
theorem dX10_readText_66 : decode cX10_readText 66 = .ok (.aload_n 0, 1) := by decide +kernel
theorem dX10_readText_67 : decode cX10_readText 67 = .ok (.aload_n 0, 1) := by decide +kernel
theorem dX10_readText_68 : decode cX10_readText 68 = .ok (.getfield 28, 3) := by decide +kernel
theorem dX10_readText_71 : decode cX10_readText 71 = .ok (.aload_n 0, 1) := by decide +kernel
theorem dX10_readText_72 : decode cX10_readText 72 = .ok (.getfield 108, 3) := by decide +kernel
theorem dX10_readText_75 : decode cX10_readText 75 = .ok (.iaload, 1) := by decide +kernel
theorem dX10_readText_76 : decode cX10_readText 76 = .ok (.invokevirtual 117, 3) := by decide +kernel
theorem dX10_readText_79 : decode cX10_readText 79 = .ok (.goto (-33), 3) := by decide +kernel
theorem dX10_readText_82 : decode cX10_readText 82 = .ok (.aload_n 0, 1) := by decide +kernel
theorem dX10_readText_83 : decode cX10_readText 83 = .ok (.getfield 105, 3) := by decide +kernel
theorem dX10_readText_86 : decode cX10_readText 86 = .ok (.ireturn, 1) := by decide +kernel
theorem dX10_readPart_0 : decode cX10_readPart 0 = .ok (.bipush 6, 2) := by decide +kernel
theorem dX10_readPart_2 : decode cX10_readPart 2 = .ok (.aload_n 0, 1) := by decide +kernel
theorem dX10_readPart_3 : decode cX10_readPart 3 = .ok (.getfield 114, 3) := by decide +kernel
theorem dX10_readPart_6 : decode cX10_readPart 6 = .ok (.imul, 1) := by decide +kernel
theorem dX10_readPart_7 : decode cX10_readPart 7 = .ok (.istore_n 2, 1) := by decide +kernel
theorem dX10_readPart_8 : decode cX10_readPart 8 = .ok (.iload_n 1, 1) := by decide +kernel
theorem dX10_readPart_9 : decode cX10_readPart 9 = .ok (.bipush 66, 2) := by decide +kernel
theorem dX10_readPart_11 : decode cX10_readPart 11 = .ok (.if_icmp .ne 70, 3) := by decide +kernel
theorem dX10_readPart_14 : decode cX10_readPart 14 = .ok (.aload_n 0, 1) := by decide +kernel
theorem dX10_readPart_15 : decode cX10_readPart 15 = .ok (.getfield 111, 3) := by decide +kernel
theorem dX10_readPart_18 : decode cX10_readPart 18 = .ok (.iconst 3, 1) := by decide +kernel
theorem dX10_readPart_19 : decode cX10_readPart 19 = .ok (.if_icmp .ge 62, 3) := by decide +kernel
theorem dX10_readPart_22 : decode cX10_readPart 22 = .ok (.aload_n 0, 1) := by decide +kernel
theorem dX10_readPart_23 : decode cX10_readPart 23 = .ok (.dup, 1) := by decide +kernel
theorem dX10_readPart_24 : decode cX10_readPart 24 = .ok (.getfield 108, 3) := by decide +kernel
theorem dX10_readPart_27 : decode cX10_readPart 27 = .ok (.iconst 1, 1) := by decide +kernel
theorem dX10_readPart_28 : decode cX10_readPart 28 = .ok (.iadd, 1) := by decide +kernel
theorem dX10_readPart_29 : decode cX10_readPart 29 = .ok (.putfield 108, 3) := by decide +kernel
theorem dX10_readPart_32 : decode cX10_readPart 32 = .ok (.aload_n 0, 1) := by decide +kernel
theorem dX10_readPart_33 : decode cX10_readPart 33 = .ok (.getfield 19, 3) := by decide +kernel
theorem dX10_readPart_36 : decode cX10_readPart 36 = .ok (.iconst 2, 1) := by decide +kernel
theorem dX10_readPart_37 : decode cX10_readPart 37 = .ok (.aload_n 0, 1) := by decide +kernel
theorem dX10_readPart_38 : decode cX10_readPart 38 = .ok (.getfield 111, 3) := by decide +kernel
theorem dX10_readPart_41 : decode cX10_readPart 41 = .ok (.imul, 1) := by decide +kernel
theorem dX10_readPart_42 : decode cX10_readPart 42 = .ok (.aload_n 0, 1) := by decide +kernel
theorem dX10_readPart_43 : decode cX10_readPart 43 = .ok (.iconst 1, 1) := by decide +kernel
theorem dX10_readPart_44 : decode cX10_readPart 44 = .ok (.iconst 3, 1) := by decide +kernel
theorem dX10_readPart_45 : decode cX10_readPart 45 = .ok (.invokevirtual 121, 3) := by decide +kernel
theorem dX10_readPart_48 : decode cX10_readPart 48 = .ok (.iastore, 1) := by decide +kernel
theorem dX10_readPart_49 : decode cX10_readPart 49 = .ok (.aload_n 0, 1) := by decide +kernel
theorem dX10_readPart_50 : decode cX10_readPart 50 = .ok (.getfield 19, 3) := by decide +kernel
theorem dX10_readPart_53 : decode cX10_readPart 53 = .ok (.iconst 2, 1) := by decide +kernel
theorem dX10_readPart_54 : decode cX10_readPart 54 = .ok (.aload_n 0, 1) := by decide +kernel
theorem dX10_readPart_55 : decode cX10_readPart 55 = .ok (.getfield 111, 3) := by decide +kernel
theorem dX10_readPart_58 : decode cX10_readPart 58 = .ok (.imul, 1) := by decide +kernel
theorem dX10_readPart_59 : decode cX10_readPart 59 = .ok (.iconst 1, 1) := by decide +kernel
theorem dX10_readPart_60 : decode cX10_readPart 60 = .ok (.iadd, 1) := by decide +kernel
theorem dX10_readPart_61 : decode cX10_readPart 61 = .ok (.aload_n 0, 1) := by decide +kernel
theorem dX10_readPart_62 : decode cX10_readPart 62 = .ok (.iconst 0, 1) := by decide +kernel
theorem dX10_readPart_63 : decode cX10_readPart 63 = .ok (.iconst 2, 1) := by decide +kernel
theorem dX10_readPart_64 : decode cX10_readPart 64 = .ok (.invokevirtual 121, 3) := by decide +kernel
theorem dX10_readPart_67 : decode cX10_readPart 67 = .ok (.iastore, 1) := by decide +kernel
theorem dX10_readPart_68 : decode cX10_readPart 68 = .ok (.aload_n 0, 1) := by decide +kernel
theorem dX10_readPart_69 : decode cX10_readPart 69 = .ok (.dup, 1) := by decide +kernel
theorem dX10_readPart_70 : decode cX10_readPart 70 = .ok (.getfield 111, 3) := by decide +kernel
theorem dX10_readPart_73 : decode cX10_readPart 73 = .ok (.iconst 1, 1) := by decide +kernel
theorem dX10_readPart_74 : decode cX10_readPart 74 = .ok (.iadd, 1) := by decide +kernel
theorem dX10_readPart_75 : decode cX10_readPart 75 = .ok (.putfield 111, 3) := by decide +kernel
theorem dX10_readPart_78 : decode cX10_readPart 78 = .ok (.goto 153, 3) := by decide +kernel
theorem dX10_readPart_81 : decode cX10_readPart 81 = .ok (.iload_n 1, 1) := by decide +kernel
theorem dX10_readPart_82 : decode cX10_readPart 82 = .ok (.bipush 80, 2) := by decide +kernel
theorem dX10_readPart_84 : decode cX10_readPart 84 = .ok (.if_icmp .ne 81, 3) := by decide +kernel
theorem dX10_readPart_87 : decode cX10_readPart 87 = .ok (.aload_n 0, 1) := by decide +kernel
theorem dX10_readPart_88 : decode cX10_readPart 88 = .ok (.getfield 114, 3) := by decide +kernel
theorem dX10_readPart_91 : decode cX10_readPart 91 = .ok (.iconst 5, 1) := by decide +kernel
theorem dX10_readPart_92 : decode cX10_readPart 92 = .ok (.if_icmp .ge 73, 3) := by decide +kernel
theorem dX10_readPart_95 : decode cX10_readPart 95 = .ok (.aload_n 0, 1) := by decide +kernel
theorem dX10_readPart_96 : decode cX10_readPart 96 = .ok (.getfield 111, 3) := by decide +kernel
theorem dX10_readPart_99 : decode cX10_readPart 99 = .ok (.ifCond .le 66, 3) := by decide +kernel
theorem dX10_readPart_102 : decode cX10_readPart 102 = .ok (.aload_n 0, 1) := by decide +kernel
theorem dX10_readPart_103 : decode cX10_readPart 103 = .ok (.dup, 1) := by decide +kernel
theorem dX10_readPart_104 : decode cX10_readPart 104 = .ok (.getfield 108, 3) := by decide +kernel
theorem dX10_readPart_107 : decode cX10_readPart 107 = .ok (.iconst 1, 1) := by decide +kernel
theorem dX10_readPart_108 : decode cX10_readPart 108 = .ok (.iadd, 1) := by decide +kernel
theorem dX10_readPart_109 : decode cX10_readPart 109 = .ok (.putfield 108, 3) := by decide +kernel
theorem dX10_readPart_112 : decode cX10_readPart 112 = .ok (.aload_n 0, 1) := by decide +kernel
theorem dX10_readPart_113 : decode cX10_readPart 113 = .ok (.getfield 22, 3) := by decide +kernel
theorem dX10_readPart_116 : decode cX10_readPart 116 = .ok (.iload_n 2, 1) := by decide +kernel
theorem dX10_readPart_117 : decode cX10_readPart 117 = .ok (.aload_n 0, 1) := by decide +kernel
theorem dX10_readPart_118 : decode cX10_readPart 118 = .ok (.iconst 0, 1) := by decide +kernel
theorem dX10_readPart_119 : decode cX10_readPart 119 = .ok (.aload_n 0, 1) := by decide +kernel
theorem dX10_readPart_120 : decode cX10_readPart 120 = .ok (.getfield 111, 3) := by decide +kernel
theorem dX10_readPart_123 : decode cX10_readPart 123 = .ok (.iconst 1, 1) := by decide +kernel
theorem dX10_readPart_124 : decode cX10_readPart 124 = .ok (.isub, 1) := by decide +kernel
theorem dX10_readPart_125 : decode cX10_readPart 125 = .ok (.invokevirtual 121, 3) := by decide +kernel
theorem dX10_readPart_128 : decode cX10_readPart 128 = .ok (.iastore, 1) := by decide +kernel
theorem dX10_readPart_129 : decode cX10_readPart 129 = .ok (.aload_n 0, 1) := by decide +kernel
theorem dX10_readPart_130 : decode cX10_readPart 130 = .ok (.getfield 22, 3) := by decide +kernel
theorem dX10_readPart_133 : decode cX10_readPart 133 = .ok (.iload_n 2, 1) := by decide +kernel
theorem dX10_readPart_134 : decode cX10_readPart 134 = .ok (.iconst 1, 1) := by decide +kernel
theorem dX10_readPart_135 : decode cX10_readPart 135 = .ok (.iadd, 1) := by decide +kernel
theorem dX10_readPart_136 : decode cX10_readPart 136 = .ok (.aload_n 0, 1) := by decide +kernel
theorem dX10_readPart_137 : decode cX10_readPart 137 = .ok (.iconst 1, 1) := by decide +kernel
theorem dX10_readPart_138 : decode cX10_readPart 138 = .ok (.iconst 3, 1) := by decide +kernel
theorem dX10_readPart_139 : decode cX10_readPart 139 = .ok (.invokevirtual 121, 3) := by decide +kernel
theorem dX10_readPart_142 : decode cX10_readPart 142 = .ok (.iastore, 1) := by decide +kernel
theorem dX10_readPart_143 : decode cX10_readPart 143 = .ok (.aload_n 0, 1) := by decide +kernel
theorem dX10_readPart_144 : decode cX10_readPart 144 = .ok (.getfield 22, 3) := by decide +kernel
theorem dX10_readPart_147 : decode cX10_readPart 147 = .ok (.iload_n 2, 1) := by decide +kernel
theorem dX10_readPart_148 : decode cX10_readPart 148 = .ok (.iconst 2, 1) := by decide +kernel
theorem dX10_readPart_149 : decode cX10_readPart 149 = .ok (.iadd, 1) := by decide +kernel
theorem dX10_readPart_150 : decode cX10_readPart 150 = .ok (.aload_n 0, 1) := by decide +kernel
theorem dX10_readPart_151 : decode cX10_readPart 151 = .ok (.iconst 0, 1) := by decide +kernel
theorem dX10_readPart_152 : decode cX10_readPart 152 = .ok (.iconst 3, 1) := by decide +kernel
theorem dX10_readPart_153 : decode cX10_readPart 153 = .ok (.invokevirtual 121, 3) := by decide +kernel
theorem dX10_readPart_156 : decode cX10_readPart 156 = .ok (.iastore, 1) := by decide +kernel
theorem dX10_readPart_157 : decode cX10_readPart 157 = .ok (.aload_n 0, 1) := by decide +kernel
theorem dX10_readPart_158 : decode cX10_readPart 158 = .ok (.iload_n 2, 1) := by decide +kernel
theorem dX10_readPart_159 : decode cX10_readPart 159 = .ok (.invokevirtual 125, 3) := by decide +kernel
theorem dX10_readPart_162 : decode cX10_readPart 162 = .ok (.goto 69, 3) := by decide +kernel
theorem dX10_readPart_165 : decode cX10_readPart 165 = .ok (.iload_n 1, 1) := by decide +kernel
theorem dX10_readPart_166 : decode cX10_readPart 166 = .ok (.bipush 81, 2) := by decide +kernel
theorem dX10_readPart_168 : decode cX10_readPart 168 = .ok (.if_icmp .ne 55, 3) := by decide +kernel
theorem dX10_readPart_171 : decode cX10_readPart 171 = .ok (.aload_n 0, 1) := by decide +kernel
theorem dX10_readPart_172 : decode cX10_readPart 172 = .ok (.getfield 114, 3) := by decide +kernel
theorem dX10_readPart_175 : decode cX10_readPart 175 = .ok (.iconst 5, 1) := by decide +kernel
theorem dX10_readPart_176 : decode cX10_readPart 176 = .ok (.if_icmp .ge 47, 3) := by decide +kernel
theorem dX10_readPart_179 : decode cX10_readPart 179 = .ok (.aload_n 0, 1) := by decide +kernel
theorem dX10_readPart_180 : decode cX10_readPart 180 = .ok (.dup, 1) := by decide +kernel
theorem dX10_readPart_181 : decode cX10_readPart 181 = .ok (.getfield 108, 3) := by decide +kernel
theorem dX10_readPart_184 : decode cX10_readPart 184 = .ok (.iconst 1, 1) := by decide +kernel
theorem dX10_readPart_185 : decode cX10_readPart 185 = .ok (.iadd, 1) := by decide +kernel
theorem dX10_readPart_186 : decode cX10_readPart 186 = .ok (.putfield 108, 3) := by decide +kernel
theorem dX10_readPart_189 : decode cX10_readPart 189 = .ok (.aload_n 0, 1) := by decide +kernel
theorem dX10_readPart_190 : decode cX10_readPart 190 = .ok (.getfield 22, 3) := by decide +kernel
theorem dX10_readPart_193 : decode cX10_readPart 193 = .ok (.iload_n 2, 1) := by decide +kernel
theorem dX10_readPart_194 : decode cX10_readPart 194 = .ok (.bipush (-9), 2) := by decide +kernel
theorem dX10_readPart_196 : decode cX10_readPart 196 = .ok (.iastore, 1) := by decide +kernel
theorem dX10_readPart_197 : decode cX10_readPart 197 = .ok (.aload_n 0, 1) := by decide +kernel
theorem dX10_readPart_198 : decode cX10_readPart 198 = .ok (.getfield 22, 3) := by decide +kernel
theorem dX10_readPart_201 : decode cX10_readPart 201 = .ok (.iload_n 2, 1) := by decide +kernel
theorem dX10_readPart_202 : decode cX10_readPart 202 = .ok (.iconst 1, 1) := by decide +kernel
theorem dX10_readPart_203 : decode cX10_readPart 203 = .ok (.iadd, 1) := by decide +kernel
theorem dX10_readPart_204 : decode cX10_readPart 204 = .ok (.iconst 0, 1) := by decide +kernel
theorem dX10_readPart_205 : decode cX10_readPart 205 = .ok (.iastore, 1) := by decide +kernel
theorem dX10_readPart_206 : decode cX10_readPart 206 = .ok (.aload_n 0, 1) := by decide +kernel
theorem dX10_readPart_207 : decode cX10_readPart 207 = .ok (.getfield 22, 3) := by decide +kernel
theorem dX10_readPart_210 : decode cX10_readPart 210 = .ok (.iload_n 2, 1) := by decide +kernel
theorem dX10_readPart_211 : decode cX10_readPart 211 = .ok (.iconst 2, 1) := by decide +kernel
theorem dX10_readPart_212 : decode cX10_readPart 212 = .ok (.iadd, 1) := by decide +kernel
theorem dX10_readPart_213 : decode cX10_readPart 213 = .ok (.iconst 0, 1) := by decide +kernel
theorem dX10_readPart_214 : decode cX10_readPart 214 = .ok (.iastore, 1) := by decide +kernel
theorem dX10_readPart_215 : decode cX10_readPart 215 = .ok (.aload_n 0, 1) := by decide +kernel
theorem dX10_readPart_216 : decode cX10_readPart 216 = .ok (.iload_n 2, 1) := by decide +kernel
theorem dX10_readPart_217 : decode cX10_readPart 217 = .ok (.invokevirtual 125, 3) := by decide +kernel
theorem dX10_readPart_220 : decode cX10_readPart 220 = .ok (.goto 11, 3) := by decide +kernel
theorem dX10_readPart_223 : decode cX10_readPart 223 = .ok (.aload_n 0, 1) := by decide +kernel
theorem dX10_readPart_224 : decode cX10_readPart 224 = .ok (.aload_n 0, 1) := by decide +kernel
theorem dX10_readPart_225 : decode cX10_readPart 225 = .ok (.getfield 108, 3) := by decide +kernel
theorem dX10_readPart_228 : decode cX10_readPart 228 = .ok (.putfield 105, 3) := by decide +kernel
theorem dX10_readPart_231 : decode cX10_readPart 231 = .ok (.return_, 1) := by decide +kernel
theorem dX10_readSpan_0 : decode cX10_readSpan 0 = .ok (.aload_n 0, 1) := by decide +kernel
theorem dX10_readSpan_1 : decode cX10_readSpan 1 = .ok (.getfield 22, 3) := by decide +kernel
theorem dX10_readSpan_4 : decode cX10_readSpan 4 = .ok (.iload_n 1, 1) := by decide +kernel
theorem dX10_readSpan_5 : decode cX10_readSpan 5 = .ok (.iconst 3, 1) := by decide +kernel
theorem dX10_readSpan_6 : decode cX10_readSpan 6 = .ok (.iadd, 1) := by decide +kernel
theorem dX10_readSpan_7 : decode cX10_readSpan 7 = .ok (.aload_n 0, 1) := by decide +kernel
theorem dX10_readSpan_8 : decode cX10_readSpan 8 = .ok (.iconst 0, 1) := by decide +kernel
theorem dX10_readSpan_9 : decode cX10_readSpan 9 = .ok (.bipush 9, 2) := by decide +kernel
theorem dX10_readSpan_11 : decode cX10_readSpan 11 = .ok (.invokevirtual 121, 3) := by decide +kernel
theorem dX10_readSpan_14 : decode cX10_readSpan 14 = .ok (.iastore, 1) := by decide +kernel
theorem dX10_readSpan_15 : decode cX10_readSpan 15 = .ok (.aload_n 0, 1) := by decide +kernel
theorem dX10_readSpan_16 : decode cX10_readSpan 16 = .ok (.getfield 22, 3) := by decide +kernel
theorem dX10_readSpan_19 : decode cX10_readSpan 19 = .ok (.iload_n 1, 1) := by decide +kernel
theorem dX10_readSpan_20 : decode cX10_readSpan 20 = .ok (.iconst 4, 1) := by decide +kernel
theorem dX10_readSpan_21 : decode cX10_readSpan 21 = .ok (.iadd, 1) := by decide +kernel
theorem dX10_readSpan_22 : decode cX10_readSpan 22 = .ok (.aload_n 0, 1) := by decide +kernel
theorem dX10_readSpan_23 : decode cX10_readSpan 23 = .ok (.aload_n 0, 1) := by decide +kernel
theorem dX10_readSpan_24 : decode cX10_readSpan 24 = .ok (.getfield 22, 3) := by decide +kernel
theorem dX10_readSpan_27 : decode cX10_readSpan 27 = .ok (.iload_n 1, 1) := by decide +kernel
theorem dX10_readSpan_28 : decode cX10_readSpan 28 = .ok (.iconst 3, 1) := by decide +kernel
theorem dX10_readSpan_29 : decode cX10_readSpan 29 = .ok (.iadd, 1) := by decide +kernel
theorem dX10_readSpan_30 : decode cX10_readSpan 30 = .ok (.iaload, 1) := by decide +kernel
theorem dX10_readSpan_31 : decode cX10_readSpan 31 = .ok (.bipush 9, 2) := by decide +kernel
theorem dX10_readSpan_33 : decode cX10_readSpan 33 = .ok (.invokevirtual 121, 3) := by decide +kernel
theorem dX10_readSpan_36 : decode cX10_readSpan 36 = .ok (.iastore, 1) := by decide +kernel
theorem dX10_readSpan_37 : decode cX10_readSpan 37 = .ok (.aload_n 0, 1) := by decide +kernel
theorem dX10_readSpan_38 : decode cX10_readSpan 38 = .ok (.getfield 22, 3) := by decide +kernel
theorem dX10_readSpan_41 : decode cX10_readSpan 41 = .ok (.iload_n 1, 1) := by decide +kernel
theorem dX10_readSpan_42 : decode cX10_readSpan 42 = .ok (.iconst 5, 1) := by decide +kernel
theorem dX10_readSpan_43 : decode cX10_readSpan 43 = .ok (.iadd, 1) := by decide +kernel
theorem dX10_readSpan_44 : decode cX10_readSpan 44 = .ok (.aload_n 0, 1) := by decide +kernel
theorem dX10_readSpan_45 : decode cX10_readSpan 45 = .ok (.iconst 1, 1) := by decide +kernel
theorem dX10_readSpan_46 : decode cX10_readSpan 46 = .ok (.bipush 9, 2) := by decide +kernel
theorem dX10_readSpan_48 : decode cX10_readSpan 48 = .ok (.invokevirtual 121, 3) := by decide +kernel
theorem dX10_readSpan_51 : decode cX10_readSpan 51 = .ok (.iastore, 1) := by decide +kernel
theorem dX10_readSpan_52 : decode cX10_readSpan 52 = .ok (.aload_n 0, 1) := by decide +kernel
theorem dX10_readSpan_53 : decode cX10_readSpan 53 = .ok (.dup, 1) := by decide +kernel
theorem dX10_readSpan_54 : decode cX10_readSpan 54 = .ok (.getfield 114, 3) := by decide +kernel
theorem dX10_readSpan_57 : decode cX10_readSpan 57 = .ok (.iconst 1, 1) := by decide +kernel
theorem dX10_readSpan_58 : decode cX10_readSpan 58 = .ok (.iadd, 1) := by decide +kernel
theorem dX10_readSpan_59 : decode cX10_readSpan 59 = .ok (.putfield 114, 3) := by decide +kernel
theorem dX10_readSpan_62 : decode cX10_readSpan 62 = .ok (.return_, 1) := by decide +kernel
theorem dX10_fault_0 : decode cX10_fault 0 = .ok (.aload_n 0, 1) := by decide +kernel
theorem dX10_fault_1 : decode cX10_fault 1 = .ok (.invokevirtual 128, 3) := by decide +kernel
theorem dX10_fault_4 : decode cX10_fault 4 = .ok (.ireturn, 1) := by decide +kernel
theorem dX10_tower_0 : decode cX10_tower 0 = .ok (.aload_n 0, 1) := by decide +kernel
theorem dX10_tower_1 : decode cX10_tower 1 = .ok (.invokevirtual 128, 3) := by decide +kernel
theorem dX10_tower_4 : decode cX10_tower 4 = .ok (.bipush (-9), 2) := by decide +kernel
theorem dX10_tower_6 : decode cX10_tower 6 = .ok (.if_icmp .eq 6, 3) := by decide +kernel
theorem dX10_tower_9 : decode cX10_tower 9 = .ok (.bipush (-3), 2) := by decide +kernel
theorem dX10_tower_11 : decode cX10_tower 11 = .ok (.ireturn, 1) := by decide +kernel
theorem dX10_tower_12 : decode cX10_tower 12 = .ok (.aload_n 0, 1) := by decide +kernel
theorem dX10_tower_13 : decode cX10_tower 13 = .ok (.aload_n 0, 1) := by decide +kernel
theorem dX10_tower_14 : decode cX10_tower 14 = .ok (.getfield 111, 3) := by decide +kernel
theorem dX10_tower_17 : decode cX10_tower 17 = .ok (.putfield 132, 3) := by decide +kernel
theorem dX10_tower_20 : decode cX10_tower 20 = .ok (.aload_n 0, 1) := by decide +kernel
theorem dX10_tower_21 : decode cX10_tower 21 = .ok (.aload_n 0, 1) := by decide +kernel
theorem dX10_tower_22 : decode cX10_tower 22 = .ok (.getfield 114, 3) := by decide +kernel
theorem dX10_tower_25 : decode cX10_tower 25 = .ok (.putfield 135, 3) := by decide +kernel
theorem dX10_tower_28 : decode cX10_tower 28 = .ok (.iconst 0, 1) := by decide +kernel
theorem dX10_tower_29 : decode cX10_tower 29 = .ok (.istore_n 1, 1) := by decide +kernel
theorem dX10_tower_30 : decode cX10_tower 30 = .ok (.iload_n 1, 1) := by decide +kernel
theorem dX10_tower_31 : decode cX10_tower 31 = .ok (.iconst 3, 1) := by decide +kernel
theorem dX10_tower_32 : decode cX10_tower 32 = .ok (.if_icmp .ge 39, 3) := by decide +kernel
theorem dX10_tower_35 : decode cX10_tower 35 = .ok (.aload_n 0, 1) := by decide +kernel
theorem dX10_tower_36 : decode cX10_tower 36 = .ok (.getfield 7, 3) := by decide +kernel
theorem dX10_tower_39 : decode cX10_tower 39 = .ok (.iload_n 1, 1) := by decide +kernel
theorem dX10_tower_40 : decode cX10_tower 40 = .ok (.aload_n 0, 1) := by decide +kernel
theorem dX10_tower_41 : decode cX10_tower 41 = .ok (.getfield 19, 3) := by decide +kernel
theorem dX10_tower_44 : decode cX10_tower 44 = .ok (.iconst 2, 1) := by decide +kernel
theorem dX10_tower_45 : decode cX10_tower 45 = .ok (.iload_n 1, 1) := by decide +kernel
theorem dX10_tower_46 : decode cX10_tower 46 = .ok (.imul, 1) := by decide +kernel
theorem dX10_tower_47 : decode cX10_tower 47 = .ok (.iaload, 1) := by decide +kernel
theorem dX10_tower_48 : decode cX10_tower 48 = .ok (.iastore, 1) := by decide +kernel
theorem dX10_tower_49 : decode cX10_tower 49 = .ok (.aload_n 0, 1) := by decide +kernel
theorem dX10_tower_50 : decode cX10_tower 50 = .ok (.getfield 13, 3) := by decide +kernel
theorem dX10_tower_53 : decode cX10_tower 53 = .ok (.iload_n 1, 1) := by decide +kernel
theorem dX10_tower_54 : decode cX10_tower 54 = .ok (.aload_n 0, 1) := by decide +kernel
theorem dX10_tower_55 : decode cX10_tower 55 = .ok (.getfield 19, 3) := by decide +kernel
theorem dX10_tower_58 : decode cX10_tower 58 = .ok (.iconst 2, 1) := by decide +kernel
theorem dX10_tower_59 : decode cX10_tower 59 = .ok (.iload_n 1, 1) := by decide +kernel
theorem dX10_tower_60 : decode cX10_tower 60 = .ok (.imul, 1) := by decide +kernel
theorem dX10_tower_61 : decode cX10_tower 61 = .ok (.iconst 1, 1) := by decide +kernel
theorem dX10_tower_62 : decode cX10_tower 62 = .ok (.iadd, 1) := by decide +kernel
theorem dX10_tower_63 : decode cX10_tower 63 = .ok (.iaload, 1) := by decide +kernel
theorem dX10_tower_64 : decode cX10_tower 64 = .ok (.iastore, 1) := by decide +kernel
theorem dX10_tower_65 : decode cX10_tower 65 = .ok (.iinc 1 1, 3) := by decide +kernel
theorem dX10_tower_68 : decode cX10_tower 68 = .ok (.goto (-38), 3) := by decide +kernel
theorem dX10_tower_71 : decode cX10_tower 71 = .ok (.iconst 0, 1) := by decide +kernel
theorem dX10_tower_72 : decode cX10_tower 72 = .ok (.istore_n 1, 1) := by decide +kernel
theorem dX10_tower_73 : decode cX10_tower 73 = .ok (.iload_n 1, 1) := by decide +kernel
theorem dX10_tower_74 : decode cX10_tower 74 = .ok (.bipush 30, 2) := by decide +kernel
theorem dX10_tower_76 : decode cX10_tower 76 = .ok (.if_icmp .ge 21, 3) := by decide +kernel
theorem dX10_tower_79 : decode cX10_tower 79 = .ok (.aload_n 0, 1) := by decide +kernel
theorem dX10_tower_80 : decode cX10_tower 80 = .ok (.getfield 16, 3) := by decide +kernel
theorem dX10_tower_83 : decode cX10_tower 83 = .ok (.iload_n 1, 1) := by decide +kernel
theorem dX10_tower_84 : decode cX10_tower 84 = .ok (.aload_n 0, 1) := by decide +kernel
theorem dX10_tower_85 : decode cX10_tower 85 = .ok (.getfield 22, 3) := by decide +kernel
theorem dX10_tower_88 : decode cX10_tower 88 = .ok (.iload_n 1, 1) := by decide +kernel
theorem dX10_tower_89 : decode cX10_tower 89 = .ok (.iaload, 1) := by decide +kernel
theorem dX10_tower_90 : decode cX10_tower 90 = .ok (.iastore, 1) := by decide +kernel
theorem dX10_tower_91 : decode cX10_tower 91 = .ok (.iinc 1 1, 3) := by decide +kernel
theorem dX10_tower_94 : decode cX10_tower 94 = .ok (.goto (-21), 3) := by decide +kernel
theorem dX10_tower_97 : decode cX10_tower 97 = .ok (.iconst 0, 1) := by decide +kernel
theorem dX10_tower_98 : decode cX10_tower 98 = .ok (.istore_n 1, 1) := by decide +kernel
theorem dX10_tower_99 : decode cX10_tower 99 = .ok (.iload_n 1, 1) := by decide +kernel
theorem dX10_tower_100 : decode cX10_tower 100 = .ok (.iconst 5, 1) := by decide +kernel
theorem dX10_tower_101 : decode cX10_tower 101 = .ok (.if_icmp .ge 17, 3) := by decide +kernel
theorem dX10_tower_104 : decode cX10_tower 104 = .ok (.aload_n 0, 1) := by decide +kernel
theorem dX10_tower_105 : decode cX10_tower 105 = .ok (.getfield 25, 3) := by decide +kernel
theorem dX10_tower_108 : decode cX10_tower 108 = .ok (.iload_n 1, 1) := by decide +kernel
theorem dX10_tower_109 : decode cX10_tower 109 = .ok (.bipush (-9), 2) := by decide +kernel
theorem dX10_tower_111 : decode cX10_tower 111 = .ok (.iastore, 1) := by decide +kernel
theorem dX10_tower_112 : decode cX10_tower 112 = .ok (.iinc 1 1, 3) := by decide +kernel
theorem dX10_tower_115 : decode cX10_tower 115 = .ok (.goto (-16), 3) := by decide +kernel
theorem dX10_tower_118 : decode cX10_tower 118 = .ok (.aload_n 0, 1) := by decide +kernel
theorem dX10_tower_119 : decode cX10_tower 119 = .ok (.iconst 0, 1) := by decide +kernel
theorem dX10_tower_120 : decode cX10_tower 120 = .ok (.putfield 138, 3) := by decide +kernel
theorem dX10_tower_123 : decode cX10_tower 123 = .ok (.aload_n 0, 1) := by decide +kernel
theorem dX10_tower_124 : decode cX10_tower 124 = .ok (.getfield 89, 3) := by decide +kernel
theorem dX10_tower_127 : decode cX10_tower 127 = .ok (.iconst 0, 1) := by decide +kernel
theorem dX10_tower_128 : decode cX10_tower 128 = .ok (.iconst 0, 1) := by decide +kernel
theorem dX10_tower_129 : decode cX10_tower 129 = .ok (.bastore, 1) := by decide +kernel
theorem dX10_tower_130 : decode cX10_tower 130 = .ok (.aload_n 0, 1) := by decide +kernel
theorem dX10_tower_131 : decode cX10_tower 131 = .ok (.getfield 89, 3) := by decide +kernel
theorem dX10_tower_134 : decode cX10_tower 134 = .ok (.iconst 1, 1) := by decide +kernel
theorem dX10_tower_135 : decode cX10_tower 135 = .ok (.iconst 0, 1) := by decide +kernel
theorem dX10_tower_136 : decode cX10_tower 136 = .ok (.bastore, 1) := by decide +kernel
theorem dX10_tower_137 : decode cX10_tower 137 = .ok (.bipush 10, 2) := by decide +kernel
theorem dX10_tower_139 : decode cX10_tower 139 = .ok (.aload_n 0, 1) := by decide +kernel
theorem dX10_tower_140 : decode cX10_tower 140 = .ok (.getfield 132, 3) := by decide +kernel
theorem dX10_tower_143 : decode cX10_tower 143 = .ok (.imul, 1) := by decide +kernel
theorem dX10_tower_144 : decode cX10_tower 144 = .ok (.aload_n 0, 1) := by decide +kernel
theorem dX10_tower_145 : decode cX10_tower 145 = .ok (.getfield 135, 3) := by decide +kernel
theorem dX10_tower_148 : decode cX10_tower 148 = .ok (.iadd, 1) := by decide +kernel
theorem dX10_tower_149 : decode cX10_tower 149 = .ok (.ireturn, 1) := by decide +kernel
theorem dX10_isBell_0 : decode cX10_isBell 0 = .ok (.iload_n 1, 1) := by decide +kernel
theorem dX10_isBell_1 : decode cX10_isBell 1 = .ok (.i2l, 1) := by decide +kernel
theorem dX10_isBell_2 : decode cX10_isBell 2 = .ok (.lconst 0, 1) := by decide +kernel
theorem dX10_isBell_3 : decode cX10_isBell 3 = .ok (.aload_n 0, 1) := by decide +kernel
theorem dX10_isBell_4 : decode cX10_isBell 4 = .ok (.getfield 132, 3) := by decide +kernel
theorem dX10_isBell_7 : decode cX10_isBell 7 = .ok (.iconst 1, 1) := by decide +kernel
theorem dX10_isBell_8 : decode cX10_isBell 8 = .ok (.isub, 1) := by decide +kernel
theorem dX10_isBell_9 : decode cX10_isBell 9 = .ok (.i2l, 1) := by decide +kernel
theorem dX10_isBell_10 : decode cX10_isBell 10 = .ok (.invokestatic 97, 3) := by decide +kernel
theorem dX10_isBell_13 : decode cX10_isBell 13 = .ok (.ireturn, 1) := by decide +kernel
theorem dX10_isBidder_0 : decode cX10_isBidder 0 = .ok (.iload_n 1, 1) := by decide +kernel
theorem dX10_isBidder_1 : decode cX10_isBidder 1 = .ok (.i2l, 1) := by decide +kernel
theorem dX10_isBidder_2 : decode cX10_isBidder 2 = .ok (.lconst 0, 1) := by decide +kernel
theorem dX10_isBidder_3 : decode cX10_isBidder 3 = .ok (.aload_n 0, 1) := by decide +kernel
theorem dX10_isBidder_4 : decode cX10_isBidder 4 = .ok (.getfield 135, 3) := by decide +kernel
theorem dX10_isBidder_7 : decode cX10_isBidder 7 = .ok (.iconst 1, 1) := by decide +kernel
theorem dX10_isBidder_8 : decode cX10_isBidder 8 = .ok (.isub, 1) := by decide +kernel
theorem dX10_isBidder_9 : decode cX10_isBidder 9 = .ok (.i2l, 1) := by decide +kernel
theorem dX10_isBidder_10 : decode cX10_isBidder 10 = .ok (.invokestatic 97, 3) := by decide +kernel
theorem dX10_isBidder_13 : decode cX10_isBidder 13 = .ok (.ireturn, 1) := by decide +kernel
theorem dX10_isQuiet_0 : decode cX10_isQuiet 0 = .ok (.aload_n 0, 1) := by decide +kernel
theorem dX10_isQuiet_1 : decode cX10_isQuiet 1 = .ok (.getfield 16, 3) := by decide +kernel
theorem dX10_isQuiet_4 : decode cX10_isQuiet 4 = .ok (.bipush 6, 2) := by decide +kernel
theorem dX10_isQuiet_6 : decode cX10_isQuiet 6 = .ok (.iload_n 1, 1) := by decide +kernel
theorem dX10_isQuiet_7 : decode cX10_isQuiet 7 = .ok (.imul, 1) := by decide +kernel
theorem dX10_isQuiet_8 : decode cX10_isQuiet 8 = .ok (.iaload, 1) := by decide +kernel
theorem dX10_isQuiet_9 : decode cX10_isQuiet 9 = .ok (.bipush (-9), 2) := by decide +kernel
theorem dX10_isQuiet_11 : decode cX10_isQuiet 11 = .ok (.if_icmp .ne 7, 3) := by decide +kernel
theorem dX10_isQuiet_14 : decode cX10_isQuiet 14 = .ok (.iconst 1, 1) := by decide +kernel
theorem dX10_isQuiet_15 : decode cX10_isQuiet 15 = .ok (.goto 4, 3) := by decide +kernel
theorem dX10_isQuiet_18 : decode cX10_isQuiet 18 = .ok (.iconst 0, 1) := by decide +kernel
theorem dX10_isQuiet_19 : decode cX10_isQuiet 19 = .ok (.ireturn, 1) := by decide +kernel
theorem dX10_strokeAt_0 : decode cX10_strokeAt 0 = .ok (.iload_n 2, 1) := by decide +kernel
theorem dX10_strokeAt_1 : decode cX10_strokeAt 1 = .ok (.iload_n 3, 1) := by decide +kernel
theorem dX10_strokeAt_2 : decode cX10_strokeAt 2 = .ok (.aload_n 0, 1) := by decide +kernel
theorem dX10_strokeAt_3 : decode cX10_strokeAt 3 = .ok (.getfield 7, 3) := by decide +kernel
theorem dX10_strokeAt_6 : decode cX10_strokeAt 6 = .ok (.aload_n 0, 1) := by decide +kernel
theorem dX10_strokeAt_7 : decode cX10_strokeAt 7 = .ok (.getfield 16, 3) := by decide +kernel
theorem dX10_strokeAt_10 : decode cX10_strokeAt 10 = .ok (.bipush 6, 2) := by decide +kernel
theorem dX10_strokeAt_12 : decode cX10_strokeAt 12 = .ok (.iload_n 1, 1) := by decide +kernel
theorem dX10_strokeAt_13 : decode cX10_strokeAt 13 = .ok (.imul, 1) := by decide +kernel
theorem dX10_strokeAt_14 : decode cX10_strokeAt 14 = .ok (.iaload, 1) := by decide +kernel
theorem dX10_strokeAt_15 : decode cX10_strokeAt 15 = .ok (.iaload, 1) := by decide +kernel
theorem dX10_strokeAt_16 : decode cX10_strokeAt 16 = .ok (.aload_n 0, 1) := by decide +kernel
theorem dX10_strokeAt_17 : decode cX10_strokeAt 17 = .ok (.getfield 16, 3) := by decide +kernel
theorem dX10_strokeAt_20 : decode cX10_strokeAt 20 = .ok (.bipush 6, 2) := by decide +kernel
theorem dX10_strokeAt_22 : decode cX10_strokeAt 22 = .ok (.iload_n 1, 1) := by decide +kernel
theorem dX10_strokeAt_23 : decode cX10_strokeAt 23 = .ok (.imul, 1) := by decide +kernel
theorem dX10_strokeAt_24 : decode cX10_strokeAt 24 = .ok (.iconst 2, 1) := by decide +kernel
theorem dX10_strokeAt_25 : decode cX10_strokeAt 25 = .ok (.iadd, 1) := by decide +kernel
theorem dX10_strokeAt_26 : decode cX10_strokeAt 26 = .ok (.iaload, 1) := by decide +kernel
theorem dX10_strokeAt_27 : decode cX10_strokeAt 27 = .ok (.iadd, 1) := by decide +kernel
theorem dX10_strokeAt_28 : decode cX10_strokeAt 28 = .ok (.imul, 1) := by decide +kernel
theorem dX10_strokeAt_29 : decode cX10_strokeAt 29 = .ok (.iadd, 1) := by decide +kernel
theorem dX10_strokeAt_30 : decode cX10_strokeAt 30 = .ok (.ireturn, 1) := by decide +kernel
theorem dX10_mayBegin_0 : decode cX10_mayBegin 0 = .ok (.aload_n 0, 1) := by decide +kernel
theorem dX10_mayBegin_1 : decode cX10_mayBegin 1 = .ok (.iload_n 1, 1) := by decide +kernel
theorem dX10_mayBegin_2 : decode cX10_mayBegin 2 = .ok (.invokevirtual 141, 3) := by decide +kernel
theorem dX10_mayBegin_5 : decode cX10_mayBegin 5 = .ok (.ifCond .eq 24, 3) := by decide +kernel
theorem dX10_mayBegin_8 : decode cX10_mayBegin 8 = .ok (.iload_n 2, 1) := by decide +kernel
theorem dX10_mayBegin_9 : decode cX10_mayBegin 9 = .ok (.aload_n 0, 1) := by decide +kernel
theorem dX10_mayBegin_10 : decode cX10_mayBegin 10 = .ok (.getfield 16, 3) := by decide +kernel
theorem dX10_mayBegin_13 : decode cX10_mayBegin 13 = .ok (.bipush 6, 2) := by decide +kernel
theorem dX10_mayBegin_15 : decode cX10_mayBegin 15 = .ok (.iload_n 1, 1) := by decide +kernel
theorem dX10_mayBegin_16 : decode cX10_mayBegin 16 = .ok (.imul, 1) := by decide +kernel
theorem dX10_mayBegin_17 : decode cX10_mayBegin 17 = .ok (.iconst 3, 1) := by decide +kernel
theorem dX10_mayBegin_18 : decode cX10_mayBegin 18 = .ok (.iadd, 1) := by decide +kernel
theorem dX10_mayBegin_19 : decode cX10_mayBegin 19 = .ok (.iaload, 1) := by decide +kernel
theorem dX10_mayBegin_20 : decode cX10_mayBegin 20 = .ok (.if_icmp .ne 7, 3) := by decide +kernel
theorem dX10_mayBegin_23 : decode cX10_mayBegin 23 = .ok (.iconst 1, 1) := by decide +kernel
theorem dX10_mayBegin_24 : decode cX10_mayBegin 24 = .ok (.goto 4, 3) := by decide +kernel
theorem dX10_mayBegin_27 : decode cX10_mayBegin 27 = .ok (.iconst 0, 1) := by decide +kernel
theorem dX10_mayBegin_28 : decode cX10_mayBegin 28 = .ok (.ireturn, 1) := by decide +kernel
theorem dX10_mayBegin_29 : decode cX10_mayBegin 29 = .ok (.aload_n 0, 1) := by decide +kernel
theorem dX10_mayBegin_30 : decode cX10_mayBegin 30 = .ok (.getfield 16, 3) := by decide +kernel
theorem dX10_mayBegin_33 : decode cX10_mayBegin 33 = .ok (.bipush 6, 2) := by decide +kernel
theorem dX10_mayBegin_35 : decode cX10_mayBegin 35 = .ok (.iload_n 1, 1) := by decide +kernel
theorem dX10_mayBegin_36 : decode cX10_mayBegin 36 = .ok (.imul, 1) := by decide +kernel
theorem dX10_mayBegin_37 : decode cX10_mayBegin 37 = .ok (.iconst 1, 1) := by decide +kernel
theorem dX10_mayBegin_38 : decode cX10_mayBegin 38 = .ok (.iadd, 1) := by decide +kernel
theorem dX10_mayBegin_39 : decode cX10_mayBegin 39 = .ok (.iaload, 1) := by decide +kernel
theorem dX10_mayBegin_40 : decode cX10_mayBegin 40 = .ok (.istore_n 3, 1) := by decide +kernel
theorem dX10_mayBegin_41 : decode cX10_mayBegin 41 = .ok (.iload_n 3, 1) := by decide +kernel
theorem dX10_mayBegin_42 : decode cX10_mayBegin 42 = .ok (.iconst 1, 1) := by decide +kernel
theorem dX10_mayBegin_43 : decode cX10_mayBegin 43 = .ok (.if_icmp .le 35, 3) := by decide +kernel
theorem dX10_mayBegin_46 : decode cX10_mayBegin 46 = .ok (.aload_n 0, 1) := by decide +kernel
theorem dX10_mayBegin_47 : decode cX10_mayBegin 47 = .ok (.getfield 16, 3) := by decide +kernel
theorem dX10_mayBegin_50 : decode cX10_mayBegin 50 = .ok (.bipush 6, 2) := by decide +kernel
theorem dX10_mayBegin_52 : decode cX10_mayBegin 52 = .ok (.iload_n 1, 1) := by decide +kernel
theorem dX10_mayBegin_53 : decode cX10_mayBegin 53 = .ok (.imul, 1) := by decide +kernel
theorem dX10_mayBegin_54 : decode cX10_mayBegin 54 = .ok (.iconst 2, 1) := by decide +kernel
theorem dX10_mayBegin_55 : decode cX10_mayBegin 55 = .ok (.iadd, 1) := by decide +kernel
theorem dX10_mayBegin_56 : decode cX10_mayBegin 56 = .ok (.iaload, 1) := by decide +kernel
theorem dX10_mayBegin_57 : decode cX10_mayBegin 57 = .ok (.aload_n 0, 1) := by decide +kernel
theorem dX10_mayBegin_58 : decode cX10_mayBegin 58 = .ok (.getfield 13, 3) := by decide +kernel
theorem dX10_mayBegin_61 : decode cX10_mayBegin 61 = .ok (.aload_n 0, 1) := by decide +kernel
theorem dX10_mayBegin_62 : decode cX10_mayBegin 62 = .ok (.getfield 16, 3) := by decide +kernel
theorem dX10_mayBegin_65 : decode cX10_mayBegin 65 = .ok (.bipush 6, 2) := by decide +kernel
theorem dX10_mayBegin_67 : decode cX10_mayBegin 67 = .ok (.iload_n 1, 1) := by decide +kernel
theorem dX10_mayBegin_68 : decode cX10_mayBegin 68 = .ok (.imul, 1) := by decide +kernel
theorem dX10_mayBegin_69 : decode cX10_mayBegin 69 = .ok (.iaload, 1) := by decide +kernel
theorem dX10_mayBegin_70 : decode cX10_mayBegin 70 = .ok (.iaload, 1) := by decide +kernel
theorem dX10_mayBegin_71 : decode cX10_mayBegin 71 = .ok (.if_icmp .ge 7, 3) := by decide +kernel
theorem dX10_mayBegin_74 : decode cX10_mayBegin 74 = .ok (.iconst 1, 1) := by decide +kernel
theorem dX10_mayBegin_75 : decode cX10_mayBegin 75 = .ok (.goto 4, 3) := by decide +kernel
theorem dX10_mayBegin_78 : decode cX10_mayBegin 78 = .ok (.iconst 0, 1) := by decide +kernel
theorem dX10_mayBegin_79 : decode cX10_mayBegin 79 = .ok (.istore 4, 2) := by decide +kernel
theorem dX10_mayBegin_81 : decode cX10_mayBegin 81 = .ok (.iload 4, 2) := by decide +kernel
theorem dX10_mayBegin_83 : decode cX10_mayBegin 83 = .ok (.ifCond .ne 62, 3) := by decide +kernel
theorem dX10_mayBegin_86 : decode cX10_mayBegin 86 = .ok (.iload_n 2, 1) := by decide +kernel
theorem dX10_mayBegin_87 : decode cX10_mayBegin 87 = .ok (.aload_n 0, 1) := by decide +kernel
theorem dX10_mayBegin_88 : decode cX10_mayBegin 88 = .ok (.getfield 16, 3) := by decide +kernel
theorem dX10_mayBegin_91 : decode cX10_mayBegin 91 = .ok (.bipush 6, 2) := by decide +kernel
theorem dX10_mayBegin_93 : decode cX10_mayBegin 93 = .ok (.iload_n 1, 1) := by decide +kernel
theorem dX10_mayBegin_94 : decode cX10_mayBegin 94 = .ok (.imul, 1) := by decide +kernel
theorem dX10_mayBegin_95 : decode cX10_mayBegin 95 = .ok (.iconst 3, 1) := by decide +kernel
theorem dX10_mayBegin_96 : decode cX10_mayBegin 96 = .ok (.iadd, 1) := by decide +kernel
theorem dX10_mayBegin_97 : decode cX10_mayBegin 97 = .ok (.iaload, 1) := by decide +kernel
theorem dX10_mayBegin_98 : decode cX10_mayBegin 98 = .ok (.if_icmp .lt 47, 3) := by decide +kernel
theorem dX10_mayBegin_101 : decode cX10_mayBegin 101 = .ok (.aload_n 0, 1) := by decide +kernel
theorem dX10_mayBegin_102 : decode cX10_mayBegin 102 = .ok (.iload_n 1, 1) := by decide +kernel
theorem dX10_mayBegin_103 : decode cX10_mayBegin 103 = .ok (.iload_n 2, 1) := by decide +kernel
theorem dX10_mayBegin_104 : decode cX10_mayBegin 104 = .ok (.iload_n 3, 1) := by decide +kernel
theorem dX10_mayBegin_105 : decode cX10_mayBegin 105 = .ok (.iconst 1, 1) := by decide +kernel
theorem dX10_mayBegin_106 : decode cX10_mayBegin 106 = .ok (.isub, 1) := by decide +kernel
theorem dX10_mayBegin_107 : decode cX10_mayBegin 107 = .ok (.invokevirtual 145, 3) := by decide +kernel
theorem dX10_mayBegin_110 : decode cX10_mayBegin 110 = .ok (.aload_n 0, 1) := by decide +kernel
theorem dX10_mayBegin_111 : decode cX10_mayBegin 111 = .ok (.getfield 7, 3) := by decide +kernel
theorem dX10_mayBegin_114 : decode cX10_mayBegin 114 = .ok (.aload_n 0, 1) := by decide +kernel
theorem dX10_mayBegin_115 : decode cX10_mayBegin 115 = .ok (.getfield 16, 3) := by decide +kernel
theorem dX10_mayBegin_118 : decode cX10_mayBegin 118 = .ok (.bipush 6, 2) := by decide +kernel
theorem dX10_mayBegin_120 : decode cX10_mayBegin 120 = .ok (.iload_n 1, 1) := by decide +kernel
theorem dX10_mayBegin_121 : decode cX10_mayBegin 121 = .ok (.imul, 1) := by decide +kernel
theorem dX10_mayBegin_122 : decode cX10_mayBegin 122 = .ok (.iaload, 1) := by decide +kernel
theorem dX10_mayBegin_123 : decode cX10_mayBegin 123 = .ok (.iaload, 1) := by decide +kernel
theorem dX10_mayBegin_124 : decode cX10_mayBegin 124 = .ok (.iadd, 1) := by decide +kernel
theorem dX10_mayBegin_125 : decode cX10_mayBegin 125 = .ok (.iconst 1, 1) := by decide +kernel
theorem dX10_mayBegin_126 : decode cX10_mayBegin 126 = .ok (.isub, 1) := by decide +kernel
theorem dX10_mayBegin_127 : decode cX10_mayBegin 127 = .ok (.aload_n 0, 1) := by decide +kernel
theorem dX10_mayBegin_128 : decode cX10_mayBegin 128 = .ok (.getfield 16, 3) := by decide +kernel
theorem dX10_mayBegin_131 : decode cX10_mayBegin 131 = .ok (.bipush 6, 2) := by decide +kernel
theorem dX10_mayBegin_133 : decode cX10_mayBegin 133 = .ok (.iload_n 1, 1) := by decide +kernel
theorem dX10_mayBegin_134 : decode cX10_mayBegin 134 = .ok (.imul, 1) := by decide +kernel
theorem dX10_mayBegin_135 : decode cX10_mayBegin 135 = .ok (.iconst 4, 1) := by decide +kernel
theorem dX10_mayBegin_136 : decode cX10_mayBegin 136 = .ok (.iadd, 1) := by decide +kernel
theorem dX10_mayBegin_137 : decode cX10_mayBegin 137 = .ok (.iaload, 1) := by decide +kernel
theorem dX10_mayBegin_138 : decode cX10_mayBegin 138 = .ok (.if_icmp .gt 7, 3) := by decide +kernel
theorem dX10_mayBegin_141 : decode cX10_mayBegin 141 = .ok (.iconst 1, 1) := by decide +kernel
theorem dX10_mayBegin_142 : decode cX10_mayBegin 142 = .ok (.goto 4, 3) := by decide +kernel
theorem dX10_mayBegin_145 : decode cX10_mayBegin 145 = .ok (.iconst 0, 1) := by decide +kernel
theorem dX10_mayBegin_146 : decode cX10_mayBegin 146 = .ok (.ireturn, 1) := by decide +kernel
theorem dX10_span_0 : decode cX10_span 0 = .ok (.iconst 1, 1) := by decide +kernel
theorem dX10_span_1 : decode cX10_span 1 = .ok (.iload_n 1, 1) := by decide +kernel
theorem dX10_span_2 : decode cX10_span 2 = .ok (.ishl, 1) := by decide +kernel
theorem dX10_span_3 : decode cX10_span 3 = .ok (.iconst 1, 1) := by decide +kernel
theorem dX10_span_4 : decode cX10_span 4 = .ok (.isub, 1) := by decide +kernel
theorem dX10_span_5 : decode cX10_span 5 = .ok (.iload_n 0, 1) := by decide +kernel
theorem dX10_span_6 : decode cX10_span 6 = .ok (.ishl, 1) := by decide +kernel
theorem dX10_span_7 : decode cX10_span 7 = .ok (.ireturn, 1) := by decide +kernel
theorem dX10_seconds_0 : decode cX10_seconds 0 = .ok (.aload_n 0, 1) := by decide +kernel
theorem dX10_seconds_1 : decode cX10_seconds 1 = .ok (.iload_n 1, 1) := by decide +kernel
theorem dX10_seconds_2 : decode cX10_seconds 2 = .ok (.invokevirtual 141, 3) := by decide +kernel
theorem dX10_seconds_5 : decode cX10_seconds 5 = .ok (.ifCond .eq 43, 3) := by decide +kernel
theorem dX10_seconds_8 : decode cX10_seconds 8 = .ok (.aload_n 0, 1) := by decide +kernel
theorem dX10_seconds_9 : decode cX10_seconds 9 = .ok (.getfield 16, 3) := by decide +kernel
theorem dX10_seconds_12 : decode cX10_seconds 12 = .ok (.bipush 6, 2) := by decide +kernel
theorem dX10_seconds_14 : decode cX10_seconds 14 = .ok (.iload_n 1, 1) := by decide +kernel
theorem dX10_seconds_15 : decode cX10_seconds 15 = .ok (.imul, 1) := by decide +kernel
theorem dX10_seconds_16 : decode cX10_seconds 16 = .ok (.iconst 3, 1) := by decide +kernel
theorem dX10_seconds_17 : decode cX10_seconds 17 = .ok (.iadd, 1) := by decide +kernel
theorem dX10_seconds_18 : decode cX10_seconds 18 = .ok (.iaload, 1) := by decide +kernel
theorem dX10_seconds_19 : decode cX10_seconds 19 = .ok (.aload_n 0, 1) := by decide +kernel
theorem dX10_seconds_20 : decode cX10_seconds 20 = .ok (.getfield 16, 3) := by decide +kernel
theorem dX10_seconds_23 : decode cX10_seconds 23 = .ok (.bipush 6, 2) := by decide +kernel
theorem dX10_seconds_25 : decode cX10_seconds 25 = .ok (.iload_n 1, 1) := by decide +kernel
theorem dX10_seconds_26 : decode cX10_seconds 26 = .ok (.imul, 1) := by decide +kernel
theorem dX10_seconds_27 : decode cX10_seconds 27 = .ok (.iconst 4, 1) := by decide +kernel
theorem dX10_seconds_28 : decode cX10_seconds 28 = .ok (.iadd, 1) := by decide +kernel
theorem dX10_seconds_29 : decode cX10_seconds 29 = .ok (.iaload, 1) := by decide +kernel
theorem dX10_seconds_30 : decode cX10_seconds 30 = .ok (.aload_n 0, 1) := by decide +kernel
theorem dX10_seconds_31 : decode cX10_seconds 31 = .ok (.getfield 16, 3) := by decide +kernel
theorem dX10_seconds_34 : decode cX10_seconds 34 = .ok (.bipush 6, 2) := by decide +kernel
theorem dX10_seconds_36 : decode cX10_seconds 36 = .ok (.iload_n 1, 1) := by decide +kernel
theorem dX10_seconds_37 : decode cX10_seconds 37 = .ok (.imul, 1) := by decide +kernel
theorem dX10_seconds_38 : decode cX10_seconds 38 = .ok (.iconst 3, 1) := by decide +kernel
theorem dX10_seconds_39 : decode cX10_seconds 39 = .ok (.iadd, 1) := by decide +kernel
theorem dX10_seconds_40 : decode cX10_seconds 40 = .ok (.iaload, 1) := by decide +kernel
theorem dX10_seconds_41 : decode cX10_seconds 41 = .ok (.isub, 1) := by decide +kernel
theorem dX10_seconds_42 : decode cX10_seconds 42 = .ok (.iconst 1, 1) := by decide +kernel
theorem dX10_seconds_43 : decode cX10_seconds 43 = .ok (.iadd, 1) := by decide +kernel
theorem dX10_seconds_44 : decode cX10_seconds 44 = .ok (.invokestatic 149, 3) := by decide +kernel
theorem dX10_seconds_47 : decode cX10_seconds 47 = .ok (.ireturn, 1) := by decide +kernel
theorem dX10_seconds_48 : decode cX10_seconds 48 = .ok (.aload_n 0, 1) := by decide +kernel
theorem dX10_seconds_49 : decode cX10_seconds 49 = .ok (.getfield 16, 3) := by decide +kernel
theorem dX10_seconds_52 : decode cX10_seconds 52 = .ok (.bipush 6, 2) := by decide +kernel
theorem dX10_seconds_54 : decode cX10_seconds 54 = .ok (.iload_n 1, 1) := by decide +kernel
theorem dX10_seconds_55 : decode cX10_seconds 55 = .ok (.imul, 1) := by decide +kernel
theorem dX10_seconds_56 : decode cX10_seconds 56 = .ok (.iaload, 1) := by decide +kernel
theorem dX10_seconds_57 : decode cX10_seconds 57 = .ok (.istore 4, 2) := by decide +kernel
theorem dX10_seconds_59 : decode cX10_seconds 59 = .ok (.iconst 0, 1) := by decide +kernel
theorem dX10_seconds_60 : decode cX10_seconds 60 = .ok (.istore 5, 2) := by decide +kernel
theorem dX10_seconds_62 : decode cX10_seconds 62 = .ok (.iconst 0, 1) := by decide +kernel
theorem dX10_seconds_63 : decode cX10_seconds 63 = .ok (.istore 6, 2) := by decide +kernel
theorem dX10_seconds_65 : decode cX10_seconds 65 = .ok (.iload 6, 2) := by decide +kernel
theorem dX10_seconds_67 : decode cX10_seconds 67 = .ok (.aload_n 0, 1) := by decide +kernel
theorem dX10_seconds_68 : decode cX10_seconds 68 = .ok (.getfield 16, 3) := by decide +kernel
theorem dX10_seconds_71 : decode cX10_seconds 71 = .ok (.bipush 6, 2) := by decide +kernel
theorem dX10_seconds_73 : decode cX10_seconds 73 = .ok (.iload_n 1, 1) := by decide +kernel
theorem dX10_seconds_74 : decode cX10_seconds 74 = .ok (.imul, 1) := by decide +kernel
theorem dX10_seconds_75 : decode cX10_seconds 75 = .ok (.iconst 1, 1) := by decide +kernel
theorem dX10_seconds_76 : decode cX10_seconds 76 = .ok (.iadd, 1) := by decide +kernel
theorem dX10_seconds_77 : decode cX10_seconds 77 = .ok (.iaload, 1) := by decide +kernel
theorem dX10_seconds_78 : decode cX10_seconds 78 = .ok (.if_icmp .ge 48, 3) := by decide +kernel
theorem dX10_seconds_81 : decode cX10_seconds 81 = .ok (.iload 5, 2) := by decide +kernel
theorem dX10_seconds_83 : decode cX10_seconds 83 = .ok (.aload_n 0, 1) := by decide +kernel
theorem dX10_seconds_84 : decode cX10_seconds 84 = .ok (.iload_n 1, 1) := by decide +kernel
theorem dX10_seconds_85 : decode cX10_seconds 85 = .ok (.iload_n 2, 1) := by decide +kernel
theorem dX10_seconds_86 : decode cX10_seconds 86 = .ok (.iload 6, 2) := by decide +kernel
theorem dX10_seconds_88 : decode cX10_seconds 88 = .ok (.invokevirtual 145, 3) := by decide +kernel
theorem dX10_seconds_91 : decode cX10_seconds 91 = .ok (.aload_n 0, 1) := by decide +kernel
theorem dX10_seconds_92 : decode cX10_seconds 92 = .ok (.getfield 7, 3) := by decide +kernel
theorem dX10_seconds_95 : decode cX10_seconds 95 = .ok (.iload 4, 2) := by decide +kernel
theorem dX10_seconds_97 : decode cX10_seconds 97 = .ok (.iaload, 1) := by decide +kernel
end
section
theorem dX10_seconds_98 : decode cX10_seconds 98 = .ok (.iload_n 3, 1) := by decide +kernel
theorem dX10_seconds_99 : decode cX10_seconds 99 = .ok (.ifCond .eq 13, 3) := by decide +kernel
theorem dX10_seconds_102 : decode cX10_seconds 102 = .ok (.aload_n 0, 1) := by decide +kernel
theorem dX10_seconds_103 : decode cX10_seconds 103 = .ok (.getfield 13, 3) := by decide +kernel
theorem dX10_seconds_106 : decode cX10_seconds 106 = .ok (.iload 4, 2) := by decide +kernel
theorem dX10_seconds_108 : decode cX10_seconds 108 = .ok (.iaload, 1) := by decide +kernel
theorem dX10_seconds_109 : decode cX10_seconds 109 = .ok (.goto 4, 3) := by decide +kernel
theorem dX10_seconds_112 : decode cX10_seconds 112 = .ok (.iconst 0, 1) := by decide +kernel
theorem dX10_seconds_113 : decode cX10_seconds 113 = .ok (.iadd, 1) := by decide +kernel
theorem dX10_seconds_114 : decode cX10_seconds 114 = .ok (.invokestatic 149, 3) := by decide +kernel
theorem dX10_seconds_117 : decode cX10_seconds 117 = .ok (.ior, 1) := by decide +kernel
theorem dX10_seconds_118 : decode cX10_seconds 118 = .ok (.istore 5, 2) := by decide +kernel
theorem dX10_seconds_120 : decode cX10_seconds 120 = .ok (.iinc 6 1, 3) := by decide +kernel
theorem dX10_seconds_123 : decode cX10_seconds 123 = .ok (.goto (-58), 3) := by decide +kernel
theorem dX10_seconds_126 : decode cX10_seconds 126 = .ok (.iload 5, 2) := by decide +kernel
theorem dX10_seconds_128 : decode cX10_seconds 128 = .ok (.ireturn, 1) := by decide +kernel
theorem dX10_clash_0 : decode cX10_clash 0 = .ok (.aload_n 0, 1) := by decide +kernel
theorem dX10_clash_1 : decode cX10_clash 1 = .ok (.iload_n 1, 1) := by decide +kernel
theorem dX10_clash_2 : decode cX10_clash 2 = .ok (.invokevirtual 141, 3) := by decide +kernel
theorem dX10_clash_5 : decode cX10_clash 5 = .ok (.ifCond .eq 13, 3) := by decide +kernel
theorem dX10_clash_8 : decode cX10_clash 8 = .ok (.aload_n 0, 1) := by decide +kernel
theorem dX10_clash_9 : decode cX10_clash 9 = .ok (.iload_n 3, 1) := by decide +kernel
theorem dX10_clash_10 : decode cX10_clash 10 = .ok (.invokevirtual 141, 3) := by decide +kernel
theorem dX10_clash_13 : decode cX10_clash 13 = .ok (.ifCond .eq 5, 3) := by decide +kernel
theorem dX10_clash_16 : decode cX10_clash 16 = .ok (.iconst 0, 1) := by decide +kernel
theorem dX10_clash_17 : decode cX10_clash 17 = .ok (.ireturn, 1) := by decide +kernel
theorem dX10_clash_18 : decode cX10_clash 18 = .ok (.aload_n 0, 1) := by decide +kernel
theorem dX10_clash_19 : decode cX10_clash 19 = .ok (.iload_n 1, 1) := by decide +kernel
theorem dX10_clash_20 : decode cX10_clash 20 = .ok (.invokevirtual 141, 3) := by decide +kernel
theorem dX10_clash_23 : decode cX10_clash 23 = .ok (.ifCond .ne 57, 3) := by decide +kernel
theorem dX10_clash_26 : decode cX10_clash 26 = .ok (.aload_n 0, 1) := by decide +kernel
theorem dX10_clash_27 : decode cX10_clash 27 = .ok (.iload_n 3, 1) := by decide +kernel
theorem dX10_clash_28 : decode cX10_clash 28 = .ok (.invokevirtual 141, 3) := by decide +kernel
theorem dX10_clash_31 : decode cX10_clash 31 = .ok (.ifCond .ne 49, 3) := by decide +kernel
theorem dX10_clash_34 : decode cX10_clash 34 = .ok (.aload_n 0, 1) := by decide +kernel
theorem dX10_clash_35 : decode cX10_clash 35 = .ok (.getfield 16, 3) := by decide +kernel
theorem dX10_clash_38 : decode cX10_clash 38 = .ok (.bipush 6, 2) := by decide +kernel
theorem dX10_clash_40 : decode cX10_clash 40 = .ok (.iload_n 1, 1) := by decide +kernel
theorem dX10_clash_41 : decode cX10_clash 41 = .ok (.imul, 1) := by decide +kernel
theorem dX10_clash_42 : decode cX10_clash 42 = .ok (.iaload, 1) := by decide +kernel
theorem dX10_clash_43 : decode cX10_clash 43 = .ok (.aload_n 0, 1) := by decide +kernel
theorem dX10_clash_44 : decode cX10_clash 44 = .ok (.getfield 16, 3) := by decide +kernel
theorem dX10_clash_47 : decode cX10_clash 47 = .ok (.bipush 6, 2) := by decide +kernel
theorem dX10_clash_49 : decode cX10_clash 49 = .ok (.iload_n 3, 1) := by decide +kernel
theorem dX10_clash_50 : decode cX10_clash 50 = .ok (.imul, 1) := by decide +kernel
theorem dX10_clash_51 : decode cX10_clash 51 = .ok (.iaload, 1) := by decide +kernel
theorem dX10_clash_52 : decode cX10_clash 52 = .ok (.if_icmp .ne 26, 3) := by decide +kernel
theorem dX10_clash_55 : decode cX10_clash 55 = .ok (.aload_n 0, 1) := by decide +kernel
theorem dX10_clash_56 : decode cX10_clash 56 = .ok (.iload_n 1, 1) := by decide +kernel
theorem dX10_clash_57 : decode cX10_clash 57 = .ok (.iload_n 2, 1) := by decide +kernel
theorem dX10_clash_58 : decode cX10_clash 58 = .ok (.iconst 1, 1) := by decide +kernel
theorem dX10_clash_59 : decode cX10_clash 59 = .ok (.invokevirtual 152, 3) := by decide +kernel
theorem dX10_clash_62 : decode cX10_clash 62 = .ok (.aload_n 0, 1) := by decide +kernel
theorem dX10_clash_63 : decode cX10_clash 63 = .ok (.iload_n 3, 1) := by decide +kernel
theorem dX10_clash_64 : decode cX10_clash 64 = .ok (.iload 4, 2) := by decide +kernel
theorem dX10_clash_66 : decode cX10_clash 66 = .ok (.iconst 1, 1) := by decide +kernel
theorem dX10_clash_67 : decode cX10_clash 67 = .ok (.invokevirtual 152, 3) := by decide +kernel
theorem dX10_clash_70 : decode cX10_clash 70 = .ok (.iand, 1) := by decide +kernel
theorem dX10_clash_71 : decode cX10_clash 71 = .ok (.ifCond .eq 7, 3) := by decide +kernel
theorem dX10_clash_74 : decode cX10_clash 74 = .ok (.iconst 1, 1) := by decide +kernel
theorem dX10_clash_75 : decode cX10_clash 75 = .ok (.goto 4, 3) := by decide +kernel
theorem dX10_clash_78 : decode cX10_clash 78 = .ok (.iconst 0, 1) := by decide +kernel
theorem dX10_clash_79 : decode cX10_clash 79 = .ok (.ireturn, 1) := by decide +kernel
theorem dX10_clash_80 : decode cX10_clash 80 = .ok (.aload_n 0, 1) := by decide +kernel
theorem dX10_clash_81 : decode cX10_clash 81 = .ok (.iload_n 1, 1) := by decide +kernel
theorem dX10_clash_82 : decode cX10_clash 82 = .ok (.iload_n 2, 1) := by decide +kernel
theorem dX10_clash_83 : decode cX10_clash 83 = .ok (.iconst 0, 1) := by decide +kernel
theorem dX10_clash_84 : decode cX10_clash 84 = .ok (.invokevirtual 152, 3) := by decide +kernel
theorem dX10_clash_87 : decode cX10_clash 87 = .ok (.aload_n 0, 1) := by decide +kernel
theorem dX10_clash_88 : decode cX10_clash 88 = .ok (.iload_n 3, 1) := by decide +kernel
theorem dX10_clash_89 : decode cX10_clash 89 = .ok (.iload 4, 2) := by decide +kernel
theorem dX10_clash_91 : decode cX10_clash 91 = .ok (.iconst 0, 1) := by decide +kernel
theorem dX10_clash_92 : decode cX10_clash 92 = .ok (.invokevirtual 152, 3) := by decide +kernel
theorem dX10_clash_95 : decode cX10_clash 95 = .ok (.iand, 1) := by decide +kernel
theorem dX10_clash_96 : decode cX10_clash 96 = .ok (.ifCond .eq 7, 3) := by decide +kernel
theorem dX10_clash_99 : decode cX10_clash 99 = .ok (.iconst 1, 1) := by decide +kernel
theorem dX10_clash_100 : decode cX10_clash 100 = .ok (.goto 4, 3) := by decide +kernel
theorem dX10_clash_103 : decode cX10_clash 103 = .ok (.iconst 0, 1) := by decide +kernel
theorem dX10_clash_104 : decode cX10_clash 104 = .ok (.ireturn, 1) := by decide +kernel
theorem dX10_clashesOf_0 : decode cX10_clashesOf 0 = .ok (.iconst 0, 1) := by decide +kernel
theorem dX10_clashesOf_1 : decode cX10_clashesOf 1 = .ok (.istore_n 3, 1) := by decide +kernel
theorem dX10_clashesOf_2 : decode cX10_clashesOf 2 = .ok (.iconst 0, 1) := by decide +kernel
theorem dX10_clashesOf_3 : decode cX10_clashesOf 3 = .ok (.istore 4, 2) := by decide +kernel
theorem dX10_clashesOf_5 : decode cX10_clashesOf 5 = .ok (.iload 4, 2) := by decide +kernel
theorem dX10_clashesOf_7 : decode cX10_clashesOf 7 = .ok (.aload_n 0, 1) := by decide +kernel
theorem dX10_clashesOf_8 : decode cX10_clashesOf 8 = .ok (.getfield 135, 3) := by decide +kernel
theorem dX10_clashesOf_11 : decode cX10_clashesOf 11 = .ok (.if_icmp .ge 56, 3) := by decide +kernel
theorem dX10_clashesOf_14 : decode cX10_clashesOf 14 = .ok (.iload_n 3, 1) := by decide +kernel
theorem dX10_clashesOf_15 : decode cX10_clashesOf 15 = .ok (.iload 4, 2) := by decide +kernel
theorem dX10_clashesOf_17 : decode cX10_clashesOf 17 = .ok (.iload_n 1, 1) := by decide +kernel
theorem dX10_clashesOf_18 : decode cX10_clashesOf 18 = .ok (.if_icmp .eq 40, 3) := by decide +kernel
theorem dX10_clashesOf_21 : decode cX10_clashesOf 21 = .ok (.aload_n 0, 1) := by decide +kernel
theorem dX10_clashesOf_22 : decode cX10_clashesOf 22 = .ok (.getfield 25, 3) := by decide +kernel
theorem dX10_clashesOf_25 : decode cX10_clashesOf 25 = .ok (.iload 4, 2) := by decide +kernel
theorem dX10_clashesOf_27 : decode cX10_clashesOf 27 = .ok (.iaload, 1) := by decide +kernel
theorem dX10_clashesOf_28 : decode cX10_clashesOf 28 = .ok (.bipush (-9), 2) := by decide +kernel
theorem dX10_clashesOf_30 : decode cX10_clashesOf 30 = .ok (.if_icmp .eq 28, 3) := by decide +kernel
theorem dX10_clashesOf_33 : decode cX10_clashesOf 33 = .ok (.aload_n 0, 1) := by decide +kernel
theorem dX10_clashesOf_34 : decode cX10_clashesOf 34 = .ok (.iload_n 1, 1) := by decide +kernel
theorem dX10_clashesOf_35 : decode cX10_clashesOf 35 = .ok (.iload_n 2, 1) := by decide +kernel
theorem dX10_clashesOf_36 : decode cX10_clashesOf 36 = .ok (.iload 4, 2) := by decide +kernel
theorem dX10_clashesOf_38 : decode cX10_clashesOf 38 = .ok (.aload_n 0, 1) := by decide +kernel
theorem dX10_clashesOf_39 : decode cX10_clashesOf 39 = .ok (.getfield 25, 3) := by decide +kernel
theorem dX10_clashesOf_42 : decode cX10_clashesOf 42 = .ok (.iload 4, 2) := by decide +kernel
theorem dX10_clashesOf_44 : decode cX10_clashesOf 44 = .ok (.iaload, 1) := by decide +kernel
theorem dX10_clashesOf_45 : decode cX10_clashesOf 45 = .ok (.invokevirtual 156, 3) := by decide +kernel
theorem dX10_clashesOf_48 : decode cX10_clashesOf 48 = .ok (.ifCond .eq 10, 3) := by decide +kernel
theorem dX10_clashesOf_51 : decode cX10_clashesOf 51 = .ok (.iconst 1, 1) := by decide +kernel
theorem dX10_clashesOf_52 : decode cX10_clashesOf 52 = .ok (.iload 4, 2) := by decide +kernel
theorem dX10_clashesOf_54 : decode cX10_clashesOf 54 = .ok (.ishl, 1) := by decide +kernel
theorem dX10_clashesOf_55 : decode cX10_clashesOf 55 = .ok (.goto 4, 3) := by decide +kernel
theorem dX10_clashesOf_58 : decode cX10_clashesOf 58 = .ok (.iconst 0, 1) := by decide +kernel
theorem dX10_clashesOf_59 : decode cX10_clashesOf 59 = .ok (.ior, 1) := by decide +kernel
theorem dX10_clashesOf_60 : decode cX10_clashesOf 60 = .ok (.istore_n 3, 1) := by decide +kernel
theorem dX10_clashesOf_61 : decode cX10_clashesOf 61 = .ok (.iinc 4 1, 3) := by decide +kernel
theorem dX10_clashesOf_64 : decode cX10_clashesOf 64 = .ok (.goto (-59), 3) := by decide +kernel
theorem dX10_clashesOf_67 : decode cX10_clashesOf 67 = .ok (.iload_n 3, 1) := by decide +kernel
theorem dX10_clashesOf_68 : decode cX10_clashesOf 68 = .ok (.ireturn, 1) := by decide +kernel
theorem dX10_coinsOf_0 : decode cX10_coinsOf 0 = .ok (.iconst 0, 1) := by decide +kernel
theorem dX10_coinsOf_1 : decode cX10_coinsOf 1 = .ok (.istore_n 2, 1) := by decide +kernel
theorem dX10_coinsOf_2 : decode cX10_coinsOf 2 = .ok (.iconst 0, 1) := by decide +kernel
theorem dX10_coinsOf_3 : decode cX10_coinsOf 3 = .ok (.istore_n 3, 1) := by decide +kernel
theorem dX10_coinsOf_4 : decode cX10_coinsOf 4 = .ok (.iload_n 3, 1) := by decide +kernel
theorem dX10_coinsOf_5 : decode cX10_coinsOf 5 = .ok (.aload_n 0, 1) := by decide +kernel
theorem dX10_coinsOf_6 : decode cX10_coinsOf 6 = .ok (.getfield 135, 3) := by decide +kernel
theorem dX10_coinsOf_9 : decode cX10_coinsOf 9 = .ok (.if_icmp .ge 35, 3) := by decide +kernel
theorem dX10_coinsOf_12 : decode cX10_coinsOf 12 = .ok (.iload_n 2, 1) := by decide +kernel
theorem dX10_coinsOf_13 : decode cX10_coinsOf 13 = .ok (.iload_n 1, 1) := by decide +kernel
theorem dX10_coinsOf_14 : decode cX10_coinsOf 14 = .ok (.iload_n 3, 1) := by decide +kernel
theorem dX10_coinsOf_15 : decode cX10_coinsOf 15 = .ok (.invokestatic 160, 3) := by decide +kernel
theorem dX10_coinsOf_18 : decode cX10_coinsOf 18 = .ok (.ifCond .eq 17, 3) := by decide +kernel
theorem dX10_coinsOf_21 : decode cX10_coinsOf 21 = .ok (.aload_n 0, 1) := by decide +kernel
theorem dX10_coinsOf_22 : decode cX10_coinsOf 22 = .ok (.getfield 16, 3) := by decide +kernel
theorem dX10_coinsOf_25 : decode cX10_coinsOf 25 = .ok (.bipush 6, 2) := by decide +kernel
theorem dX10_coinsOf_27 : decode cX10_coinsOf 27 = .ok (.iload_n 3, 1) := by decide +kernel
theorem dX10_coinsOf_28 : decode cX10_coinsOf 28 = .ok (.imul, 1) := by decide +kernel
theorem dX10_coinsOf_29 : decode cX10_coinsOf 29 = .ok (.iconst 5, 1) := by decide +kernel
theorem dX10_coinsOf_30 : decode cX10_coinsOf 30 = .ok (.iadd, 1) := by decide +kernel
theorem dX10_coinsOf_31 : decode cX10_coinsOf 31 = .ok (.iaload, 1) := by decide +kernel
theorem dX10_coinsOf_32 : decode cX10_coinsOf 32 = .ok (.goto 4, 3) := by decide +kernel
theorem dX10_coinsOf_35 : decode cX10_coinsOf 35 = .ok (.iconst 0, 1) := by decide +kernel
theorem dX10_coinsOf_36 : decode cX10_coinsOf 36 = .ok (.iadd, 1) := by decide +kernel
theorem dX10_coinsOf_37 : decode cX10_coinsOf 37 = .ok (.istore_n 2, 1) := by decide +kernel
theorem dX10_coinsOf_38 : decode cX10_coinsOf 38 = .ok (.iinc 3 1, 3) := by decide +kernel
theorem dX10_coinsOf_41 : decode cX10_coinsOf 41 = .ok (.goto (-37), 3) := by decide +kernel
theorem dX10_coinsOf_44 : decode cX10_coinsOf 44 = .ok (.iload_n 2, 1) := by decide +kernel
theorem dX10_coinsOf_45 : decode cX10_coinsOf 45 = .ok (.ireturn, 1) := by decide +kernel
theorem dX10_letNow_0 : decode cX10_letNow 0 = .ok (.iconst 0, 1) := by decide +kernel
theorem dX10_letNow_1 : decode cX10_letNow 1 = .ok (.istore_n 1, 1) := by decide +kernel
theorem dX10_letNow_2 : decode cX10_letNow 2 = .ok (.iconst 0, 1) := by decide +kernel
theorem dX10_letNow_3 : decode cX10_letNow 3 = .ok (.istore_n 2, 1) := by decide +kernel
theorem dX10_letNow_4 : decode cX10_letNow 4 = .ok (.iload_n 2, 1) := by decide +kernel
theorem dX10_letNow_5 : decode cX10_letNow 5 = .ok (.aload_n 0, 1) := by decide +kernel
theorem dX10_letNow_6 : decode cX10_letNow 6 = .ok (.getfield 135, 3) := by decide +kernel
theorem dX10_letNow_9 : decode cX10_letNow 9 = .ok (.if_icmp .ge 30, 3) := by decide +kernel
theorem dX10_letNow_12 : decode cX10_letNow 12 = .ok (.iload_n 1, 1) := by decide +kernel
theorem dX10_letNow_13 : decode cX10_letNow 13 = .ok (.aload_n 0, 1) := by decide +kernel
theorem dX10_letNow_14 : decode cX10_letNow 14 = .ok (.getfield 25, 3) := by decide +kernel
theorem dX10_letNow_17 : decode cX10_letNow 17 = .ok (.iload_n 2, 1) := by decide +kernel
theorem dX10_letNow_18 : decode cX10_letNow 18 = .ok (.iaload, 1) := by decide +kernel
theorem dX10_letNow_19 : decode cX10_letNow 19 = .ok (.bipush (-9), 2) := by decide +kernel
theorem dX10_letNow_21 : decode cX10_letNow 21 = .ok (.if_icmp .eq 9, 3) := by decide +kernel
theorem dX10_letNow_24 : decode cX10_letNow 24 = .ok (.iconst 1, 1) := by decide +kernel
theorem dX10_letNow_25 : decode cX10_letNow 25 = .ok (.iload_n 2, 1) := by decide +kernel
theorem dX10_letNow_26 : decode cX10_letNow 26 = .ok (.ishl, 1) := by decide +kernel
theorem dX10_letNow_27 : decode cX10_letNow 27 = .ok (.goto 4, 3) := by decide +kernel
theorem dX10_letNow_30 : decode cX10_letNow 30 = .ok (.iconst 0, 1) := by decide +kernel
theorem dX10_letNow_31 : decode cX10_letNow 31 = .ok (.ior, 1) := by decide +kernel
theorem dX10_letNow_32 : decode cX10_letNow 32 = .ok (.istore_n 1, 1) := by decide +kernel
theorem dX10_letNow_33 : decode cX10_letNow 33 = .ok (.iinc 2 1, 3) := by decide +kernel
theorem dX10_letNow_36 : decode cX10_letNow 36 = .ok (.goto (-32), 3) := by decide +kernel
theorem dX10_letNow_39 : decode cX10_letNow 39 = .ok (.iload_n 1, 1) := by decide +kernel
theorem dX10_letNow_40 : decode cX10_letNow 40 = .ok (.ireturn, 1) := by decide +kernel
theorem dX10_ringing_0 : decode cX10_ringing 0 = .ok (.iconst 0, 1) := by decide +kernel
theorem dX10_ringing_1 : decode cX10_ringing 1 = .ok (.istore_n 2, 1) := by decide +kernel
theorem dX10_ringing_2 : decode cX10_ringing 2 = .ok (.iconst 0, 1) := by decide +kernel
theorem dX10_ringing_3 : decode cX10_ringing 3 = .ok (.istore_n 3, 1) := by decide +kernel
theorem dX10_ringing_4 : decode cX10_ringing 4 = .ok (.iload_n 3, 1) := by decide +kernel
theorem dX10_ringing_5 : decode cX10_ringing 5 = .ok (.aload_n 0, 1) := by decide +kernel
theorem dX10_ringing_6 : decode cX10_ringing 6 = .ok (.getfield 135, 3) := by decide +kernel
theorem dX10_ringing_9 : decode cX10_ringing 9 = .ok (.if_icmp .ge 76, 3) := by decide +kernel
theorem dX10_ringing_12 : decode cX10_ringing 12 = .ok (.aload_n 0, 1) := by decide +kernel
theorem dX10_ringing_13 : decode cX10_ringing 13 = .ok (.getfield 25, 3) := by decide +kernel
theorem dX10_ringing_16 : decode cX10_ringing 16 = .ok (.iload_n 3, 1) := by decide +kernel
theorem dX10_ringing_17 : decode cX10_ringing 17 = .ok (.iaload, 1) := by decide +kernel
theorem dX10_ringing_18 : decode cX10_ringing 18 = .ok (.ifCond .lt 34, 3) := by decide +kernel
theorem dX10_ringing_21 : decode cX10_ringing 21 = .ok (.aload_n 0, 1) := by decide +kernel
theorem dX10_ringing_22 : decode cX10_ringing 22 = .ok (.iload_n 3, 1) := by decide +kernel
theorem dX10_ringing_23 : decode cX10_ringing 23 = .ok (.invokevirtual 141, 3) := by decide +kernel
theorem dX10_ringing_26 : decode cX10_ringing 26 = .ok (.ifCond .ne 26, 3) := by decide +kernel
theorem dX10_ringing_29 : decode cX10_ringing 29 = .ok (.iload_n 1, 1) := by decide +kernel
theorem dX10_ringing_30 : decode cX10_ringing 30 = .ok (.bipush (-9), 2) := by decide +kernel
theorem dX10_ringing_32 : decode cX10_ringing 32 = .ok (.if_icmp .eq 16, 3) := by decide +kernel
theorem dX10_ringing_35 : decode cX10_ringing 35 = .ok (.aload_n 0, 1) := by decide +kernel
theorem dX10_ringing_36 : decode cX10_ringing 36 = .ok (.getfield 16, 3) := by decide +kernel
theorem dX10_ringing_39 : decode cX10_ringing 39 = .ok (.bipush 6, 2) := by decide +kernel
theorem dX10_ringing_41 : decode cX10_ringing 41 = .ok (.iload_n 3, 1) := by decide +kernel
theorem dX10_ringing_42 : decode cX10_ringing 42 = .ok (.imul, 1) := by decide +kernel
theorem dX10_ringing_43 : decode cX10_ringing 43 = .ok (.iaload, 1) := by decide +kernel
theorem dX10_ringing_44 : decode cX10_ringing 44 = .ok (.iload_n 1, 1) := by decide +kernel
theorem dX10_ringing_45 : decode cX10_ringing 45 = .ok (.if_icmp .ne 7, 3) := by decide +kernel
theorem dX10_ringing_48 : decode cX10_ringing 48 = .ok (.iconst 1, 1) := by decide +kernel
theorem dX10_ringing_49 : decode cX10_ringing 49 = .ok (.goto 4, 3) := by decide +kernel
theorem dX10_ringing_52 : decode cX10_ringing 52 = .ok (.iconst 0, 1) := by decide +kernel
theorem dX10_ringing_53 : decode cX10_ringing 53 = .ok (.istore 4, 2) := by decide +kernel
theorem dX10_ringing_55 : decode cX10_ringing 55 = .ok (.iload_n 2, 1) := by decide +kernel
theorem dX10_ringing_56 : decode cX10_ringing 56 = .ok (.iload 4, 2) := by decide +kernel
theorem dX10_ringing_58 : decode cX10_ringing 58 = .ok (.ifCond .eq 18, 3) := by decide +kernel
theorem dX10_ringing_61 : decode cX10_ringing 61 = .ok (.aload_n 0, 1) := by decide +kernel
theorem dX10_ringing_62 : decode cX10_ringing 62 = .ok (.iload_n 3, 1) := by decide +kernel
theorem dX10_ringing_63 : decode cX10_ringing 63 = .ok (.aload_n 0, 1) := by decide +kernel
theorem dX10_ringing_64 : decode cX10_ringing 64 = .ok (.getfield 25, 3) := by decide +kernel
theorem dX10_ringing_67 : decode cX10_ringing 67 = .ok (.iload_n 3, 1) := by decide +kernel
theorem dX10_ringing_68 : decode cX10_ringing 68 = .ok (.iaload, 1) := by decide +kernel
theorem dX10_ringing_69 : decode cX10_ringing 69 = .ok (.iconst 0, 1) := by decide +kernel
theorem dX10_ringing_70 : decode cX10_ringing 70 = .ok (.invokevirtual 152, 3) := by decide +kernel
theorem dX10_ringing_73 : decode cX10_ringing 73 = .ok (.goto 4, 3) := by decide +kernel
theorem dX10_ringing_76 : decode cX10_ringing 76 = .ok (.iconst 0, 1) := by decide +kernel
theorem dX10_ringing_77 : decode cX10_ringing 77 = .ok (.ior, 1) := by decide +kernel
theorem dX10_ringing_78 : decode cX10_ringing 78 = .ok (.istore_n 2, 1) := by decide +kernel
theorem dX10_ringing_79 : decode cX10_ringing 79 = .ok (.iinc 3 1, 3) := by decide +kernel
theorem dX10_ringing_82 : decode cX10_ringing 82 = .ok (.goto (-78), 3) := by decide +kernel
theorem dX10_ringing_85 : decode cX10_ringing 85 = .ok (.iload_n 2, 1) := by decide +kernel
theorem dX10_ringing_86 : decode cX10_ringing 86 = .ok (.ireturn, 1) := by decide +kernel
theorem dX10_bell_0 : decode cX10_bell 0 = .ok (.aload_n 0, 1) := by decide +kernel
theorem dX10_bell_1 : decode cX10_bell 1 = .ok (.iload_n 1, 1) := by decide +kernel
theorem dX10_bell_2 : decode cX10_bell 2 = .ok (.invokevirtual 164, 3) := by decide +kernel
theorem dX10_bell_5 : decode cX10_bell 5 = .ok (.ifCond .ne 5, 3) := by decide +kernel
theorem dX10_bell_8 : decode cX10_bell 8 = .ok (.iconst (-1), 1) := by decide +kernel
theorem dX10_bell_9 : decode cX10_bell 9 = .ok (.ireturn, 1) := by decide +kernel
theorem dX10_bell_10 : decode cX10_bell 10 = .ok (.iload_n 2, 1) := by decide +kernel
theorem dX10_bell_11 : decode cX10_bell 11 = .ok (.tableswitch 45 0 2 #[25, 32, 39], 25) := by decide +kernel
theorem dX10_bell_36 : decode cX10_bell 36 = .ok (.aload_n 0, 1) := by decide +kernel
theorem dX10_bell_37 : decode cX10_bell 37 = .ok (.getfield 7, 3) := by decide +kernel
theorem dX10_bell_40 : decode cX10_bell 40 = .ok (.iload_n 1, 1) := by decide +kernel
theorem dX10_bell_41 : decode cX10_bell 41 = .ok (.iaload, 1) := by decide +kernel
theorem dX10_bell_42 : decode cX10_bell 42 = .ok (.ireturn, 1) := by decide +kernel
theorem dX10_bell_43 : decode cX10_bell 43 = .ok (.aload_n 0, 1) := by decide +kernel
theorem dX10_bell_44 : decode cX10_bell 44 = .ok (.getfield 13, 3) := by decide +kernel
theorem dX10_bell_47 : decode cX10_bell 47 = .ok (.iload_n 1, 1) := by decide +kernel
theorem dX10_bell_48 : decode cX10_bell 48 = .ok (.iaload, 1) := by decide +kernel
theorem dX10_bell_49 : decode cX10_bell 49 = .ok (.ireturn, 1) := by decide +kernel
theorem dX10_bell_50 : decode cX10_bell 50 = .ok (.aload_n 0, 1) := by decide +kernel
theorem dX10_bell_51 : decode cX10_bell 51 = .ok (.iload_n 1, 1) := by decide +kernel
theorem dX10_bell_52 : decode cX10_bell 52 = .ok (.invokevirtual 167, 3) := by decide +kernel
theorem dX10_bell_55 : decode cX10_bell 55 = .ok (.ireturn, 1) := by decide +kernel
theorem dX10_bell_56 : decode cX10_bell 56 = .ok (.bipush (-2), 2) := by decide +kernel
theorem dX10_bell_58 : decode cX10_bell 58 = .ok (.ireturn, 1) := by decide +kernel
theorem dX10_begins_0 : decode cX10_begins 0 = .ok (.iconst 0, 1) := by decide +kernel
theorem dX10_begins_1 : decode cX10_begins 1 = .ok (.istore_n 2, 1) := by decide +kernel
theorem dX10_begins_2 : decode cX10_begins 2 = .ok (.iconst 0, 1) := by decide +kernel
theorem dX10_begins_3 : decode cX10_begins 3 = .ok (.istore_n 3, 1) := by decide +kernel
theorem dX10_begins_4 : decode cX10_begins 4 = .ok (.iload_n 3, 1) := by decide +kernel
theorem dX10_begins_5 : decode cX10_begins 5 = .ok (.bipush 10, 2) := by decide +kernel
theorem dX10_begins_7 : decode cX10_begins 7 = .ok (.if_icmp .ge 28, 3) := by decide +kernel
theorem dX10_begins_10 : decode cX10_begins 10 = .ok (.iload_n 2, 1) := by decide +kernel
theorem dX10_begins_11 : decode cX10_begins 11 = .ok (.aload_n 0, 1) := by decide +kernel
theorem dX10_begins_12 : decode cX10_begins 12 = .ok (.iload_n 1, 1) := by decide +kernel
theorem dX10_begins_13 : decode cX10_begins 13 = .ok (.iload_n 3, 1) := by decide +kernel
theorem dX10_begins_14 : decode cX10_begins 14 = .ok (.invokevirtual 171, 3) := by decide +kernel
theorem dX10_begins_17 : decode cX10_begins 17 = .ok (.ifCond .eq 9, 3) := by decide +kernel
theorem dX10_begins_20 : decode cX10_begins 20 = .ok (.iconst 1, 1) := by decide +kernel
theorem dX10_begins_21 : decode cX10_begins 21 = .ok (.iload_n 3, 1) := by decide +kernel
theorem dX10_begins_22 : decode cX10_begins 22 = .ok (.ishl, 1) := by decide +kernel
theorem dX10_begins_23 : decode cX10_begins 23 = .ok (.goto 4, 3) := by decide +kernel
theorem dX10_begins_26 : decode cX10_begins 26 = .ok (.iconst 0, 1) := by decide +kernel
theorem dX10_begins_27 : decode cX10_begins 27 = .ok (.ior, 1) := by decide +kernel
theorem dX10_begins_28 : decode cX10_begins 28 = .ok (.istore_n 2, 1) := by decide +kernel
theorem dX10_begins_29 : decode cX10_begins 29 = .ok (.iinc 3 1, 3) := by decide +kernel
theorem dX10_begins_32 : decode cX10_begins 32 = .ok (.goto (-28), 3) := by decide +kernel
theorem dX10_begins_35 : decode cX10_begins 35 = .ok (.iload_n 2, 1) := by decide +kernel
theorem dX10_begins_36 : decode cX10_begins 36 = .ok (.ireturn, 1) := by decide +kernel
theorem dX10_bidder_0 : decode cX10_bidder 0 = .ok (.aload_n 0, 1) := by decide +kernel
theorem dX10_bidder_1 : decode cX10_bidder 1 = .ok (.iload_n 1, 1) := by decide +kernel
theorem dX10_bidder_2 : decode cX10_bidder 2 = .ok (.invokevirtual 174, 3) := by decide +kernel
theorem dX10_bidder_5 : decode cX10_bidder 5 = .ok (.ifCond .ne 5, 3) := by decide +kernel
theorem dX10_bidder_8 : decode cX10_bidder 8 = .ok (.iconst (-1), 1) := by decide +kernel
theorem dX10_bidder_9 : decode cX10_bidder 9 = .ok (.ireturn, 1) := by decide +kernel
theorem dX10_bidder_10 : decode cX10_bidder 10 = .ok (.iload_n 2, 1) := by decide +kernel
theorem dX10_bidder_11 : decode cX10_bidder 11 = .ok (.i2l, 1) := by decide +kernel
theorem dX10_bidder_12 : decode cX10_bidder 12 = .ok (.lconst 0, 1) := by decide +kernel
theorem dX10_bidder_13 : decode cX10_bidder 13 = .ok (.ldc2_w 177, 3) := by decide +kernel
theorem dX10_bidder_16 : decode cX10_bidder 16 = .ok (.invokestatic 97, 3) := by decide +kernel
theorem dX10_bidder_19 : decode cX10_bidder 19 = .ok (.ifCond .eq 15, 3) := by decide +kernel
theorem dX10_bidder_22 : decode cX10_bidder 22 = .ok (.aload_n 0, 1) := by decide +kernel
theorem dX10_bidder_23 : decode cX10_bidder 23 = .ok (.getfield 16, 3) := by decide +kernel
theorem dX10_bidder_26 : decode cX10_bidder 26 = .ok (.bipush 6, 2) := by decide +kernel
theorem dX10_bidder_28 : decode cX10_bidder 28 = .ok (.iload_n 1, 1) := by decide +kernel
theorem dX10_bidder_29 : decode cX10_bidder 29 = .ok (.imul, 1) := by decide +kernel
theorem dX10_bidder_30 : decode cX10_bidder 30 = .ok (.iload_n 2, 1) := by decide +kernel
theorem dX10_bidder_31 : decode cX10_bidder 31 = .ok (.iadd, 1) := by decide +kernel
theorem dX10_bidder_32 : decode cX10_bidder 32 = .ok (.iaload, 1) := by decide +kernel
theorem dX10_bidder_33 : decode cX10_bidder 33 = .ok (.ireturn, 1) := by decide +kernel
theorem dX10_bidder_34 : decode cX10_bidder 34 = .ok (.iload_n 2, 1) := by decide +kernel
theorem dX10_bidder_35 : decode cX10_bidder 35 = .ok (.bipush 6, 2) := by decide +kernel
theorem dX10_bidder_37 : decode cX10_bidder 37 = .ok (.if_icmp .ne 12, 3) := by decide +kernel
theorem dX10_bidder_40 : decode cX10_bidder 40 = .ok (.aload_n 0, 1) := by decide +kernel
theorem dX10_bidder_41 : decode cX10_bidder 41 = .ok (.getfield 25, 3) := by decide +kernel
theorem dX10_bidder_44 : decode cX10_bidder 44 = .ok (.iload_n 1, 1) := by decide +kernel
theorem dX10_bidder_45 : decode cX10_bidder 45 = .ok (.iaload, 1) := by decide +kernel
theorem dX10_bidder_46 : decode cX10_bidder 46 = .ok (.goto 19, 3) := by decide +kernel
theorem dX10_bidder_49 : decode cX10_bidder 49 = .ok (.iload_n 2, 1) := by decide +kernel
theorem dX10_bidder_50 : decode cX10_bidder 50 = .ok (.bipush 7, 2) := by decide +kernel
theorem dX10_bidder_52 : decode cX10_bidder 52 = .ok (.if_icmp .ne 11, 3) := by decide +kernel
theorem dX10_bidder_55 : decode cX10_bidder 55 = .ok (.aload_n 0, 1) := by decide +kernel
theorem dX10_bidder_56 : decode cX10_bidder 56 = .ok (.iload_n 1, 1) := by decide +kernel
theorem dX10_bidder_57 : decode cX10_bidder 57 = .ok (.invokevirtual 179, 3) := by decide +kernel
theorem dX10_bidder_60 : decode cX10_bidder 60 = .ok (.goto 5, 3) := by decide +kernel
theorem dX10_bidder_63 : decode cX10_bidder 63 = .ok (.bipush (-2), 2) := by decide +kernel
theorem dX10_bidder_65 : decode cX10_bidder 65 = .ok (.ireturn, 1) := by decide +kernel
theorem dX10_rings_0 : decode cX10_rings 0 = .ok (.iload_n 1, 1) := by decide +kernel
theorem dX10_rings_1 : decode cX10_rings 1 = .ok (.i2l, 1) := by decide +kernel
theorem dX10_rings_2 : decode cX10_rings 2 = .ok (.lconst 0, 1) := by decide +kernel
theorem dX10_rings_3 : decode cX10_rings 3 = .ok (.ldc2_w 182, 3) := by decide +kernel
theorem dX10_rings_6 : decode cX10_rings 6 = .ok (.invokestatic 97, 3) := by decide +kernel
theorem dX10_rings_9 : decode cX10_rings 9 = .ok (.ifCond .ne 6, 3) := by decide +kernel
theorem dX10_rings_12 : decode cX10_rings 12 = .ok (.bipush (-2), 2) := by decide +kernel
theorem dX10_rings_14 : decode cX10_rings 14 = .ok (.ireturn, 1) := by decide +kernel
theorem dX10_rings_15 : decode cX10_rings 15 = .ok (.iconst 0, 1) := by decide +kernel
theorem dX10_rings_16 : decode cX10_rings 16 = .ok (.istore_n 2, 1) := by decide +kernel
theorem dX10_rings_17 : decode cX10_rings 17 = .ok (.iconst 0, 1) := by decide +kernel
theorem dX10_rings_18 : decode cX10_rings 18 = .ok (.istore_n 3, 1) := by decide +kernel
theorem dX10_rings_19 : decode cX10_rings 19 = .ok (.iload_n 3, 1) := by decide +kernel
theorem dX10_rings_20 : decode cX10_rings 20 = .ok (.aload_n 0, 1) := by decide +kernel
theorem dX10_rings_21 : decode cX10_rings 21 = .ok (.getfield 132, 3) := by decide +kernel
theorem dX10_rings_24 : decode cX10_rings 24 = .ok (.if_icmp .ge 31, 3) := by decide +kernel
theorem dX10_rings_27 : decode cX10_rings 27 = .ok (.iload_n 2, 1) := by decide +kernel
theorem dX10_rings_28 : decode cX10_rings 28 = .ok (.aload_n 0, 1) := by decide +kernel
theorem dX10_rings_29 : decode cX10_rings 29 = .ok (.iload_n 3, 1) := by decide +kernel
theorem dX10_rings_30 : decode cX10_rings 30 = .ok (.invokevirtual 167, 3) := by decide +kernel
theorem dX10_rings_33 : decode cX10_rings 33 = .ok (.iload_n 1, 1) := by decide +kernel
theorem dX10_rings_34 : decode cX10_rings 34 = .ok (.invokestatic 160, 3) := by decide +kernel
theorem dX10_rings_37 : decode cX10_rings 37 = .ok (.ifCond .eq 9, 3) := by decide +kernel
theorem dX10_rings_40 : decode cX10_rings 40 = .ok (.iconst 1, 1) := by decide +kernel
theorem dX10_rings_41 : decode cX10_rings 41 = .ok (.iload_n 3, 1) := by decide +kernel
theorem dX10_rings_42 : decode cX10_rings 42 = .ok (.ishl, 1) := by decide +kernel
theorem dX10_rings_43 : decode cX10_rings 43 = .ok (.goto 4, 3) := by decide +kernel
theorem dX10_rings_46 : decode cX10_rings 46 = .ok (.iconst 0, 1) := by decide +kernel
theorem dX10_rings_47 : decode cX10_rings 47 = .ok (.ior, 1) := by decide +kernel
theorem dX10_rings_48 : decode cX10_rings 48 = .ok (.istore_n 2, 1) := by decide +kernel
theorem dX10_rings_49 : decode cX10_rings 49 = .ok (.iinc 3 1, 3) := by decide +kernel
theorem dX10_rings_52 : decode cX10_rings 52 = .ok (.goto (-33), 3) := by decide +kernel
theorem dX10_rings_55 : decode cX10_rings 55 = .ok (.iload_n 2, 1) := by decide +kernel
theorem dX10_rings_56 : decode cX10_rings 56 = .ok (.ireturn, 1) := by decide +kernel
theorem dX10_clashes_0 : decode cX10_clashes 0 = .ok (.aload_n 0, 1) := by decide +kernel
theorem dX10_clashes_1 : decode cX10_clashes 1 = .ok (.iload_n 1, 1) := by decide +kernel
theorem dX10_clashes_2 : decode cX10_clashes 2 = .ok (.invokevirtual 174, 3) := by decide +kernel
theorem dX10_clashes_5 : decode cX10_clashes 5 = .ok (.ifCond .ne 5, 3) := by decide +kernel
theorem dX10_clashes_8 : decode cX10_clashes 8 = .ok (.iconst (-1), 1) := by decide +kernel
theorem dX10_clashes_9 : decode cX10_clashes 9 = .ok (.ireturn, 1) := by decide +kernel
theorem dX10_clashes_10 : decode cX10_clashes 10 = .ok (.iload_n 2, 1) := by decide +kernel
theorem dX10_clashes_11 : decode cX10_clashes 11 = .ok (.i2l, 1) := by decide +kernel
theorem dX10_clashes_12 : decode cX10_clashes 12 = .ok (.lconst 0, 1) := by decide +kernel
theorem dX10_clashes_13 : decode cX10_clashes 13 = .ok (.ldc2_w 182, 3) := by decide +kernel
theorem dX10_clashes_16 : decode cX10_clashes 16 = .ok (.invokestatic 97, 3) := by decide +kernel
theorem dX10_clashes_19 : decode cX10_clashes 19 = .ok (.ifCond .ne 6, 3) := by decide +kernel
theorem dX10_clashes_22 : decode cX10_clashes 22 = .ok (.bipush (-2), 2) := by decide +kernel
theorem dX10_clashes_24 : decode cX10_clashes 24 = .ok (.ireturn, 1) := by decide +kernel
theorem dX10_clashes_25 : decode cX10_clashes 25 = .ok (.aload_n 0, 1) := by decide +kernel
theorem dX10_clashes_26 : decode cX10_clashes 26 = .ok (.iload_n 1, 1) := by decide +kernel
theorem dX10_clashes_27 : decode cX10_clashes 27 = .ok (.iload_n 2, 1) := by decide +kernel
theorem dX10_clashes_28 : decode cX10_clashes 28 = .ok (.invokevirtual 171, 3) := by decide +kernel
theorem dX10_clashes_31 : decode cX10_clashes 31 = .ok (.ifCond .eq 12, 3) := by decide +kernel
theorem dX10_clashes_34 : decode cX10_clashes 34 = .ok (.aload_n 0, 1) := by decide +kernel
theorem dX10_clashes_35 : decode cX10_clashes 35 = .ok (.iload_n 1, 1) := by decide +kernel
theorem dX10_clashes_36 : decode cX10_clashes 36 = .ok (.iload_n 2, 1) := by decide +kernel
theorem dX10_clashes_37 : decode cX10_clashes 37 = .ok (.invokevirtual 184, 3) := by decide +kernel
theorem dX10_clashes_40 : decode cX10_clashes 40 = .ok (.goto 5, 3) := by decide +kernel
theorem dX10_clashes_43 : decode cX10_clashes 43 = .ok (.bipush (-3), 2) := by decide +kernel
theorem dX10_clashes_45 : decode cX10_clashes 45 = .ok (.ireturn, 1) := by decide +kernel
theorem dX10_keepAct_0 : decode cX10_keepAct 0 = .ok (.iconst 0, 1) := by decide +kernel
theorem dX10_keepAct_1 : decode cX10_keepAct 1 = .ok (.istore_n 1, 1) := by decide +kernel
theorem dX10_keepAct_2 : decode cX10_keepAct 2 = .ok (.iload_n 1, 1) := by decide +kernel
theorem dX10_keepAct_3 : decode cX10_keepAct 3 = .ok (.iconst 5, 1) := by decide +kernel
theorem dX10_keepAct_4 : decode cX10_keepAct 4 = .ok (.if_icmp .ge 28, 3) := by decide +kernel
theorem dX10_keepAct_7 : decode cX10_keepAct 7 = .ok (.aload_n 0, 1) := by decide +kernel
theorem dX10_keepAct_8 : decode cX10_keepAct 8 = .ok (.getfield 31, 3) := by decide +kernel
theorem dX10_keepAct_11 : decode cX10_keepAct 11 = .ok (.iconst 5, 1) := by decide +kernel
theorem dX10_keepAct_12 : decode cX10_keepAct 12 = .ok (.aload_n 0, 1) := by decide +kernel
theorem dX10_keepAct_13 : decode cX10_keepAct 13 = .ok (.getfield 187, 3) := by decide +kernel
theorem dX10_keepAct_16 : decode cX10_keepAct 16 = .ok (.imul, 1) := by decide +kernel
theorem dX10_keepAct_17 : decode cX10_keepAct 17 = .ok (.iload_n 1, 1) := by decide +kernel
theorem dX10_keepAct_18 : decode cX10_keepAct 18 = .ok (.iadd, 1) := by decide +kernel
theorem dX10_keepAct_19 : decode cX10_keepAct 19 = .ok (.aload_n 0, 1) := by decide +kernel
theorem dX10_keepAct_20 : decode cX10_keepAct 20 = .ok (.getfield 25, 3) := by decide +kernel
theorem dX10_keepAct_23 : decode cX10_keepAct 23 = .ok (.iload_n 1, 1) := by decide +kernel
theorem dX10_keepAct_24 : decode cX10_keepAct 24 = .ok (.iaload, 1) := by decide +kernel
theorem dX10_keepAct_25 : decode cX10_keepAct 25 = .ok (.iastore, 1) := by decide +kernel
theorem dX10_keepAct_26 : decode cX10_keepAct 26 = .ok (.iinc 1 1, 3) := by decide +kernel
theorem dX10_keepAct_29 : decode cX10_keepAct 29 = .ok (.goto (-27), 3) := by decide +kernel
theorem dX10_keepAct_32 : decode cX10_keepAct 32 = .ok (.aload_n 0, 1) := by decide +kernel
theorem dX10_keepAct_33 : decode cX10_keepAct 33 = .ok (.aload_n 0, 1) := by decide +kernel
theorem dX10_keepAct_34 : decode cX10_keepAct 34 = .ok (.getfield 187, 3) := by decide +kernel
theorem dX10_keepAct_37 : decode cX10_keepAct 37 = .ok (.iconst 1, 1) := by decide +kernel
theorem dX10_keepAct_38 : decode cX10_keepAct 38 = .ok (.iadd, 1) := by decide +kernel
theorem dX10_keepAct_39 : decode cX10_keepAct 39 = .ok (.bipush 16, 2) := by decide +kernel
theorem dX10_keepAct_41 : decode cX10_keepAct 41 = .ok (.irem, 1) := by decide +kernel
theorem dX10_keepAct_42 : decode cX10_keepAct 42 = .ok (.putfield 187, 3) := by decide +kernel
theorem dX10_keepAct_45 : decode cX10_keepAct 45 = .ok (.aload_n 0, 1) := by decide +kernel
theorem dX10_keepAct_46 : decode cX10_keepAct 46 = .ok (.aload_n 0, 1) := by decide +kernel
theorem dX10_keepAct_47 : decode cX10_keepAct 47 = .ok (.getfield 138, 3) := by decide +kernel
theorem dX10_keepAct_50 : decode cX10_keepAct 50 = .ok (.bipush 16, 2) := by decide +kernel
theorem dX10_keepAct_52 : decode cX10_keepAct 52 = .ok (.if_icmp .ge 12, 3) := by decide +kernel
theorem dX10_keepAct_55 : decode cX10_keepAct 55 = .ok (.aload_n 0, 1) := by decide +kernel
theorem dX10_keepAct_56 : decode cX10_keepAct 56 = .ok (.getfield 138, 3) := by decide +kernel
theorem dX10_keepAct_59 : decode cX10_keepAct 59 = .ok (.iconst 1, 1) := by decide +kernel
theorem dX10_keepAct_60 : decode cX10_keepAct 60 = .ok (.iadd, 1) := by decide +kernel
theorem dX10_keepAct_61 : decode cX10_keepAct 61 = .ok (.goto 5, 3) := by decide +kernel
theorem dX10_keepAct_64 : decode cX10_keepAct 64 = .ok (.bipush 16, 2) := by decide +kernel
theorem dX10_keepAct_66 : decode cX10_keepAct 66 = .ok (.putfield 138, 3) := by decide +kernel
theorem dX10_keepAct_69 : decode cX10_keepAct 69 = .ok (.return_, 1) := by decide +kernel
theorem dX10_canBe_0 : decode cX10_canBe 0 = .ok (.aload_n 0, 1) := by decide +kernel
theorem dX10_canBe_1 : decode cX10_canBe 1 = .ok (.iload_n 1, 1) := by decide +kernel
theorem dX10_canBe_2 : decode cX10_canBe 2 = .ok (.iload_n 2, 1) := by decide +kernel
theorem dX10_canBe_3 : decode cX10_canBe 3 = .ok (.invokevirtual 171, 3) := by decide +kernel
theorem dX10_canBe_6 : decode cX10_canBe 6 = .ok (.ifCond .eq 16, 3) := by decide +kernel
theorem dX10_canBe_9 : decode cX10_canBe 9 = .ok (.aload_n 0, 1) := by decide +kernel
theorem dX10_canBe_10 : decode cX10_canBe 10 = .ok (.iload_n 1, 1) := by decide +kernel
theorem dX10_canBe_11 : decode cX10_canBe 11 = .ok (.iload_n 2, 1) := by decide +kernel
theorem dX10_canBe_12 : decode cX10_canBe 12 = .ok (.invokevirtual 184, 3) := by decide +kernel
theorem dX10_canBe_15 : decode cX10_canBe 15 = .ok (.ifCond .ne 7, 3) := by decide +kernel
theorem dX10_canBe_18 : decode cX10_canBe 18 = .ok (.iconst 1, 1) := by decide +kernel
theorem dX10_canBe_19 : decode cX10_canBe 19 = .ok (.goto 4, 3) := by decide +kernel
theorem dX10_canBe_22 : decode cX10_canBe 22 = .ok (.iconst 0, 1) := by decide +kernel
theorem dX10_canBe_23 : decode cX10_canBe 23 = .ok (.ireturn, 1) := by decide +kernel
theorem dX10_let_0 : decode cX10_let 0 = .ok (.aload_n 0, 1) := by decide +kernel
theorem dX10_let_1 : decode cX10_let 1 = .ok (.iload_n 1, 1) := by decide +kernel
theorem dX10_let_2 : decode cX10_let 2 = .ok (.invokevirtual 174, 3) := by decide +kernel
theorem dX10_let_5 : decode cX10_let 5 = .ok (.ifCond .ne 5, 3) := by decide +kernel
theorem dX10_let_8 : decode cX10_let 8 = .ok (.iconst (-1), 1) := by decide +kernel
theorem dX10_let_9 : decode cX10_let 9 = .ok (.ireturn, 1) := by decide +kernel
theorem dX10_let_10 : decode cX10_let 10 = .ok (.iload_n 2, 1) := by decide +kernel
theorem dX10_let_11 : decode cX10_let 11 = .ok (.i2l, 1) := by decide +kernel
theorem dX10_let_12 : decode cX10_let 12 = .ok (.lconst 0, 1) := by decide +kernel
theorem dX10_let_13 : decode cX10_let 13 = .ok (.ldc2_w 182, 3) := by decide +kernel
theorem dX10_let_16 : decode cX10_let 16 = .ok (.invokestatic 97, 3) := by decide +kernel
theorem dX10_let_19 : decode cX10_let 19 = .ok (.ifCond .ne 6, 3) := by decide +kernel
theorem dX10_let_22 : decode cX10_let 22 = .ok (.bipush (-2), 2) := by decide +kernel
theorem dX10_let_24 : decode cX10_let 24 = .ok (.ireturn, 1) := by decide +kernel
theorem dX10_let_25 : decode cX10_let 25 = .ok (.aload_n 0, 1) := by decide +kernel
theorem dX10_let_26 : decode cX10_let 26 = .ok (.getfield 25, 3) := by decide +kernel
theorem dX10_let_29 : decode cX10_let 29 = .ok (.iload_n 1, 1) := by decide +kernel
theorem dX10_let_30 : decode cX10_let 30 = .ok (.iaload, 1) := by decide +kernel
theorem dX10_let_31 : decode cX10_let 31 = .ok (.bipush (-9), 2) := by decide +kernel
theorem dX10_let_33 : decode cX10_let 33 = .ok (.if_icmp .ne 12, 3) := by decide +kernel
theorem dX10_let_36 : decode cX10_let 36 = .ok (.aload_n 0, 1) := by decide +kernel
theorem dX10_let_37 : decode cX10_let 37 = .ok (.iload_n 1, 1) := by decide +kernel
theorem dX10_let_38 : decode cX10_let 38 = .ok (.iload_n 2, 1) := by decide +kernel
theorem dX10_let_39 : decode cX10_let 39 = .ok (.invokevirtual 190, 3) := by decide +kernel
theorem dX10_let_42 : decode cX10_let 42 = .ok (.ifCond .ne 6, 3) := by decide +kernel
theorem dX10_let_45 : decode cX10_let 45 = .ok (.bipush (-3), 2) := by decide +kernel
theorem dX10_let_47 : decode cX10_let 47 = .ok (.ireturn, 1) := by decide +kernel
theorem dX10_let_48 : decode cX10_let 48 = .ok (.aload_n 0, 1) := by decide +kernel
theorem dX10_let_49 : decode cX10_let 49 = .ok (.invokevirtual 193, 3) := by decide +kernel
theorem dX10_let_52 : decode cX10_let 52 = .ok (.aload_n 0, 1) := by decide +kernel
theorem dX10_let_53 : decode cX10_let 53 = .ok (.getfield 25, 3) := by decide +kernel
theorem dX10_let_56 : decode cX10_let 56 = .ok (.iload_n 1, 1) := by decide +kernel
theorem dX10_let_57 : decode cX10_let 57 = .ok (.iload_n 2, 1) := by decide +kernel
theorem dX10_let_58 : decode cX10_let 58 = .ok (.iastore, 1) := by decide +kernel
theorem dX10_let_59 : decode cX10_let 59 = .ok (.aload_n 0, 1) := by decide +kernel
theorem dX10_let_60 : decode cX10_let 60 = .ok (.aload_n 0, 1) := by decide +kernel
theorem dX10_let_61 : decode cX10_let 61 = .ok (.invokevirtual 196, 3) := by decide +kernel
theorem dX10_let_64 : decode cX10_let 64 = .ok (.invokevirtual 199, 3) := by decide +kernel
theorem dX10_let_67 : decode cX10_let 67 = .ok (.ireturn, 1) := by decide +kernel
theorem dX10_revoke_0 : decode cX10_revoke 0 = .ok (.aload_n 0, 1) := by decide +kernel
theorem dX10_revoke_1 : decode cX10_revoke 1 = .ok (.iload_n 1, 1) := by decide +kernel
theorem dX10_revoke_2 : decode cX10_revoke 2 = .ok (.invokevirtual 174, 3) := by decide +kernel
theorem dX10_revoke_5 : decode cX10_revoke 5 = .ok (.ifCond .ne 5, 3) := by decide +kernel
theorem dX10_revoke_8 : decode cX10_revoke 8 = .ok (.iconst (-1), 1) := by decide +kernel
theorem dX10_revoke_9 : decode cX10_revoke 9 = .ok (.ireturn, 1) := by decide +kernel
theorem dX10_revoke_10 : decode cX10_revoke 10 = .ok (.aload_n 0, 1) := by decide +kernel
theorem dX10_revoke_11 : decode cX10_revoke 11 = .ok (.getfield 25, 3) := by decide +kernel
theorem dX10_revoke_14 : decode cX10_revoke 14 = .ok (.iload_n 1, 1) := by decide +kernel
theorem dX10_revoke_15 : decode cX10_revoke 15 = .ok (.iaload, 1) := by decide +kernel
theorem dX10_revoke_16 : decode cX10_revoke 16 = .ok (.bipush (-9), 2) := by decide +kernel
theorem dX10_revoke_18 : decode cX10_revoke 18 = .ok (.if_icmp .ne 6, 3) := by decide +kernel
theorem dX10_revoke_21 : decode cX10_revoke 21 = .ok (.bipush (-3), 2) := by decide +kernel
theorem dX10_revoke_23 : decode cX10_revoke 23 = .ok (.ireturn, 1) := by decide +kernel
theorem dX10_revoke_24 : decode cX10_revoke 24 = .ok (.aload_n 0, 1) := by decide +kernel
theorem dX10_revoke_25 : decode cX10_revoke 25 = .ok (.invokevirtual 193, 3) := by decide +kernel
theorem dX10_revoke_28 : decode cX10_revoke 28 = .ok (.aload_n 0, 1) := by decide +kernel
theorem dX10_revoke_29 : decode cX10_revoke 29 = .ok (.getfield 25, 3) := by decide +kernel
theorem dX10_revoke_32 : decode cX10_revoke 32 = .ok (.iload_n 1, 1) := by decide +kernel
theorem dX10_revoke_33 : decode cX10_revoke 33 = .ok (.bipush (-9), 2) := by decide +kernel
theorem dX10_revoke_35 : decode cX10_revoke 35 = .ok (.iastore, 1) := by decide +kernel
theorem dX10_revoke_36 : decode cX10_revoke 36 = .ok (.aload_n 0, 1) := by decide +kernel
theorem dX10_revoke_37 : decode cX10_revoke 37 = .ok (.aload_n 0, 1) := by decide +kernel
theorem dX10_revoke_38 : decode cX10_revoke 38 = .ok (.invokevirtual 196, 3) := by decide +kernel
theorem dX10_revoke_41 : decode cX10_revoke 41 = .ok (.invokevirtual 199, 3) := by decide +kernel
theorem dX10_revoke_44 : decode cX10_revoke 44 = .ok (.ireturn, 1) := by decide +kernel
theorem dX10_move_0 : decode cX10_move 0 = .ok (.aload_n 0, 1) := by decide +kernel
theorem dX10_move_1 : decode cX10_move 1 = .ok (.iload_n 1, 1) := by decide +kernel
theorem dX10_move_2 : decode cX10_move 2 = .ok (.invokevirtual 174, 3) := by decide +kernel
theorem dX10_move_5 : decode cX10_move 5 = .ok (.ifCond .ne 5, 3) := by decide +kernel
theorem dX10_move_8 : decode cX10_move 8 = .ok (.iconst (-1), 1) := by decide +kernel
theorem dX10_move_9 : decode cX10_move 9 = .ok (.ireturn, 1) := by decide +kernel
theorem dX10_move_10 : decode cX10_move 10 = .ok (.iload_n 2, 1) := by decide +kernel
theorem dX10_move_11 : decode cX10_move 11 = .ok (.i2l, 1) := by decide +kernel
theorem dX10_move_12 : decode cX10_move 12 = .ok (.lconst 0, 1) := by decide +kernel
theorem dX10_move_13 : decode cX10_move 13 = .ok (.ldc2_w 182, 3) := by decide +kernel
theorem dX10_move_16 : decode cX10_move 16 = .ok (.invokestatic 97, 3) := by decide +kernel
theorem dX10_move_19 : decode cX10_move 19 = .ok (.ifCond .ne 6, 3) := by decide +kernel
theorem dX10_move_22 : decode cX10_move 22 = .ok (.bipush (-2), 2) := by decide +kernel
theorem dX10_move_24 : decode cX10_move 24 = .ok (.ireturn, 1) := by decide +kernel
theorem dX10_move_25 : decode cX10_move 25 = .ok (.aload_n 0, 1) := by decide +kernel
theorem dX10_move_26 : decode cX10_move 26 = .ok (.getfield 25, 3) := by decide +kernel
theorem dX10_move_29 : decode cX10_move 29 = .ok (.iload_n 1, 1) := by decide +kernel
theorem dX10_move_30 : decode cX10_move 30 = .ok (.iaload, 1) := by decide +kernel
theorem dX10_move_31 : decode cX10_move 31 = .ok (.bipush (-9), 2) := by decide +kernel
theorem dX10_move_33 : decode cX10_move 33 = .ok (.if_icmp .eq 22, 3) := by decide +kernel
theorem dX10_move_36 : decode cX10_move 36 = .ok (.aload_n 0, 1) := by decide +kernel
theorem dX10_move_37 : decode cX10_move 37 = .ok (.getfield 25, 3) := by decide +kernel
theorem dX10_move_40 : decode cX10_move 40 = .ok (.iload_n 1, 1) := by decide +kernel
theorem dX10_move_41 : decode cX10_move 41 = .ok (.iaload, 1) := by decide +kernel
theorem dX10_move_42 : decode cX10_move 42 = .ok (.iload_n 2, 1) := by decide +kernel
theorem dX10_move_43 : decode cX10_move 43 = .ok (.if_icmp .eq 12, 3) := by decide +kernel
theorem dX10_move_46 : decode cX10_move 46 = .ok (.aload_n 0, 1) := by decide +kernel
theorem dX10_move_47 : decode cX10_move 47 = .ok (.iload_n 1, 1) := by decide +kernel
theorem dX10_move_48 : decode cX10_move 48 = .ok (.iload_n 2, 1) := by decide +kernel
theorem dX10_move_49 : decode cX10_move 49 = .ok (.invokevirtual 190, 3) := by decide +kernel
theorem dX10_move_52 : decode cX10_move 52 = .ok (.ifCond .ne 6, 3) := by decide +kernel
theorem dX10_move_55 : decode cX10_move 55 = .ok (.bipush (-3), 2) := by decide +kernel
theorem dX10_move_57 : decode cX10_move 57 = .ok (.ireturn, 1) := by decide +kernel
theorem dX10_move_58 : decode cX10_move 58 = .ok (.aload_n 0, 1) := by decide +kernel
theorem dX10_move_59 : decode cX10_move 59 = .ok (.invokevirtual 193, 3) := by decide +kernel
theorem dX10_move_62 : decode cX10_move 62 = .ok (.aload_n 0, 1) := by decide +kernel
theorem dX10_move_63 : decode cX10_move 63 = .ok (.getfield 25, 3) := by decide +kernel
theorem dX10_move_66 : decode cX10_move 66 = .ok (.iload_n 1, 1) := by decide +kernel
theorem dX10_move_67 : decode cX10_move 67 = .ok (.iaload, 1) := by decide +kernel
theorem dX10_move_68 : decode cX10_move 68 = .ok (.istore_n 3, 1) := by decide +kernel
theorem dX10_move_69 : decode cX10_move 69 = .ok (.aload_n 0, 1) := by decide +kernel
theorem dX10_move_70 : decode cX10_move 70 = .ok (.getfield 25, 3) := by decide +kernel
theorem dX10_move_73 : decode cX10_move 73 = .ok (.iload_n 1, 1) := by decide +kernel
theorem dX10_move_74 : decode cX10_move 74 = .ok (.iload_n 2, 1) := by decide +kernel
theorem dX10_move_75 : decode cX10_move 75 = .ok (.iastore, 1) := by decide +kernel
theorem dX10_move_76 : decode cX10_move 76 = .ok (.iload_n 3, 1) := by decide +kernel
theorem dX10_move_77 : decode cX10_move 77 = .ok (.ireturn, 1) := by decide +kernel
theorem dX10_undo_0 : decode cX10_undo 0 = .ok (.aload_n 0, 1) := by decide +kernel
theorem dX10_undo_1 : decode cX10_undo 1 = .ok (.getfield 138, 3) := by decide +kernel
theorem dX10_undo_4 : decode cX10_undo 4 = .ok (.ifCond .ne 6, 3) := by decide +kernel
theorem dX10_undo_7 : decode cX10_undo 7 = .ok (.bipush (-3), 2) := by decide +kernel
theorem dX10_undo_9 : decode cX10_undo 9 = .ok (.ireturn, 1) := by decide +kernel
theorem dX10_undo_10 : decode cX10_undo 10 = .ok (.aload_n 0, 1) := by decide +kernel
theorem dX10_undo_11 : decode cX10_undo 11 = .ok (.dup, 1) := by decide +kernel
theorem dX10_undo_12 : decode cX10_undo 12 = .ok (.getfield 138, 3) := by decide +kernel
theorem dX10_undo_15 : decode cX10_undo 15 = .ok (.iconst 1, 1) := by decide +kernel
theorem dX10_undo_16 : decode cX10_undo 16 = .ok (.isub, 1) := by decide +kernel
theorem dX10_undo_17 : decode cX10_undo 17 = .ok (.putfield 138, 3) := by decide +kernel
theorem dX10_undo_20 : decode cX10_undo 20 = .ok (.aload_n 0, 1) := by decide +kernel
theorem dX10_undo_21 : decode cX10_undo 21 = .ok (.aload_n 0, 1) := by decide +kernel
theorem dX10_undo_22 : decode cX10_undo 22 = .ok (.getfield 187, 3) := by decide +kernel
theorem dX10_undo_25 : decode cX10_undo 25 = .ok (.bipush 15, 2) := by decide +kernel
theorem dX10_undo_27 : decode cX10_undo 27 = .ok (.iadd, 1) := by decide +kernel
theorem dX10_undo_28 : decode cX10_undo 28 = .ok (.bipush 16, 2) := by decide +kernel
theorem dX10_undo_30 : decode cX10_undo 30 = .ok (.irem, 1) := by decide +kernel
theorem dX10_undo_31 : decode cX10_undo 31 = .ok (.putfield 187, 3) := by decide +kernel
theorem dX10_undo_34 : decode cX10_undo 34 = .ok (.iconst 0, 1) := by decide +kernel
theorem dX10_undo_35 : decode cX10_undo 35 = .ok (.istore_n 1, 1) := by decide +kernel
theorem dX10_undo_36 : decode cX10_undo 36 = .ok (.iload_n 1, 1) := by decide +kernel
theorem dX10_undo_37 : decode cX10_undo 37 = .ok (.iconst 5, 1) := by decide +kernel
theorem dX10_undo_38 : decode cX10_undo 38 = .ok (.if_icmp .ge 28, 3) := by decide +kernel
theorem dX10_undo_41 : decode cX10_undo 41 = .ok (.aload_n 0, 1) := by decide +kernel
theorem dX10_undo_42 : decode cX10_undo 42 = .ok (.getfield 25, 3) := by decide +kernel
theorem dX10_undo_45 : decode cX10_undo 45 = .ok (.iload_n 1, 1) := by decide +kernel
theorem dX10_undo_46 : decode cX10_undo 46 = .ok (.aload_n 0, 1) := by decide +kernel
theorem dX10_undo_47 : decode cX10_undo 47 = .ok (.getfield 31, 3) := by decide +kernel
theorem dX10_undo_50 : decode cX10_undo 50 = .ok (.iconst 5, 1) := by decide +kernel
theorem dX10_undo_51 : decode cX10_undo 51 = .ok (.aload_n 0, 1) := by decide +kernel
theorem dX10_undo_52 : decode cX10_undo 52 = .ok (.getfield 187, 3) := by decide +kernel
theorem dX10_undo_55 : decode cX10_undo 55 = .ok (.imul, 1) := by decide +kernel
theorem dX10_undo_56 : decode cX10_undo 56 = .ok (.iload_n 1, 1) := by decide +kernel
theorem dX10_undo_57 : decode cX10_undo 57 = .ok (.iadd, 1) := by decide +kernel
theorem dX10_undo_58 : decode cX10_undo 58 = .ok (.iaload, 1) := by decide +kernel
theorem dX10_undo_59 : decode cX10_undo 59 = .ok (.iastore, 1) := by decide +kernel
theorem dX10_undo_60 : decode cX10_undo 60 = .ok (.iinc 1 1, 3) := by decide +kernel
theorem dX10_undo_63 : decode cX10_undo 63 = .ok (.goto (-27), 3) := by decide +kernel
theorem dX10_undo_66 : decode cX10_undo 66 = .ok (.aload_n 0, 1) := by decide +kernel
theorem dX10_undo_67 : decode cX10_undo 67 = .ok (.getfield 138, 3) := by decide +kernel
theorem dX10_undo_70 : decode cX10_undo 70 = .ok (.ireturn, 1) := by decide +kernel
theorem dX10_mayHave_0 : decode cX10_mayHave 0 = .ok (.iload_n 2, 1) := by decide +kernel
theorem dX10_mayHave_1 : decode cX10_mayHave 1 = .ok (.ifCond .eq 33, 3) := by decide +kernel
theorem dX10_mayHave_4 : decode cX10_mayHave 4 = .ok (.aload_n 0, 1) := by decide +kernel
theorem dX10_mayHave_5 : decode cX10_mayHave 5 = .ok (.getfield 25, 3) := by decide +kernel
theorem dX10_mayHave_8 : decode cX10_mayHave 8 = .ok (.iload_n 1, 1) := by decide +kernel
theorem dX10_mayHave_9 : decode cX10_mayHave 9 = .ok (.iaload, 1) := by decide +kernel
theorem dX10_mayHave_10 : decode cX10_mayHave 10 = .ok (.bipush (-9), 2) := by decide +kernel
theorem dX10_mayHave_12 : decode cX10_mayHave 12 = .ok (.if_icmp .eq 22, 3) := by decide +kernel
theorem dX10_mayHave_15 : decode cX10_mayHave 15 = .ok (.aload_n 0, 1) := by decide +kernel
theorem dX10_mayHave_16 : decode cX10_mayHave 16 = .ok (.getfield 34, 3) := by decide +kernel
theorem dX10_mayHave_19 : decode cX10_mayHave 19 = .ok (.iload_n 1, 1) := by decide +kernel
theorem dX10_mayHave_20 : decode cX10_mayHave 20 = .ok (.iaload, 1) := by decide +kernel
theorem dX10_mayHave_21 : decode cX10_mayHave 21 = .ok (.aload_n 0, 1) := by decide +kernel
theorem dX10_mayHave_22 : decode cX10_mayHave 22 = .ok (.getfield 25, 3) := by decide +kernel
theorem dX10_mayHave_25 : decode cX10_mayHave 25 = .ok (.iload_n 1, 1) := by decide +kernel
theorem dX10_mayHave_26 : decode cX10_mayHave 26 = .ok (.iaload, 1) := by decide +kernel
theorem dX10_mayHave_27 : decode cX10_mayHave 27 = .ok (.iconst 1, 1) := by decide +kernel
theorem dX10_mayHave_28 : decode cX10_mayHave 28 = .ok (.iadd, 1) := by decide +kernel
theorem dX10_mayHave_29 : decode cX10_mayHave 29 = .ok (.if_icmp .eq 5, 3) := by decide +kernel
theorem dX10_mayHave_32 : decode cX10_mayHave 32 = .ok (.iconst 0, 1) := by decide +kernel
theorem dX10_mayHave_33 : decode cX10_mayHave 33 = .ok (.ireturn, 1) := by decide +kernel
theorem dX10_mayHave_34 : decode cX10_mayHave 34 = .ok (.aload_n 0, 1) := by decide +kernel
theorem dX10_mayHave_35 : decode cX10_mayHave 35 = .ok (.getfield 34, 3) := by decide +kernel
theorem dX10_mayHave_38 : decode cX10_mayHave 38 = .ok (.iload_n 1, 1) := by decide +kernel
theorem dX10_mayHave_39 : decode cX10_mayHave 39 = .ok (.iaload, 1) := by decide +kernel
theorem dX10_mayHave_40 : decode cX10_mayHave 40 = .ok (.ifCond .ne 5, 3) := by decide +kernel
theorem dX10_mayHave_43 : decode cX10_mayHave 43 = .ok (.iconst 1, 1) := by decide +kernel
theorem dX10_mayHave_44 : decode cX10_mayHave 44 = .ok (.ireturn, 1) := by decide +kernel
theorem dX10_mayHave_45 : decode cX10_mayHave 45 = .ok (.bipush 10, 2) := by decide +kernel
theorem dX10_mayHave_47 : decode cX10_mayHave 47 = .ok (.iload_n 1, 1) := by decide +kernel
theorem dX10_mayHave_48 : decode cX10_mayHave 48 = .ok (.imul, 1) := by decide +kernel
theorem dX10_mayHave_49 : decode cX10_mayHave 49 = .ok (.aload_n 0, 1) := by decide +kernel
theorem dX10_mayHave_50 : decode cX10_mayHave 50 = .ok (.getfield 34, 3) := by decide +kernel
theorem dX10_mayHave_53 : decode cX10_mayHave 53 = .ok (.iload_n 1, 1) := by decide +kernel
theorem dX10_mayHave_54 : decode cX10_mayHave 54 = .ok (.iaload, 1) := by decide +kernel
theorem dX10_mayHave_55 : decode cX10_mayHave 55 = .ok (.iadd, 1) := by decide +kernel
theorem dX10_mayHave_56 : decode cX10_mayHave 56 = .ok (.iconst 1, 1) := by decide +kernel
theorem dX10_mayHave_57 : decode cX10_mayHave 57 = .ok (.isub, 1) := by decide +kernel
theorem dX10_mayHave_58 : decode cX10_mayHave 58 = .ok (.istore_n 3, 1) := by decide +kernel
theorem dX10_mayHave_59 : decode cX10_mayHave 59 = .ok (.aload_n 0, 1) := by decide +kernel
theorem dX10_mayHave_60 : decode cX10_mayHave 60 = .ok (.getfield 47, 3) := by decide +kernel
theorem dX10_mayHave_63 : decode cX10_mayHave 63 = .ok (.iload_n 3, 1) := by decide +kernel
theorem dX10_mayHave_64 : decode cX10_mayHave 64 = .ok (.baload, 1) := by decide +kernel
theorem dX10_mayHave_65 : decode cX10_mayHave 65 = .ok (.istore 4, 2) := by decide +kernel
theorem dX10_mayHave_67 : decode cX10_mayHave 67 = .ok (.iconst 0, 1) := by decide +kernel
theorem dX10_mayHave_68 : decode cX10_mayHave 68 = .ok (.istore 5, 2) := by decide +kernel
theorem dX10_mayHave_70 : decode cX10_mayHave 70 = .ok (.iload 5, 2) := by decide +kernel
theorem dX10_mayHave_72 : decode cX10_mayHave 72 = .ok (.iload_n 1, 1) := by decide +kernel
theorem dX10_mayHave_73 : decode cX10_mayHave 73 = .ok (.if_icmp .ge 57, 3) := by decide +kernel
theorem dX10_mayHave_76 : decode cX10_mayHave 76 = .ok (.iload 4, 2) := by decide +kernel
theorem dX10_mayHave_78 : decode cX10_mayHave 78 = .ok (.ifCond .eq 52, 3) := by decide +kernel
theorem dX10_mayHave_81 : decode cX10_mayHave 81 = .ok (.aload_n 0, 1) := by decide +kernel
theorem dX10_mayHave_82 : decode cX10_mayHave 82 = .ok (.getfield 34, 3) := by decide +kernel
theorem dX10_mayHave_85 : decode cX10_mayHave 85 = .ok (.iload 5, 2) := by decide +kernel
theorem dX10_mayHave_87 : decode cX10_mayHave 87 = .ok (.iaload, 1) := by decide +kernel
theorem dX10_mayHave_88 : decode cX10_mayHave 88 = .ok (.ifCond .eq 29, 3) := by decide +kernel
theorem dX10_mayHave_91 : decode cX10_mayHave 91 = .ok (.aload_n 0, 1) := by decide +kernel
theorem dX10_mayHave_92 : decode cX10_mayHave 92 = .ok (.iload_n 1, 1) := by decide +kernel
theorem dX10_mayHave_93 : decode cX10_mayHave 93 = .ok (.iload_n 3, 1) := by decide +kernel
theorem dX10_mayHave_94 : decode cX10_mayHave 94 = .ok (.iload 5, 2) := by decide +kernel
theorem dX10_mayHave_96 : decode cX10_mayHave 96 = .ok (.bipush 10, 2) := by decide +kernel
theorem dX10_mayHave_98 : decode cX10_mayHave 98 = .ok (.iload 5, 2) := by decide +kernel
theorem dX10_mayHave_100 : decode cX10_mayHave 100 = .ok (.imul, 1) := by decide +kernel
theorem dX10_mayHave_101 : decode cX10_mayHave 101 = .ok (.aload_n 0, 1) := by decide +kernel
theorem dX10_mayHave_102 : decode cX10_mayHave 102 = .ok (.getfield 34, 3) := by decide +kernel
theorem dX10_mayHave_105 : decode cX10_mayHave 105 = .ok (.iload 5, 2) := by decide +kernel
theorem dX10_mayHave_107 : decode cX10_mayHave 107 = .ok (.iaload, 1) := by decide +kernel
theorem dX10_mayHave_108 : decode cX10_mayHave 108 = .ok (.iadd, 1) := by decide +kernel
theorem dX10_mayHave_109 : decode cX10_mayHave 109 = .ok (.iconst 1, 1) := by decide +kernel
theorem dX10_mayHave_110 : decode cX10_mayHave 110 = .ok (.isub, 1) := by decide +kernel
theorem dX10_mayHave_111 : decode cX10_mayHave 111 = .ok (.invokevirtual 202, 3) := by decide +kernel
theorem dX10_mayHave_114 : decode cX10_mayHave 114 = .ok (.ifCond .ne 7, 3) := by decide +kernel
theorem dX10_mayHave_117 : decode cX10_mayHave 117 = .ok (.iconst 1, 1) := by decide +kernel
theorem dX10_mayHave_118 : decode cX10_mayHave 118 = .ok (.goto 4, 3) := by decide +kernel
theorem dX10_mayHave_121 : decode cX10_mayHave 121 = .ok (.iconst 0, 1) := by decide +kernel
theorem dX10_mayHave_122 : decode cX10_mayHave 122 = .ok (.istore 4, 2) := by decide +kernel
theorem dX10_mayHave_124 : decode cX10_mayHave 124 = .ok (.iinc 5 1, 3) := by decide +kernel
theorem dX10_mayHave_127 : decode cX10_mayHave 127 = .ok (.goto (-57), 3) := by decide +kernel
theorem dX10_mayHave_130 : decode cX10_mayHave 130 = .ok (.iload 4, 2) := by decide +kernel
theorem dX10_mayHave_132 : decode cX10_mayHave 132 = .ok (.ireturn, 1) := by decide +kernel
theorem dX10_clashAt_0 : decode cX10_clashAt 0 = .ok (.aload_n 0, 1) := by decide +kernel
theorem dX10_clashAt_1 : decode cX10_clashAt 1 = .ok (.iload_n 1, 1) := by decide +kernel
theorem dX10_clashAt_2 : decode cX10_clashAt 2 = .ok (.invokevirtual 141, 3) := by decide +kernel
theorem dX10_clashAt_5 : decode cX10_clashAt 5 = .ok (.ifCond .ne 55, 3) := by decide +kernel
theorem dX10_clashAt_8 : decode cX10_clashAt 8 = .ok (.aload_n 0, 1) := by decide +kernel
theorem dX10_clashAt_9 : decode cX10_clashAt 9 = .ok (.iload_n 3, 1) := by decide +kernel
theorem dX10_clashAt_10 : decode cX10_clashAt 10 = .ok (.invokevirtual 141, 3) := by decide +kernel
theorem dX10_clashAt_13 : decode cX10_clashAt 13 = .ok (.ifCond .ne 47, 3) := by decide +kernel
theorem dX10_clashAt_16 : decode cX10_clashAt 16 = .ok (.aload_n 0, 1) := by decide +kernel
theorem dX10_clashAt_17 : decode cX10_clashAt 17 = .ok (.getfield 16, 3) := by decide +kernel
theorem dX10_clashAt_20 : decode cX10_clashAt 20 = .ok (.bipush 6, 2) := by decide +kernel
theorem dX10_clashAt_22 : decode cX10_clashAt 22 = .ok (.iload_n 1, 1) := by decide +kernel
theorem dX10_clashAt_23 : decode cX10_clashAt 23 = .ok (.imul, 1) := by decide +kernel
theorem dX10_clashAt_24 : decode cX10_clashAt 24 = .ok (.iaload, 1) := by decide +kernel
theorem dX10_clashAt_25 : decode cX10_clashAt 25 = .ok (.aload_n 0, 1) := by decide +kernel
theorem dX10_clashAt_26 : decode cX10_clashAt 26 = .ok (.getfield 16, 3) := by decide +kernel
theorem dX10_clashAt_29 : decode cX10_clashAt 29 = .ok (.bipush 6, 2) := by decide +kernel
theorem dX10_clashAt_31 : decode cX10_clashAt 31 = .ok (.iload_n 3, 1) := by decide +kernel
theorem dX10_clashAt_32 : decode cX10_clashAt 32 = .ok (.imul, 1) := by decide +kernel
theorem dX10_clashAt_33 : decode cX10_clashAt 33 = .ok (.iaload, 1) := by decide +kernel
theorem dX10_clashAt_34 : decode cX10_clashAt 34 = .ok (.if_icmp .ne 24, 3) := by decide +kernel
theorem dX10_clashAt_37 : decode cX10_clashAt 37 = .ok (.aload_n 0, 1) := by decide +kernel
theorem dX10_clashAt_38 : decode cX10_clashAt 38 = .ok (.getfield 53, 3) := by decide +kernel
theorem dX10_clashAt_41 : decode cX10_clashAt 41 = .ok (.iload_n 2, 1) := by decide +kernel
theorem dX10_clashAt_42 : decode cX10_clashAt 42 = .ok (.iaload, 1) := by decide +kernel
theorem dX10_clashAt_43 : decode cX10_clashAt 43 = .ok (.aload_n 0, 1) := by decide +kernel
theorem dX10_clashAt_44 : decode cX10_clashAt 44 = .ok (.getfield 53, 3) := by decide +kernel
theorem dX10_clashAt_47 : decode cX10_clashAt 47 = .ok (.iload 4, 2) := by decide +kernel
theorem dX10_clashAt_49 : decode cX10_clashAt 49 = .ok (.iaload, 1) := by decide +kernel
theorem dX10_clashAt_50 : decode cX10_clashAt 50 = .ok (.iand, 1) := by decide +kernel
theorem dX10_clashAt_51 : decode cX10_clashAt 51 = .ok (.ifCond .eq 7, 3) := by decide +kernel
theorem dX10_clashAt_54 : decode cX10_clashAt 54 = .ok (.iconst 1, 1) := by decide +kernel
theorem dX10_clashAt_55 : decode cX10_clashAt 55 = .ok (.goto 4, 3) := by decide +kernel
theorem dX10_clashAt_58 : decode cX10_clashAt 58 = .ok (.iconst 0, 1) := by decide +kernel
theorem dX10_clashAt_59 : decode cX10_clashAt 59 = .ok (.ireturn, 1) := by decide +kernel
theorem dX10_clashAt_60 : decode cX10_clashAt 60 = .ok (.aload_n 0, 1) := by decide +kernel
theorem dX10_clashAt_61 : decode cX10_clashAt 61 = .ok (.iload_n 1, 1) := by decide +kernel
theorem dX10_clashAt_62 : decode cX10_clashAt 62 = .ok (.invokevirtual 141, 3) := by decide +kernel
theorem dX10_clashAt_65 : decode cX10_clashAt 65 = .ok (.ifCond .eq 11, 3) := by decide +kernel
theorem dX10_clashAt_68 : decode cX10_clashAt 68 = .ok (.aload_n 0, 1) := by decide +kernel
theorem dX10_clashAt_69 : decode cX10_clashAt 69 = .ok (.iload_n 3, 1) := by decide +kernel
theorem dX10_clashAt_70 : decode cX10_clashAt 70 = .ok (.invokevirtual 141, 3) := by decide +kernel
theorem dX10_clashAt_73 : decode cX10_clashAt 73 = .ok (.ifCond .ne 24, 3) := by decide +kernel
theorem dX10_clashAt_76 : decode cX10_clashAt 76 = .ok (.aload_n 0, 1) := by decide +kernel
theorem dX10_clashAt_77 : decode cX10_clashAt 77 = .ok (.getfield 50, 3) := by decide +kernel
theorem dX10_clashAt_80 : decode cX10_clashAt 80 = .ok (.iload_n 2, 1) := by decide +kernel
theorem dX10_clashAt_81 : decode cX10_clashAt 81 = .ok (.iaload, 1) := by decide +kernel
theorem dX10_clashAt_82 : decode cX10_clashAt 82 = .ok (.aload_n 0, 1) := by decide +kernel
theorem dX10_clashAt_83 : decode cX10_clashAt 83 = .ok (.getfield 50, 3) := by decide +kernel
theorem dX10_clashAt_86 : decode cX10_clashAt 86 = .ok (.iload 4, 2) := by decide +kernel
theorem dX10_clashAt_88 : decode cX10_clashAt 88 = .ok (.iaload, 1) := by decide +kernel
theorem dX10_clashAt_89 : decode cX10_clashAt 89 = .ok (.iand, 1) := by decide +kernel
theorem dX10_clashAt_90 : decode cX10_clashAt 90 = .ok (.ifCond .eq 7, 3) := by decide +kernel
theorem dX10_clashAt_93 : decode cX10_clashAt 93 = .ok (.iconst 1, 1) := by decide +kernel
theorem dX10_clashAt_94 : decode cX10_clashAt 94 = .ok (.goto 4, 3) := by decide +kernel
theorem dX10_clashAt_97 : decode cX10_clashAt 97 = .ok (.iconst 0, 1) := by decide +kernel
theorem dX10_clashAt_98 : decode cX10_clashAt 98 = .ok (.ireturn, 1) := by decide +kernel
theorem dX10_layTables_0 : decode cX10_layTables 0 = .ok (.iconst 0, 1) := by decide +kernel
theorem dX10_layTables_1 : decode cX10_layTables 1 = .ok (.istore_n 1, 1) := by decide +kernel
theorem dX10_layTables_2 : decode cX10_layTables 2 = .ok (.iload_n 1, 1) := by decide +kernel
theorem dX10_layTables_3 : decode cX10_layTables 3 = .ok (.aload_n 0, 1) := by decide +kernel
theorem dX10_layTables_4 : decode cX10_layTables 4 = .ok (.getfield 135, 3) := by decide +kernel
theorem dX10_layTables_7 : decode cX10_layTables 7 = .ok (.if_icmp .ge 112, 3) := by decide +kernel
theorem dX10_layTables_10 : decode cX10_layTables 10 = .ok (.iconst 0, 1) := by decide +kernel
theorem dX10_layTables_11 : decode cX10_layTables 11 = .ok (.istore_n 2, 1) := by decide +kernel
theorem dX10_layTables_12 : decode cX10_layTables 12 = .ok (.iload_n 2, 1) := by decide +kernel
theorem dX10_layTables_13 : decode cX10_layTables 13 = .ok (.bipush 10, 2) := by decide +kernel
theorem dX10_layTables_15 : decode cX10_layTables 15 = .ok (.if_icmp .ge 98, 3) := by decide +kernel
theorem dX10_layTables_18 : decode cX10_layTables 18 = .ok (.aload_n 0, 1) := by decide +kernel
theorem dX10_layTables_19 : decode cX10_layTables 19 = .ok (.getfield 47, 3) := by decide +kernel
theorem dX10_layTables_22 : decode cX10_layTables 22 = .ok (.bipush 10, 2) := by decide +kernel
theorem dX10_layTables_24 : decode cX10_layTables 24 = .ok (.iload_n 1, 1) := by decide +kernel
theorem dX10_layTables_25 : decode cX10_layTables 25 = .ok (.imul, 1) := by decide +kernel
theorem dX10_layTables_26 : decode cX10_layTables 26 = .ok (.iload_n 2, 1) := by decide +kernel
theorem dX10_layTables_27 : decode cX10_layTables 27 = .ok (.iadd, 1) := by decide +kernel
theorem dX10_layTables_28 : decode cX10_layTables 28 = .ok (.aload_n 0, 1) := by decide +kernel
theorem dX10_layTables_29 : decode cX10_layTables 29 = .ok (.iload_n 1, 1) := by decide +kernel
theorem dX10_layTables_30 : decode cX10_layTables 30 = .ok (.iload_n 2, 1) := by decide +kernel
theorem dX10_layTables_31 : decode cX10_layTables 31 = .ok (.invokevirtual 171, 3) := by decide +kernel
theorem dX10_layTables_34 : decode cX10_layTables 34 = .ok (.bastore, 1) := by decide +kernel
theorem dX10_layTables_35 : decode cX10_layTables 35 = .ok (.aload_n 0, 1) := by decide +kernel
theorem dX10_layTables_36 : decode cX10_layTables 36 = .ok (.getfield 50, 3) := by decide +kernel
theorem dX10_layTables_39 : decode cX10_layTables 39 = .ok (.bipush 10, 2) := by decide +kernel
theorem dX10_layTables_41 : decode cX10_layTables 41 = .ok (.iload_n 1, 1) := by decide +kernel
theorem dX10_layTables_42 : decode cX10_layTables 42 = .ok (.imul, 1) := by decide +kernel
theorem dX10_layTables_43 : decode cX10_layTables 43 = .ok (.iload_n 2, 1) := by decide +kernel
theorem dX10_layTables_44 : decode cX10_layTables 44 = .ok (.iadd, 1) := by decide +kernel
theorem dX10_layTables_45 : decode cX10_layTables 45 = .ok (.aload_n 0, 1) := by decide +kernel
theorem dX10_layTables_46 : decode cX10_layTables 46 = .ok (.getfield 47, 3) := by decide +kernel
theorem dX10_layTables_49 : decode cX10_layTables 49 = .ok (.bipush 10, 2) := by decide +kernel
theorem dX10_layTables_51 : decode cX10_layTables 51 = .ok (.iload_n 1, 1) := by decide +kernel
theorem dX10_layTables_52 : decode cX10_layTables 52 = .ok (.imul, 1) := by decide +kernel
theorem dX10_layTables_53 : decode cX10_layTables 53 = .ok (.iload_n 2, 1) := by decide +kernel
theorem dX10_layTables_54 : decode cX10_layTables 54 = .ok (.iadd, 1) := by decide +kernel
theorem dX10_layTables_55 : decode cX10_layTables 55 = .ok (.baload, 1) := by decide +kernel
theorem dX10_layTables_56 : decode cX10_layTables 56 = .ok (.ifCond .eq 13, 3) := by decide +kernel
theorem dX10_layTables_59 : decode cX10_layTables 59 = .ok (.aload_n 0, 1) := by decide +kernel
theorem dX10_layTables_60 : decode cX10_layTables 60 = .ok (.iload_n 1, 1) := by decide +kernel
theorem dX10_layTables_61 : decode cX10_layTables 61 = .ok (.iload_n 2, 1) := by decide +kernel
theorem dX10_layTables_62 : decode cX10_layTables 62 = .ok (.iconst 0, 1) := by decide +kernel
theorem dX10_layTables_63 : decode cX10_layTables 63 = .ok (.invokevirtual 152, 3) := by decide +kernel
theorem dX10_layTables_66 : decode cX10_layTables 66 = .ok (.goto 4, 3) := by decide +kernel
theorem dX10_layTables_69 : decode cX10_layTables 69 = .ok (.iconst 0, 1) := by decide +kernel
theorem dX10_layTables_70 : decode cX10_layTables 70 = .ok (.iastore, 1) := by decide +kernel
theorem dX10_layTables_71 : decode cX10_layTables 71 = .ok (.aload_n 0, 1) := by decide +kernel
theorem dX10_layTables_72 : decode cX10_layTables 72 = .ok (.getfield 53, 3) := by decide +kernel
theorem dX10_layTables_75 : decode cX10_layTables 75 = .ok (.bipush 10, 2) := by decide +kernel
theorem dX10_layTables_77 : decode cX10_layTables 77 = .ok (.iload_n 1, 1) := by decide +kernel
theorem dX10_layTables_78 : decode cX10_layTables 78 = .ok (.imul, 1) := by decide +kernel
theorem dX10_layTables_79 : decode cX10_layTables 79 = .ok (.iload_n 2, 1) := by decide +kernel
theorem dX10_layTables_80 : decode cX10_layTables 80 = .ok (.iadd, 1) := by decide +kernel
theorem dX10_layTables_81 : decode cX10_layTables 81 = .ok (.aload_n 0, 1) := by decide +kernel
theorem dX10_layTables_82 : decode cX10_layTables 82 = .ok (.getfield 47, 3) := by decide +kernel
theorem dX10_layTables_85 : decode cX10_layTables 85 = .ok (.bipush 10, 2) := by decide +kernel
theorem dX10_layTables_87 : decode cX10_layTables 87 = .ok (.iload_n 1, 1) := by decide +kernel
theorem dX10_layTables_88 : decode cX10_layTables 88 = .ok (.imul, 1) := by decide +kernel
theorem dX10_layTables_89 : decode cX10_layTables 89 = .ok (.iload_n 2, 1) := by decide +kernel
theorem dX10_layTables_90 : decode cX10_layTables 90 = .ok (.iadd, 1) := by decide +kernel
theorem dX10_layTables_91 : decode cX10_layTables 91 = .ok (.baload, 1) := by decide +kernel
theorem dX10_layTables_92 : decode cX10_layTables 92 = .ok (.ifCond .eq 13, 3) := by decide +kernel
theorem dX10_layTables_95 : decode cX10_layTables 95 = .ok (.aload_n 0, 1) := by decide +kernel
theorem dX10_layTables_96 : decode cX10_layTables 96 = .ok (.iload_n 1, 1) := by decide +kernel
theorem dX10_layTables_97 : decode cX10_layTables 97 = .ok (.iload_n 2, 1) := by decide +kernel
theorem dX10_layTables_98 : decode cX10_layTables 98 = .ok (.iconst 1, 1) := by decide +kernel
theorem dX10_layTables_99 : decode cX10_layTables 99 = .ok (.invokevirtual 152, 3) := by decide +kernel
theorem dX10_layTables_102 : decode cX10_layTables 102 = .ok (.goto 4, 3) := by decide +kernel
theorem dX10_layTables_105 : decode cX10_layTables 105 = .ok (.iconst 0, 1) := by decide +kernel
theorem dX10_layTables_106 : decode cX10_layTables 106 = .ok (.iastore, 1) := by decide +kernel
theorem dX10_layTables_107 : decode cX10_layTables 107 = .ok (.iinc 2 1, 3) := by decide +kernel
theorem dX10_layTables_110 : decode cX10_layTables 110 = .ok (.goto (-98), 3) := by decide +kernel
theorem dX10_layTables_113 : decode cX10_layTables 113 = .ok (.iinc 1 1, 3) := by decide +kernel
theorem dX10_layTables_116 : decode cX10_layTables 116 = .ok (.goto (-114), 3) := by decide +kernel
theorem dX10_layTables_119 : decode cX10_layTables 119 = .ok (.return_, 1) := by decide +kernel
theorem dX10_layBells_0 : decode cX10_layBells 0 = .ok (.iconst 0, 1) := by decide +kernel
theorem dX10_layBells_1 : decode cX10_layBells 1 = .ok (.istore_n 1, 1) := by decide +kernel
theorem dX10_layBells_2 : decode cX10_layBells 2 = .ok (.iload_n 1, 1) := by decide +kernel
theorem dX10_layBells_3 : decode cX10_layBells 3 = .ok (.iconst 3, 1) := by decide +kernel
theorem dX10_layBells_4 : decode cX10_layBells 4 = .ok (.if_icmp .ge 16, 3) := by decide +kernel
theorem dX10_layBells_7 : decode cX10_layBells 7 = .ok (.aload_n 0, 1) := by decide +kernel
theorem dX10_layBells_8 : decode cX10_layBells 8 = .ok (.getfield 56, 3) := by decide +kernel
theorem dX10_layBells_11 : decode cX10_layBells 11 = .ok (.iload_n 1, 1) := by decide +kernel
end
section
theorem dX10_layBells_12 : decode cX10_layBells 12 = .ok (.iconst 0, 1) := by decide +kernel
theorem dX10_layBells_13 : decode cX10_layBells 13 = .ok (.iastore, 1) := by decide +kernel
theorem dX10_layBells_14 : decode cX10_layBells 14 = .ok (.iinc 1 1, 3) := by decide +kernel
theorem dX10_layBells_17 : decode cX10_layBells 17 = .ok (.goto (-15), 3) := by decide +kernel
theorem dX10_layBells_20 : decode cX10_layBells 20 = .ok (.iconst 0, 1) := by decide +kernel
theorem dX10_layBells_21 : decode cX10_layBells 21 = .ok (.istore_n 1, 1) := by decide +kernel
theorem dX10_layBells_22 : decode cX10_layBells 22 = .ok (.iload_n 1, 1) := by decide +kernel
theorem dX10_layBells_23 : decode cX10_layBells 23 = .ok (.aload_n 0, 1) := by decide +kernel
theorem dX10_layBells_24 : decode cX10_layBells 24 = .ok (.getfield 135, 3) := by decide +kernel
theorem dX10_layBells_27 : decode cX10_layBells 27 = .ok (.if_icmp .ge 61, 3) := by decide +kernel
theorem dX10_layBells_30 : decode cX10_layBells 30 = .ok (.aload_n 0, 1) := by decide +kernel
theorem dX10_layBells_31 : decode cX10_layBells 31 = .ok (.getfield 34, 3) := by decide +kernel
theorem dX10_layBells_34 : decode cX10_layBells 34 = .ok (.iload_n 1, 1) := by decide +kernel
theorem dX10_layBells_35 : decode cX10_layBells 35 = .ok (.iaload, 1) := by decide +kernel
theorem dX10_layBells_36 : decode cX10_layBells 36 = .ok (.ifCond .le 46, 3) := by decide +kernel
theorem dX10_layBells_39 : decode cX10_layBells 39 = .ok (.aload_n 0, 1) := by decide +kernel
theorem dX10_layBells_40 : decode cX10_layBells 40 = .ok (.iload_n 1, 1) := by decide +kernel
theorem dX10_layBells_41 : decode cX10_layBells 41 = .ok (.invokevirtual 141, 3) := by decide +kernel
theorem dX10_layBells_44 : decode cX10_layBells 44 = .ok (.ifCond .ne 38, 3) := by decide +kernel
theorem dX10_layBells_47 : decode cX10_layBells 47 = .ok (.aload_n 0, 1) := by decide +kernel
theorem dX10_layBells_48 : decode cX10_layBells 48 = .ok (.getfield 56, 3) := by decide +kernel
theorem dX10_layBells_51 : decode cX10_layBells 51 = .ok (.aload_n 0, 1) := by decide +kernel
theorem dX10_layBells_52 : decode cX10_layBells 52 = .ok (.getfield 16, 3) := by decide +kernel
theorem dX10_layBells_55 : decode cX10_layBells 55 = .ok (.bipush 6, 2) := by decide +kernel
theorem dX10_layBells_57 : decode cX10_layBells 57 = .ok (.iload_n 1, 1) := by decide +kernel
theorem dX10_layBells_58 : decode cX10_layBells 58 = .ok (.imul, 1) := by decide +kernel
theorem dX10_layBells_59 : decode cX10_layBells 59 = .ok (.iaload, 1) := by decide +kernel
theorem dX10_layBells_60 : decode cX10_layBells 60 = .ok (.dup2, 1) := by decide +kernel
theorem dX10_layBells_61 : decode cX10_layBells 61 = .ok (.iaload, 1) := by decide +kernel
theorem dX10_layBells_62 : decode cX10_layBells 62 = .ok (.aload_n 0, 1) := by decide +kernel
theorem dX10_layBells_63 : decode cX10_layBells 63 = .ok (.getfield 50, 3) := by decide +kernel
theorem dX10_layBells_66 : decode cX10_layBells 66 = .ok (.bipush 10, 2) := by decide +kernel
theorem dX10_layBells_68 : decode cX10_layBells 68 = .ok (.iload_n 1, 1) := by decide +kernel
theorem dX10_layBells_69 : decode cX10_layBells 69 = .ok (.imul, 1) := by decide +kernel
theorem dX10_layBells_70 : decode cX10_layBells 70 = .ok (.aload_n 0, 1) := by decide +kernel
theorem dX10_layBells_71 : decode cX10_layBells 71 = .ok (.getfield 34, 3) := by decide +kernel
theorem dX10_layBells_74 : decode cX10_layBells 74 = .ok (.iload_n 1, 1) := by decide +kernel
theorem dX10_layBells_75 : decode cX10_layBells 75 = .ok (.iaload, 1) := by decide +kernel
theorem dX10_layBells_76 : decode cX10_layBells 76 = .ok (.iadd, 1) := by decide +kernel
theorem dX10_layBells_77 : decode cX10_layBells 77 = .ok (.iconst 1, 1) := by decide +kernel
theorem dX10_layBells_78 : decode cX10_layBells 78 = .ok (.isub, 1) := by decide +kernel
theorem dX10_layBells_79 : decode cX10_layBells 79 = .ok (.iaload, 1) := by decide +kernel
theorem dX10_layBells_80 : decode cX10_layBells 80 = .ok (.ior, 1) := by decide +kernel
theorem dX10_layBells_81 : decode cX10_layBells 81 = .ok (.iastore, 1) := by decide +kernel
theorem dX10_layBells_82 : decode cX10_layBells 82 = .ok (.iinc 1 1, 3) := by decide +kernel
theorem dX10_layBells_85 : decode cX10_layBells 85 = .ok (.goto (-63), 3) := by decide +kernel
theorem dX10_layBells_88 : decode cX10_layBells 88 = .ok (.return_, 1) := by decide +kernel
theorem dX10_dayLet_0 : decode cX10_dayLet 0 = .ok (.iconst 0, 1) := by decide +kernel
theorem dX10_dayLet_1 : decode cX10_dayLet 1 = .ok (.istore_n 1, 1) := by decide +kernel
theorem dX10_dayLet_2 : decode cX10_dayLet 2 = .ok (.iconst 0, 1) := by decide +kernel
theorem dX10_dayLet_3 : decode cX10_dayLet 3 = .ok (.istore_n 2, 1) := by decide +kernel
theorem dX10_dayLet_4 : decode cX10_dayLet 4 = .ok (.iload_n 2, 1) := by decide +kernel
theorem dX10_dayLet_5 : decode cX10_dayLet 5 = .ok (.aload_n 0, 1) := by decide +kernel
theorem dX10_dayLet_6 : decode cX10_dayLet 6 = .ok (.getfield 135, 3) := by decide +kernel
theorem dX10_dayLet_9 : decode cX10_dayLet 9 = .ok (.if_icmp .ge 28, 3) := by decide +kernel
theorem dX10_dayLet_12 : decode cX10_dayLet 12 = .ok (.iload_n 1, 1) := by decide +kernel
theorem dX10_dayLet_13 : decode cX10_dayLet 13 = .ok (.aload_n 0, 1) := by decide +kernel
theorem dX10_dayLet_14 : decode cX10_dayLet 14 = .ok (.getfield 34, 3) := by decide +kernel
theorem dX10_dayLet_17 : decode cX10_dayLet 17 = .ok (.iload_n 2, 1) := by decide +kernel
theorem dX10_dayLet_18 : decode cX10_dayLet 18 = .ok (.iaload, 1) := by decide +kernel
theorem dX10_dayLet_19 : decode cX10_dayLet 19 = .ok (.ifCond .le 9, 3) := by decide +kernel
theorem dX10_dayLet_22 : decode cX10_dayLet 22 = .ok (.iconst 1, 1) := by decide +kernel
theorem dX10_dayLet_23 : decode cX10_dayLet 23 = .ok (.iload_n 2, 1) := by decide +kernel
theorem dX10_dayLet_24 : decode cX10_dayLet 24 = .ok (.ishl, 1) := by decide +kernel
theorem dX10_dayLet_25 : decode cX10_dayLet 25 = .ok (.goto 4, 3) := by decide +kernel
theorem dX10_dayLet_28 : decode cX10_dayLet 28 = .ok (.iconst 0, 1) := by decide +kernel
theorem dX10_dayLet_29 : decode cX10_dayLet 29 = .ok (.ior, 1) := by decide +kernel
theorem dX10_dayLet_30 : decode cX10_dayLet 30 = .ok (.istore_n 1, 1) := by decide +kernel
theorem dX10_dayLet_31 : decode cX10_dayLet 31 = .ok (.iinc 2 1, 3) := by decide +kernel
theorem dX10_dayLet_34 : decode cX10_dayLet 34 = .ok (.goto (-30), 3) := by decide +kernel
theorem dX10_dayLet_37 : decode cX10_dayLet 37 = .ok (.iload_n 1, 1) := by decide +kernel
theorem dX10_dayLet_38 : decode cX10_dayLet 38 = .ok (.ireturn, 1) := by decide +kernel
theorem dX10_lookAt_0 : decode cX10_lookAt 0 = .ok (.aload_n 0, 1) := by decide +kernel
theorem dX10_lookAt_1 : decode cX10_lookAt 1 = .ok (.invokevirtual 205, 3) := by decide +kernel
theorem dX10_lookAt_4 : decode cX10_lookAt 4 = .ok (.istore_n 1, 1) := by decide +kernel
theorem dX10_lookAt_5 : decode cX10_lookAt 5 = .ok (.aload_n 0, 1) := by decide +kernel
theorem dX10_lookAt_6 : decode cX10_lookAt 6 = .ok (.getfield 40, 3) := by decide +kernel
theorem dX10_lookAt_9 : decode cX10_lookAt 9 = .ok (.iload_n 1, 1) := by decide +kernel
theorem dX10_lookAt_10 : decode cX10_lookAt 10 = .ok (.iconst 1, 1) := by decide +kernel
theorem dX10_lookAt_11 : decode cX10_lookAt 11 = .ok (.bastore, 1) := by decide +kernel
theorem dX10_lookAt_12 : decode cX10_lookAt 12 = .ok (.aload_n 0, 1) := by decide +kernel
theorem dX10_lookAt_13 : decode cX10_lookAt 13 = .ok (.iload_n 1, 1) := by decide +kernel
theorem dX10_lookAt_14 : decode cX10_lookAt 14 = .ok (.invokevirtual 199, 3) := by decide +kernel
theorem dX10_lookAt_17 : decode cX10_lookAt 17 = .ok (.aload_n 0, 1) := by decide +kernel
theorem dX10_lookAt_18 : decode cX10_lookAt 18 = .ok (.getfield 208, 3) := by decide +kernel
theorem dX10_lookAt_21 : decode cX10_lookAt 21 = .ok (.if_icmp .le 37, 3) := by decide +kernel
theorem dX10_lookAt_24 : decode cX10_lookAt 24 = .ok (.aload_n 0, 1) := by decide +kernel
theorem dX10_lookAt_25 : decode cX10_lookAt 25 = .ok (.aload_n 0, 1) := by decide +kernel
theorem dX10_lookAt_26 : decode cX10_lookAt 26 = .ok (.iload_n 1, 1) := by decide +kernel
theorem dX10_lookAt_27 : decode cX10_lookAt 27 = .ok (.invokevirtual 199, 3) := by decide +kernel
theorem dX10_lookAt_30 : decode cX10_lookAt 30 = .ok (.putfield 208, 3) := by decide +kernel
theorem dX10_lookAt_33 : decode cX10_lookAt 33 = .ok (.iconst 0, 1) := by decide +kernel
theorem dX10_lookAt_34 : decode cX10_lookAt 34 = .ok (.istore_n 2, 1) := by decide +kernel
theorem dX10_lookAt_35 : decode cX10_lookAt 35 = .ok (.iload_n 2, 1) := by decide +kernel
theorem dX10_lookAt_36 : decode cX10_lookAt 36 = .ok (.iconst 5, 1) := by decide +kernel
theorem dX10_lookAt_37 : decode cX10_lookAt 37 = .ok (.if_icmp .ge 21, 3) := by decide +kernel
theorem dX10_lookAt_40 : decode cX10_lookAt 40 = .ok (.aload_n 0, 1) := by decide +kernel
theorem dX10_lookAt_41 : decode cX10_lookAt 41 = .ok (.getfield 37, 3) := by decide +kernel
theorem dX10_lookAt_44 : decode cX10_lookAt 44 = .ok (.iload_n 2, 1) := by decide +kernel
theorem dX10_lookAt_45 : decode cX10_lookAt 45 = .ok (.aload_n 0, 1) := by decide +kernel
theorem dX10_lookAt_46 : decode cX10_lookAt 46 = .ok (.getfield 34, 3) := by decide +kernel
theorem dX10_lookAt_49 : decode cX10_lookAt 49 = .ok (.iload_n 2, 1) := by decide +kernel
theorem dX10_lookAt_50 : decode cX10_lookAt 50 = .ok (.iaload, 1) := by decide +kernel
theorem dX10_lookAt_51 : decode cX10_lookAt 51 = .ok (.iastore, 1) := by decide +kernel
theorem dX10_lookAt_52 : decode cX10_lookAt 52 = .ok (.iinc 2 1, 3) := by decide +kernel
theorem dX10_lookAt_55 : decode cX10_lookAt 55 = .ok (.goto (-20), 3) := by decide +kernel
theorem dX10_lookAt_58 : decode cX10_lookAt 58 = .ok (.aload_n 0, 1) := by decide +kernel
theorem dX10_lookAt_59 : decode cX10_lookAt 59 = .ok (.invokevirtual 211, 3) := by decide +kernel
theorem dX10_lookAt_62 : decode cX10_lookAt 62 = .ok (.aload_n 0, 1) := by decide +kernel
theorem dX10_lookAt_63 : decode cX10_lookAt 63 = .ok (.invokevirtual 214, 3) := by decide +kernel
theorem dX10_lookAt_66 : decode cX10_lookAt 66 = .ok (.ifCond .eq 82, 3) := by decide +kernel
theorem dX10_lookAt_69 : decode cX10_lookAt 69 = .ok (.aload_n 0, 1) := by decide +kernel
theorem dX10_lookAt_70 : decode cX10_lookAt 70 = .ok (.dup, 1) := by decide +kernel
theorem dX10_lookAt_71 : decode cX10_lookAt 71 = .ok (.getfield 218, 3) := by decide +kernel
theorem dX10_lookAt_74 : decode cX10_lookAt 74 = .ok (.iconst 1, 1) := by decide +kernel
theorem dX10_lookAt_75 : decode cX10_lookAt 75 = .ok (.iadd, 1) := by decide +kernel
theorem dX10_lookAt_76 : decode cX10_lookAt 76 = .ok (.putfield 218, 3) := by decide +kernel
theorem dX10_lookAt_79 : decode cX10_lookAt 79 = .ok (.aload_n 0, 1) := by decide +kernel
theorem dX10_lookAt_80 : decode cX10_lookAt 80 = .ok (.dup, 1) := by decide +kernel
theorem dX10_lookAt_81 : decode cX10_lookAt 81 = .ok (.getfield 221, 3) := by decide +kernel
theorem dX10_lookAt_84 : decode cX10_lookAt 84 = .ok (.iload_n 1, 1) := by decide +kernel
theorem dX10_lookAt_85 : decode cX10_lookAt 85 = .ok (.iand, 1) := by decide +kernel
theorem dX10_lookAt_86 : decode cX10_lookAt 86 = .ok (.putfield 221, 3) := by decide +kernel
theorem dX10_lookAt_89 : decode cX10_lookAt 89 = .ok (.aload_n 0, 1) := by decide +kernel
theorem dX10_lookAt_90 : decode cX10_lookAt 90 = .ok (.dup, 1) := by decide +kernel
theorem dX10_lookAt_91 : decode cX10_lookAt 91 = .ok (.getfield 224, 3) := by decide +kernel
theorem dX10_lookAt_94 : decode cX10_lookAt 94 = .ok (.iload_n 1, 1) := by decide +kernel
theorem dX10_lookAt_95 : decode cX10_lookAt 95 = .ok (.ior, 1) := by decide +kernel
theorem dX10_lookAt_96 : decode cX10_lookAt 96 = .ok (.putfield 224, 3) := by decide +kernel
theorem dX10_lookAt_99 : decode cX10_lookAt 99 = .ok (.aload_n 0, 1) := by decide +kernel
theorem dX10_lookAt_100 : decode cX10_lookAt 100 = .ok (.getfield 56, 3) := by decide +kernel
theorem dX10_lookAt_103 : decode cX10_lookAt 103 = .ok (.iconst 0, 1) := by decide +kernel
theorem dX10_lookAt_104 : decode cX10_lookAt 104 = .ok (.iaload, 1) := by decide +kernel
theorem dX10_lookAt_105 : decode cX10_lookAt 105 = .ok (.aload_n 0, 1) := by decide +kernel
theorem dX10_lookAt_106 : decode cX10_lookAt 106 = .ok (.getfield 56, 3) := by decide +kernel
theorem dX10_lookAt_109 : decode cX10_lookAt 109 = .ok (.iconst 1, 1) := by decide +kernel
theorem dX10_lookAt_110 : decode cX10_lookAt 110 = .ok (.iaload, 1) := by decide +kernel
theorem dX10_lookAt_111 : decode cX10_lookAt 111 = .ok (.ior, 1) := by decide +kernel
theorem dX10_lookAt_112 : decode cX10_lookAt 112 = .ok (.aload_n 0, 1) := by decide +kernel
theorem dX10_lookAt_113 : decode cX10_lookAt 113 = .ok (.getfield 56, 3) := by decide +kernel
theorem dX10_lookAt_116 : decode cX10_lookAt 116 = .ok (.iconst 2, 1) := by decide +kernel
theorem dX10_lookAt_117 : decode cX10_lookAt 117 = .ok (.iaload, 1) := by decide +kernel
theorem dX10_lookAt_118 : decode cX10_lookAt 118 = .ok (.ior, 1) := by decide +kernel
theorem dX10_lookAt_119 : decode cX10_lookAt 119 = .ok (.istore_n 2, 1) := by decide +kernel
theorem dX10_lookAt_120 : decode cX10_lookAt 120 = .ok (.iconst 0, 1) := by decide +kernel
theorem dX10_lookAt_121 : decode cX10_lookAt 121 = .ok (.istore_n 3, 1) := by decide +kernel
theorem dX10_lookAt_122 : decode cX10_lookAt 122 = .ok (.iload_n 3, 1) := by decide +kernel
theorem dX10_lookAt_123 : decode cX10_lookAt 123 = .ok (.bipush 10, 2) := by decide +kernel
theorem dX10_lookAt_125 : decode cX10_lookAt 125 = .ok (.if_icmp .ge 23, 3) := by decide +kernel
theorem dX10_lookAt_128 : decode cX10_lookAt 128 = .ok (.aload_n 0, 1) := by decide +kernel
theorem dX10_lookAt_129 : decode cX10_lookAt 129 = .ok (.getfield 44, 3) := by decide +kernel
theorem dX10_lookAt_132 : decode cX10_lookAt 132 = .ok (.iload_n 3, 1) := by decide +kernel
theorem dX10_lookAt_133 : decode cX10_lookAt 133 = .ok (.dup2, 1) := by decide +kernel
theorem dX10_lookAt_134 : decode cX10_lookAt 134 = .ok (.iaload, 1) := by decide +kernel
theorem dX10_lookAt_135 : decode cX10_lookAt 135 = .ok (.iload_n 2, 1) := by decide +kernel
theorem dX10_lookAt_136 : decode cX10_lookAt 136 = .ok (.iload_n 3, 1) := by decide +kernel
theorem dX10_lookAt_137 : decode cX10_lookAt 137 = .ok (.ishr, 1) := by decide +kernel
theorem dX10_lookAt_138 : decode cX10_lookAt 138 = .ok (.iconst 1, 1) := by decide +kernel
theorem dX10_lookAt_139 : decode cX10_lookAt 139 = .ok (.iand, 1) := by decide +kernel
theorem dX10_lookAt_140 : decode cX10_lookAt 140 = .ok (.iadd, 1) := by decide +kernel
theorem dX10_lookAt_141 : decode cX10_lookAt 141 = .ok (.iastore, 1) := by decide +kernel
theorem dX10_lookAt_142 : decode cX10_lookAt 142 = .ok (.iinc 3 1, 3) := by decide +kernel
theorem dX10_lookAt_145 : decode cX10_lookAt 145 = .ok (.goto (-23), 3) := by decide +kernel
theorem dX10_lookAt_148 : decode cX10_lookAt 148 = .ok (.return_, 1) := by decide +kernel
theorem dX10_goThrough_0 : decode cX10_goThrough 0 = .ok (.aload_n 0, 1) := by decide +kernel
theorem dX10_goThrough_1 : decode cX10_goThrough 1 = .ok (.invokevirtual 227, 3) := by decide +kernel
theorem dX10_goThrough_4 : decode cX10_goThrough 4 = .ok (.iconst 0, 1) := by decide +kernel
theorem dX10_goThrough_5 : decode cX10_goThrough 5 = .ok (.istore_n 2, 1) := by decide +kernel
theorem dX10_goThrough_6 : decode cX10_goThrough 6 = .ok (.iload_n 2, 1) := by decide +kernel
theorem dX10_goThrough_7 : decode cX10_goThrough 7 = .ok (.bipush 32, 2) := by decide +kernel
theorem dX10_goThrough_9 : decode cX10_goThrough 9 = .ok (.if_icmp .ge 16, 3) := by decide +kernel
theorem dX10_goThrough_12 : decode cX10_goThrough 12 = .ok (.aload_n 0, 1) := by decide +kernel
theorem dX10_goThrough_13 : decode cX10_goThrough 13 = .ok (.getfield 40, 3) := by decide +kernel
theorem dX10_goThrough_16 : decode cX10_goThrough 16 = .ok (.iload_n 2, 1) := by decide +kernel
theorem dX10_goThrough_17 : decode cX10_goThrough 17 = .ok (.iconst 0, 1) := by decide +kernel
theorem dX10_goThrough_18 : decode cX10_goThrough 18 = .ok (.bastore, 1) := by decide +kernel
theorem dX10_goThrough_19 : decode cX10_goThrough 19 = .ok (.iinc 2 1, 3) := by decide +kernel
theorem dX10_goThrough_22 : decode cX10_goThrough 22 = .ok (.goto (-16), 3) := by decide +kernel
theorem dX10_goThrough_25 : decode cX10_goThrough 25 = .ok (.iconst 0, 1) := by decide +kernel
theorem dX10_goThrough_26 : decode cX10_goThrough 26 = .ok (.istore_n 2, 1) := by decide +kernel
theorem dX10_goThrough_27 : decode cX10_goThrough 27 = .ok (.iload_n 2, 1) := by decide +kernel
theorem dX10_goThrough_28 : decode cX10_goThrough 28 = .ok (.bipush 10, 2) := by decide +kernel
theorem dX10_goThrough_30 : decode cX10_goThrough 30 = .ok (.if_icmp .ge 16, 3) := by decide +kernel
theorem dX10_goThrough_33 : decode cX10_goThrough 33 = .ok (.aload_n 0, 1) := by decide +kernel
theorem dX10_goThrough_34 : decode cX10_goThrough 34 = .ok (.getfield 44, 3) := by decide +kernel
theorem dX10_goThrough_37 : decode cX10_goThrough 37 = .ok (.iload_n 2, 1) := by decide +kernel
theorem dX10_goThrough_38 : decode cX10_goThrough 38 = .ok (.iconst 0, 1) := by decide +kernel
theorem dX10_goThrough_39 : decode cX10_goThrough 39 = .ok (.iastore, 1) := by decide +kernel
theorem dX10_goThrough_40 : decode cX10_goThrough 40 = .ok (.iinc 2 1, 3) := by decide +kernel
theorem dX10_goThrough_43 : decode cX10_goThrough 43 = .ok (.goto (-16), 3) := by decide +kernel
theorem dX10_goThrough_46 : decode cX10_goThrough 46 = .ok (.aload_n 0, 1) := by decide +kernel
theorem dX10_goThrough_47 : decode cX10_goThrough 47 = .ok (.bipush (-9), 2) := by decide +kernel
theorem dX10_goThrough_49 : decode cX10_goThrough 49 = .ok (.putfield 208, 3) := by decide +kernel
theorem dX10_goThrough_52 : decode cX10_goThrough 52 = .ok (.aload_n 0, 1) := by decide +kernel
theorem dX10_goThrough_53 : decode cX10_goThrough 53 = .ok (.iconst 0, 1) := by decide +kernel
theorem dX10_goThrough_54 : decode cX10_goThrough 54 = .ok (.putfield 218, 3) := by decide +kernel
theorem dX10_goThrough_57 : decode cX10_goThrough 57 = .ok (.aload_n 0, 1) := by decide +kernel
theorem dX10_goThrough_58 : decode cX10_goThrough 58 = .ok (.iconst 1, 1) := by decide +kernel
theorem dX10_goThrough_59 : decode cX10_goThrough 59 = .ok (.aload_n 0, 1) := by decide +kernel
theorem dX10_goThrough_60 : decode cX10_goThrough 60 = .ok (.getfield 135, 3) := by decide +kernel
theorem dX10_goThrough_63 : decode cX10_goThrough 63 = .ok (.ishl, 1) := by decide +kernel
theorem dX10_goThrough_64 : decode cX10_goThrough 64 = .ok (.iconst 1, 1) := by decide +kernel
theorem dX10_goThrough_65 : decode cX10_goThrough 65 = .ok (.isub, 1) := by decide +kernel
theorem dX10_goThrough_66 : decode cX10_goThrough 66 = .ok (.putfield 221, 3) := by decide +kernel
theorem dX10_goThrough_69 : decode cX10_goThrough 69 = .ok (.aload_n 0, 1) := by decide +kernel
theorem dX10_goThrough_70 : decode cX10_goThrough 70 = .ok (.iconst 0, 1) := by decide +kernel
theorem dX10_goThrough_71 : decode cX10_goThrough 71 = .ok (.putfield 224, 3) := by decide +kernel
theorem dX10_goThrough_74 : decode cX10_goThrough 74 = .ok (.iconst 0, 1) := by decide +kernel
theorem dX10_goThrough_75 : decode cX10_goThrough 75 = .ok (.istore_n 2, 1) := by decide +kernel
theorem dX10_goThrough_76 : decode cX10_goThrough 76 = .ok (.aload_n 0, 1) := by decide +kernel
theorem dX10_goThrough_77 : decode cX10_goThrough 77 = .ok (.getfield 34, 3) := by decide +kernel
theorem dX10_goThrough_80 : decode cX10_goThrough 80 = .ok (.iconst 0, 1) := by decide +kernel
theorem dX10_goThrough_81 : decode cX10_goThrough 81 = .ok (.iconst (-1), 1) := by decide +kernel
theorem dX10_goThrough_82 : decode cX10_goThrough 82 = .ok (.iastore, 1) := by decide +kernel
theorem dX10_goThrough_83 : decode cX10_goThrough 83 = .ok (.iload_n 2, 1) := by decide +kernel
theorem dX10_goThrough_84 : decode cX10_goThrough 84 = .ok (.ifCond .lt 102, 3) := by decide +kernel
theorem dX10_goThrough_87 : decode cX10_goThrough 87 = .ok (.iload_n 2, 1) := by decide +kernel
theorem dX10_goThrough_88 : decode cX10_goThrough 88 = .ok (.aload_n 0, 1) := by decide +kernel
theorem dX10_goThrough_89 : decode cX10_goThrough 89 = .ok (.getfield 135, 3) := by decide +kernel
theorem dX10_goThrough_92 : decode cX10_goThrough 92 = .ok (.if_icmp .ne 13, 3) := by decide +kernel
theorem dX10_goThrough_95 : decode cX10_goThrough 95 = .ok (.aload_n 0, 1) := by decide +kernel
theorem dX10_goThrough_96 : decode cX10_goThrough 96 = .ok (.invokevirtual 230, 3) := by decide +kernel
theorem dX10_goThrough_99 : decode cX10_goThrough 99 = .ok (.iinc 2 (-1), 3) := by decide +kernel
theorem dX10_goThrough_102 : decode cX10_goThrough 102 = .ok (.goto (-19), 3) := by decide +kernel
theorem dX10_goThrough_105 : decode cX10_goThrough 105 = .ok (.aload_n 0, 1) := by decide +kernel
theorem dX10_goThrough_106 : decode cX10_goThrough 106 = .ok (.getfield 34, 3) := by decide +kernel
theorem dX10_goThrough_109 : decode cX10_goThrough 109 = .ok (.iload_n 2, 1) := by decide +kernel
theorem dX10_goThrough_110 : decode cX10_goThrough 110 = .ok (.dup2, 1) := by decide +kernel
theorem dX10_goThrough_111 : decode cX10_goThrough 111 = .ok (.iaload, 1) := by decide +kernel
theorem dX10_goThrough_112 : decode cX10_goThrough 112 = .ok (.iconst 1, 1) := by decide +kernel
theorem dX10_goThrough_113 : decode cX10_goThrough 113 = .ok (.iadd, 1) := by decide +kernel
theorem dX10_goThrough_114 : decode cX10_goThrough 114 = .ok (.iastore, 1) := by decide +kernel
theorem dX10_goThrough_115 : decode cX10_goThrough 115 = .ok (.aload_n 0, 1) := by decide +kernel
theorem dX10_goThrough_116 : decode cX10_goThrough 116 = .ok (.getfield 34, 3) := by decide +kernel
theorem dX10_goThrough_119 : decode cX10_goThrough 119 = .ok (.iload_n 2, 1) := by decide +kernel
theorem dX10_goThrough_120 : decode cX10_goThrough 120 = .ok (.iaload, 1) := by decide +kernel
theorem dX10_goThrough_121 : decode cX10_goThrough 121 = .ok (.bipush 11, 2) := by decide +kernel
theorem dX10_goThrough_123 : decode cX10_goThrough 123 = .ok (.if_icmp .ge 25, 3) := by decide +kernel
theorem dX10_goThrough_126 : decode cX10_goThrough 126 = .ok (.aload_n 0, 1) := by decide +kernel
theorem dX10_goThrough_127 : decode cX10_goThrough 127 = .ok (.iload_n 2, 1) := by decide +kernel
theorem dX10_goThrough_128 : decode cX10_goThrough 128 = .ok (.iload_n 1, 1) := by decide +kernel
theorem dX10_goThrough_129 : decode cX10_goThrough 129 = .ok (.invokevirtual 233, 3) := by decide +kernel
theorem dX10_goThrough_132 : decode cX10_goThrough 132 = .ok (.ifCond .ne 16, 3) := by decide +kernel
theorem dX10_goThrough_135 : decode cX10_goThrough 135 = .ok (.aload_n 0, 1) := by decide +kernel
theorem dX10_goThrough_136 : decode cX10_goThrough 136 = .ok (.getfield 34, 3) := by decide +kernel
theorem dX10_goThrough_139 : decode cX10_goThrough 139 = .ok (.iload_n 2, 1) := by decide +kernel
theorem dX10_goThrough_140 : decode cX10_goThrough 140 = .ok (.dup2, 1) := by decide +kernel
theorem dX10_goThrough_141 : decode cX10_goThrough 141 = .ok (.iaload, 1) := by decide +kernel
theorem dX10_goThrough_142 : decode cX10_goThrough 142 = .ok (.iconst 1, 1) := by decide +kernel
theorem dX10_goThrough_143 : decode cX10_goThrough 143 = .ok (.iadd, 1) := by decide +kernel
theorem dX10_goThrough_144 : decode cX10_goThrough 144 = .ok (.iastore, 1) := by decide +kernel
theorem dX10_goThrough_145 : decode cX10_goThrough 145 = .ok (.goto (-30), 3) := by decide +kernel
theorem dX10_goThrough_148 : decode cX10_goThrough 148 = .ok (.aload_n 0, 1) := by decide +kernel
theorem dX10_goThrough_149 : decode cX10_goThrough 149 = .ok (.getfield 34, 3) := by decide +kernel
theorem dX10_goThrough_152 : decode cX10_goThrough 152 = .ok (.iload_n 2, 1) := by decide +kernel
theorem dX10_goThrough_153 : decode cX10_goThrough 153 = .ok (.iaload, 1) := by decide +kernel
theorem dX10_goThrough_154 : decode cX10_goThrough 154 = .ok (.bipush 10, 2) := by decide +kernel
theorem dX10_goThrough_156 : decode cX10_goThrough 156 = .ok (.if_icmp .le 9, 3) := by decide +kernel
theorem dX10_goThrough_159 : decode cX10_goThrough 159 = .ok (.iinc 2 (-1), 3) := by decide +kernel
theorem dX10_goThrough_162 : decode cX10_goThrough 162 = .ok (.goto (-79), 3) := by decide +kernel
theorem dX10_goThrough_165 : decode cX10_goThrough 165 = .ok (.iinc 2 1, 3) := by decide +kernel
theorem dX10_goThrough_168 : decode cX10_goThrough 168 = .ok (.iload_n 2, 1) := by decide +kernel
theorem dX10_goThrough_169 : decode cX10_goThrough 169 = .ok (.aload_n 0, 1) := by decide +kernel
theorem dX10_goThrough_170 : decode cX10_goThrough 170 = .ok (.getfield 135, 3) := by decide +kernel
theorem dX10_goThrough_173 : decode cX10_goThrough 173 = .ok (.if_icmp .ge (-90), 3) := by decide +kernel
theorem dX10_goThrough_176 : decode cX10_goThrough 176 = .ok (.aload_n 0, 1) := by decide +kernel
theorem dX10_goThrough_177 : decode cX10_goThrough 177 = .ok (.getfield 34, 3) := by decide +kernel
theorem dX10_goThrough_180 : decode cX10_goThrough 180 = .ok (.iload_n 2, 1) := by decide +kernel
theorem dX10_goThrough_181 : decode cX10_goThrough 181 = .ok (.iconst (-1), 1) := by decide +kernel
theorem dX10_goThrough_182 : decode cX10_goThrough 182 = .ok (.iastore, 1) := by decide +kernel
theorem dX10_goThrough_183 : decode cX10_goThrough 183 = .ok (.goto (-100), 3) := by decide +kernel
theorem dX10_goThrough_186 : decode cX10_goThrough 186 = .ok (.return_, 1) := by decide +kernel
theorem dX10_bestOfSet_0 : decode cX10_bestOfSet 0 = .ok (.iconst 0, 1) := by decide +kernel
theorem dX10_bestOfSet_1 : decode cX10_bestOfSet 1 = .ok (.istore_n 2, 1) := by decide +kernel
theorem dX10_bestOfSet_2 : decode cX10_bestOfSet 2 = .ok (.iconst 0, 1) := by decide +kernel
theorem dX10_bestOfSet_3 : decode cX10_bestOfSet 3 = .ok (.istore_n 3, 1) := by decide +kernel
theorem dX10_bestOfSet_4 : decode cX10_bestOfSet 4 = .ok (.iload_n 3, 1) := by decide +kernel
theorem dX10_bestOfSet_5 : decode cX10_bestOfSet 5 = .ok (.iconst 1, 1) := by decide +kernel
theorem dX10_bestOfSet_6 : decode cX10_bestOfSet 6 = .ok (.aload_n 0, 1) := by decide +kernel
theorem dX10_bestOfSet_7 : decode cX10_bestOfSet 7 = .ok (.getfield 135, 3) := by decide +kernel
theorem dX10_bestOfSet_10 : decode cX10_bestOfSet 10 = .ok (.ishl, 1) := by decide +kernel
theorem dX10_bestOfSet_11 : decode cX10_bestOfSet 11 = .ok (.if_icmp .ge 45, 3) := by decide +kernel
theorem dX10_bestOfSet_14 : decode cX10_bestOfSet 14 = .ok (.aload_n 0, 1) := by decide +kernel
theorem dX10_bestOfSet_15 : decode cX10_bestOfSet 15 = .ok (.getfield 40, 3) := by decide +kernel
theorem dX10_bestOfSet_18 : decode cX10_bestOfSet 18 = .ok (.iload_n 3, 1) := by decide +kernel
theorem dX10_bestOfSet_19 : decode cX10_bestOfSet 19 = .ok (.baload, 1) := by decide +kernel
theorem dX10_bestOfSet_20 : decode cX10_bestOfSet 20 = .ok (.ifCond .eq 28, 3) := by decide +kernel
theorem dX10_bestOfSet_23 : decode cX10_bestOfSet 23 = .ok (.iload_n 3, 1) := by decide +kernel
theorem dX10_bestOfSet_24 : decode cX10_bestOfSet 24 = .ok (.iload_n 1, 1) := by decide +kernel
theorem dX10_bestOfSet_25 : decode cX10_bestOfSet 25 = .ok (.iconst (-1), 1) := by decide +kernel
theorem dX10_bestOfSet_26 : decode cX10_bestOfSet 26 = .ok (.ixor, 1) := by decide +kernel
theorem dX10_bestOfSet_27 : decode cX10_bestOfSet 27 = .ok (.iand, 1) := by decide +kernel
theorem dX10_bestOfSet_28 : decode cX10_bestOfSet 28 = .ok (.ifCond .ne 20, 3) := by decide +kernel
theorem dX10_bestOfSet_31 : decode cX10_bestOfSet 31 = .ok (.aload_n 0, 1) := by decide +kernel
theorem dX10_bestOfSet_32 : decode cX10_bestOfSet 32 = .ok (.iload_n 3, 1) := by decide +kernel
theorem dX10_bestOfSet_33 : decode cX10_bestOfSet 33 = .ok (.invokevirtual 199, 3) := by decide +kernel
theorem dX10_bestOfSet_36 : decode cX10_bestOfSet 36 = .ok (.iload_n 2, 1) := by decide +kernel
theorem dX10_bestOfSet_37 : decode cX10_bestOfSet 37 = .ok (.if_icmp .le 11, 3) := by decide +kernel
theorem dX10_bestOfSet_40 : decode cX10_bestOfSet 40 = .ok (.aload_n 0, 1) := by decide +kernel
theorem dX10_bestOfSet_41 : decode cX10_bestOfSet 41 = .ok (.iload_n 3, 1) := by decide +kernel
theorem dX10_bestOfSet_42 : decode cX10_bestOfSet 42 = .ok (.invokevirtual 199, 3) := by decide +kernel
theorem dX10_bestOfSet_45 : decode cX10_bestOfSet 45 = .ok (.goto 4, 3) := by decide +kernel
theorem dX10_bestOfSet_48 : decode cX10_bestOfSet 48 = .ok (.iload_n 2, 1) := by decide +kernel
theorem dX10_bestOfSet_49 : decode cX10_bestOfSet 49 = .ok (.istore_n 2, 1) := by decide +kernel
theorem dX10_bestOfSet_50 : decode cX10_bestOfSet 50 = .ok (.iinc 3 1, 3) := by decide +kernel
theorem dX10_bestOfSet_53 : decode cX10_bestOfSet 53 = .ok (.goto (-49), 3) := by decide +kernel
theorem dX10_bestOfSet_56 : decode cX10_bestOfSet 56 = .ok (.iload_n 2, 1) := by decide +kernel
theorem dX10_bestOfSet_57 : decode cX10_bestOfSet 57 = .ok (.ireturn, 1) := by decide +kernel
theorem dX10_best_0 : decode cX10_best 0 = .ok (.iload_n 1, 1) := by decide +kernel
theorem dX10_best_1 : decode cX10_best 1 = .ok (.i2l, 1) := by decide +kernel
theorem dX10_best_2 : decode cX10_best 2 = .ok (.lconst 0, 1) := by decide +kernel
theorem dX10_best_3 : decode cX10_best 3 = .ok (.iconst 1, 1) := by decide +kernel
theorem dX10_best_4 : decode cX10_best 4 = .ok (.aload_n 0, 1) := by decide +kernel
theorem dX10_best_5 : decode cX10_best 5 = .ok (.getfield 135, 3) := by decide +kernel
theorem dX10_best_8 : decode cX10_best 8 = .ok (.ishl, 1) := by decide +kernel
theorem dX10_best_9 : decode cX10_best 9 = .ok (.iconst 1, 1) := by decide +kernel
theorem dX10_best_10 : decode cX10_best 10 = .ok (.isub, 1) := by decide +kernel
theorem dX10_best_11 : decode cX10_best 11 = .ok (.i2l, 1) := by decide +kernel
theorem dX10_best_12 : decode cX10_best 12 = .ok (.invokestatic 97, 3) := by decide +kernel
theorem dX10_best_15 : decode cX10_best 15 = .ok (.ifCond .ne 6, 3) := by decide +kernel
theorem dX10_best_18 : decode cX10_best 18 = .ok (.bipush (-2), 2) := by decide +kernel
theorem dX10_best_20 : decode cX10_best 20 = .ok (.ireturn, 1) := by decide +kernel
theorem dX10_best_21 : decode cX10_best 21 = .ok (.aload_n 0, 1) := by decide +kernel
theorem dX10_best_22 : decode cX10_best 22 = .ok (.iconst 0, 1) := by decide +kernel
theorem dX10_best_23 : decode cX10_best 23 = .ok (.invokevirtual 237, 3) := by decide +kernel
theorem dX10_best_26 : decode cX10_best 26 = .ok (.aload_n 0, 1) := by decide +kernel
theorem dX10_best_27 : decode cX10_best 27 = .ok (.iload_n 1, 1) := by decide +kernel
theorem dX10_best_28 : decode cX10_best 28 = .ok (.invokevirtual 241, 3) := by decide +kernel
theorem dX10_best_31 : decode cX10_best 31 = .ok (.ireturn, 1) := by decide +kernel
theorem dX10_bestOf_0 : decode cX10_bestOf 0 = .ok (.aload_n 0, 1) := by decide +kernel
theorem dX10_bestOf_1 : decode cX10_bestOf 1 = .ok (.iload_n 1, 1) := by decide +kernel
theorem dX10_bestOf_2 : decode cX10_bestOf 2 = .ok (.invokevirtual 174, 3) := by decide +kernel
theorem dX10_bestOf_5 : decode cX10_bestOf 5 = .ok (.ifCond .ne 5, 3) := by decide +kernel
theorem dX10_bestOf_8 : decode cX10_bestOf 8 = .ok (.iconst (-1), 1) := by decide +kernel
theorem dX10_bestOf_9 : decode cX10_bestOf 9 = .ok (.ireturn, 1) := by decide +kernel
theorem dX10_bestOf_10 : decode cX10_bestOf 10 = .ok (.aload_n 0, 1) := by decide +kernel
theorem dX10_bestOf_11 : decode cX10_bestOf 11 = .ok (.iconst 0, 1) := by decide +kernel
theorem dX10_bestOf_12 : decode cX10_bestOf 12 = .ok (.invokevirtual 237, 3) := by decide +kernel
theorem dX10_bestOf_15 : decode cX10_bestOf 15 = .ok (.aload_n 0, 1) := by decide +kernel
theorem dX10_bestOf_16 : decode cX10_bestOf 16 = .ok (.getfield 37, 3) := by decide +kernel
theorem dX10_bestOf_19 : decode cX10_bestOf 19 = .ok (.iload_n 1, 1) := by decide +kernel
theorem dX10_bestOf_20 : decode cX10_bestOf 20 = .ok (.iaload, 1) := by decide +kernel
theorem dX10_bestOf_21 : decode cX10_bestOf 21 = .ok (.ifCond .ne 8, 3) := by decide +kernel
theorem dX10_bestOf_24 : decode cX10_bestOf 24 = .ok (.bipush (-9), 2) := by decide +kernel
theorem dX10_bestOf_26 : decode cX10_bestOf 26 = .ok (.goto 11, 3) := by decide +kernel
theorem dX10_bestOf_29 : decode cX10_bestOf 29 = .ok (.aload_n 0, 1) := by decide +kernel
theorem dX10_bestOf_30 : decode cX10_bestOf 30 = .ok (.getfield 37, 3) := by decide +kernel
theorem dX10_bestOf_33 : decode cX10_bestOf 33 = .ok (.iload_n 1, 1) := by decide +kernel
theorem dX10_bestOf_34 : decode cX10_bestOf 34 = .ok (.iaload, 1) := by decide +kernel
theorem dX10_bestOf_35 : decode cX10_bestOf 35 = .ok (.iconst 1, 1) := by decide +kernel
theorem dX10_bestOf_36 : decode cX10_bestOf 36 = .ok (.isub, 1) := by decide +kernel
theorem dX10_bestOf_37 : decode cX10_bestOf 37 = .ok (.ireturn, 1) := by decide +kernel
theorem dX10_beside_0 : decode cX10_beside 0 = .ok (.aload_n 0, 1) := by decide +kernel
theorem dX10_beside_1 : decode cX10_beside 1 = .ok (.iconst 1, 1) := by decide +kernel
theorem dX10_beside_2 : decode cX10_beside 2 = .ok (.invokevirtual 237, 3) := by decide +kernel
theorem dX10_beside_5 : decode cX10_beside 5 = .ok (.aload_n 0, 1) := by decide +kernel
theorem dX10_beside_6 : decode cX10_beside 6 = .ok (.getfield 208, 3) := by decide +kernel
theorem dX10_beside_9 : decode cX10_beside 9 = .ok (.aload_n 0, 1) := by decide +kernel
theorem dX10_beside_10 : decode cX10_beside 10 = .ok (.aload_n 0, 1) := by decide +kernel
theorem dX10_beside_11 : decode cX10_beside 11 = .ok (.invokevirtual 196, 3) := by decide +kernel
theorem dX10_beside_14 : decode cX10_beside 14 = .ok (.invokevirtual 199, 3) := by decide +kernel
theorem dX10_beside_17 : decode cX10_beside 17 = .ok (.isub, 1) := by decide +kernel
theorem dX10_beside_18 : decode cX10_beside 18 = .ok (.ireturn, 1) := by decide +kernel
theorem dX10_price_0 : decode cX10_price 0 = .ok (.aload_n 0, 1) := by decide +kernel
theorem dX10_price_1 : decode cX10_price 1 = .ok (.iload_n 1, 1) := by decide +kernel
theorem dX10_price_2 : decode cX10_price 2 = .ok (.invokevirtual 174, 3) := by decide +kernel
theorem dX10_price_5 : decode cX10_price 5 = .ok (.ifCond .ne 5, 3) := by decide +kernel
theorem dX10_price_8 : decode cX10_price 8 = .ok (.iconst (-1), 1) := by decide +kernel
theorem dX10_price_9 : decode cX10_price 9 = .ok (.ireturn, 1) := by decide +kernel
theorem dX10_price_10 : decode cX10_price 10 = .ok (.aload_n 0, 1) := by decide +kernel
theorem dX10_price_11 : decode cX10_price 11 = .ok (.iconst 0, 1) := by decide +kernel
theorem dX10_price_12 : decode cX10_price 12 = .ok (.invokevirtual 237, 3) := by decide +kernel
theorem dX10_price_15 : decode cX10_price 15 = .ok (.aload_n 0, 1) := by decide +kernel
theorem dX10_price_16 : decode cX10_price 16 = .ok (.getfield 37, 3) := by decide +kernel
theorem dX10_price_19 : decode cX10_price 19 = .ok (.iload_n 1, 1) := by decide +kernel
theorem dX10_price_20 : decode cX10_price 20 = .ok (.iaload, 1) := by decide +kernel
theorem dX10_price_21 : decode cX10_price 21 = .ok (.ifCond .ne 6, 3) := by decide +kernel
theorem dX10_price_24 : decode cX10_price 24 = .ok (.bipush (-9), 2) := by decide +kernel
theorem dX10_price_26 : decode cX10_price 26 = .ok (.ireturn, 1) := by decide +kernel
theorem dX10_price_27 : decode cX10_price 27 = .ok (.aload_n 0, 1) := by decide +kernel
theorem dX10_price_28 : decode cX10_price 28 = .ok (.iconst 1, 1) := by decide +kernel
theorem dX10_price_29 : decode cX10_price 29 = .ok (.aload_n 0, 1) := by decide +kernel
theorem dX10_price_30 : decode cX10_price 30 = .ok (.getfield 135, 3) := by decide +kernel
theorem dX10_price_33 : decode cX10_price 33 = .ok (.ishl, 1) := by decide +kernel
theorem dX10_price_34 : decode cX10_price 34 = .ok (.iconst 1, 1) := by decide +kernel
theorem dX10_price_35 : decode cX10_price 35 = .ok (.isub, 1) := by decide +kernel
theorem dX10_price_36 : decode cX10_price 36 = .ok (.iconst 1, 1) := by decide +kernel
theorem dX10_price_37 : decode cX10_price 37 = .ok (.iload_n 1, 1) := by decide +kernel
theorem dX10_price_38 : decode cX10_price 38 = .ok (.ishl, 1) := by decide +kernel
theorem dX10_price_39 : decode cX10_price 39 = .ok (.iconst (-1), 1) := by decide +kernel
theorem dX10_price_40 : decode cX10_price 40 = .ok (.ixor, 1) := by decide +kernel
theorem dX10_price_41 : decode cX10_price 41 = .ok (.iand, 1) := by decide +kernel
theorem dX10_price_42 : decode cX10_price 42 = .ok (.invokevirtual 241, 3) := by decide +kernel
theorem dX10_price_45 : decode cX10_price 45 = .ok (.aload_n 0, 1) := by decide +kernel
theorem dX10_price_46 : decode cX10_price 46 = .ok (.getfield 208, 3) := by decide +kernel
theorem dX10_price_49 : decode cX10_price 49 = .ok (.aload_n 0, 1) := by decide +kernel
theorem dX10_price_50 : decode cX10_price 50 = .ok (.getfield 16, 3) := by decide +kernel
theorem dX10_price_53 : decode cX10_price 53 = .ok (.bipush 6, 2) := by decide +kernel
theorem dX10_price_55 : decode cX10_price 55 = .ok (.iload_n 1, 1) := by decide +kernel
theorem dX10_price_56 : decode cX10_price 56 = .ok (.imul, 1) := by decide +kernel
theorem dX10_price_57 : decode cX10_price 57 = .ok (.iconst 5, 1) := by decide +kernel
theorem dX10_price_58 : decode cX10_price 58 = .ok (.iadd, 1) := by decide +kernel
theorem dX10_price_59 : decode cX10_price 59 = .ok (.iaload, 1) := by decide +kernel
theorem dX10_price_60 : decode cX10_price 60 = .ok (.isub, 1) := by decide +kernel
theorem dX10_price_61 : decode cX10_price 61 = .ok (.isub, 1) := by decide +kernel
theorem dX10_price_62 : decode cX10_price 62 = .ok (.ireturn, 1) := by decide +kernel
theorem dX10_many_0 : decode cX10_many 0 = .ok (.aload_n 0, 1) := by decide +kernel
theorem dX10_many_1 : decode cX10_many 1 = .ok (.iconst 0, 1) := by decide +kernel
theorem dX10_many_2 : decode cX10_many 2 = .ok (.invokevirtual 237, 3) := by decide +kernel
theorem dX10_many_5 : decode cX10_many 5 = .ok (.iconst 0, 1) := by decide +kernel
theorem dX10_many_6 : decode cX10_many 6 = .ok (.istore_n 1, 1) := by decide +kernel
theorem dX10_many_7 : decode cX10_many 7 = .ok (.iconst 0, 1) := by decide +kernel
theorem dX10_many_8 : decode cX10_many 8 = .ok (.istore_n 2, 1) := by decide +kernel
theorem dX10_many_9 : decode cX10_many 9 = .ok (.iload_n 2, 1) := by decide +kernel
theorem dX10_many_10 : decode cX10_many 10 = .ok (.bipush 32, 2) := by decide +kernel
theorem dX10_many_12 : decode cX10_many 12 = .ok (.if_icmp .ge 35, 3) := by decide +kernel
theorem dX10_many_15 : decode cX10_many 15 = .ok (.aload_n 0, 1) := by decide +kernel
theorem dX10_many_16 : decode cX10_many 16 = .ok (.getfield 40, 3) := by decide +kernel
theorem dX10_many_19 : decode cX10_many 19 = .ok (.iload_n 2, 1) := by decide +kernel
theorem dX10_many_20 : decode cX10_many 20 = .ok (.baload, 1) := by decide +kernel
theorem dX10_many_21 : decode cX10_many 21 = .ok (.ifCond .eq 18, 3) := by decide +kernel
theorem dX10_many_24 : decode cX10_many 24 = .ok (.iload_n 2, 1) := by decide +kernel
theorem dX10_many_25 : decode cX10_many 25 = .ok (.invokestatic 244, 3) := by decide +kernel
theorem dX10_many_28 : decode cX10_many 28 = .ok (.iload_n 1, 1) := by decide +kernel
theorem dX10_many_29 : decode cX10_many 29 = .ok (.if_icmp .le 10, 3) := by decide +kernel
theorem dX10_many_32 : decode cX10_many 32 = .ok (.iload_n 2, 1) := by decide +kernel
theorem dX10_many_33 : decode cX10_many 33 = .ok (.invokestatic 244, 3) := by decide +kernel
theorem dX10_many_36 : decode cX10_many 36 = .ok (.goto 4, 3) := by decide +kernel
theorem dX10_many_39 : decode cX10_many 39 = .ok (.iload_n 1, 1) := by decide +kernel
theorem dX10_many_40 : decode cX10_many 40 = .ok (.istore_n 1, 1) := by decide +kernel
theorem dX10_many_41 : decode cX10_many 41 = .ok (.iinc 2 1, 3) := by decide +kernel
theorem dX10_many_44 : decode cX10_many 44 = .ok (.goto (-35), 3) := by decide +kernel
theorem dX10_many_47 : decode cX10_many 47 = .ok (.iload_n 1, 1) := by decide +kernel
theorem dX10_many_48 : decode cX10_many 48 = .ok (.ireturn, 1) := by decide +kernel
theorem dX10_room_0 : decode cX10_room 0 = .ok (.aload_n 0, 1) := by decide +kernel
theorem dX10_room_1 : decode cX10_room 1 = .ok (.iload_n 1, 1) := by decide +kernel
theorem dX10_room_2 : decode cX10_room 2 = .ok (.invokevirtual 174, 3) := by decide +kernel
theorem dX10_room_5 : decode cX10_room 5 = .ok (.ifCond .ne 5, 3) := by decide +kernel
theorem dX10_room_8 : decode cX10_room 8 = .ok (.iconst (-1), 1) := by decide +kernel
theorem dX10_room_9 : decode cX10_room 9 = .ok (.ireturn, 1) := by decide +kernel
theorem dX10_room_10 : decode cX10_room 10 = .ok (.iload_n 2, 1) := by decide +kernel
theorem dX10_room_11 : decode cX10_room 11 = .ok (.i2l, 1) := by decide +kernel
theorem dX10_room_12 : decode cX10_room 12 = .ok (.lconst 0, 1) := by decide +kernel
theorem dX10_room_13 : decode cX10_room 13 = .ok (.lconst 1, 1) := by decide +kernel
theorem dX10_room_14 : decode cX10_room 14 = .ok (.invokestatic 97, 3) := by decide +kernel
theorem dX10_room_17 : decode cX10_room 17 = .ok (.ifCond .ne 6, 3) := by decide +kernel
theorem dX10_room_20 : decode cX10_room 20 = .ok (.bipush (-2), 2) := by decide +kernel
theorem dX10_room_22 : decode cX10_room 22 = .ok (.ireturn, 1) := by decide +kernel
theorem dX10_room_23 : decode cX10_room 23 = .ok (.aload_n 0, 1) := by decide +kernel
theorem dX10_room_24 : decode cX10_room 24 = .ok (.getfield 25, 3) := by decide +kernel
theorem dX10_room_27 : decode cX10_room 27 = .ok (.iload_n 1, 1) := by decide +kernel
theorem dX10_room_28 : decode cX10_room 28 = .ok (.iaload, 1) := by decide +kernel
theorem dX10_room_29 : decode cX10_room 29 = .ok (.bipush (-9), 2) := by decide +kernel
theorem dX10_room_31 : decode cX10_room 31 = .ok (.if_icmp .eq 6, 3) := by decide +kernel
theorem dX10_room_34 : decode cX10_room 34 = .ok (.bipush (-3), 2) := by decide +kernel
theorem dX10_room_36 : decode cX10_room 36 = .ok (.ireturn, 1) := by decide +kernel
theorem dX10_room_37 : decode cX10_room 37 = .ok (.bipush (-9), 2) := by decide +kernel
theorem dX10_room_39 : decode cX10_room 39 = .ok (.istore_n 3, 1) := by decide +kernel
theorem dX10_room_40 : decode cX10_room 40 = .ok (.bipush (-9), 2) := by decide +kernel
theorem dX10_room_42 : decode cX10_room 42 = .ok (.istore 4, 2) := by decide +kernel
theorem dX10_room_44 : decode cX10_room 44 = .ok (.bipush 9, 2) := by decide +kernel
theorem dX10_room_46 : decode cX10_room 46 = .ok (.istore 5, 2) := by decide +kernel
theorem dX10_room_48 : decode cX10_room 48 = .ok (.iload 5, 2) := by decide +kernel
theorem dX10_room_50 : decode cX10_room 50 = .ok (.ifCond .lt 72, 3) := by decide +kernel
theorem dX10_room_53 : decode cX10_room 53 = .ok (.aload_n 0, 1) := by decide +kernel
theorem dX10_room_54 : decode cX10_room 54 = .ok (.iload_n 1, 1) := by decide +kernel
theorem dX10_room_55 : decode cX10_room 55 = .ok (.iload 5, 2) := by decide +kernel
theorem dX10_room_57 : decode cX10_room 57 = .ok (.invokevirtual 171, 3) := by decide +kernel
theorem dX10_room_60 : decode cX10_room 60 = .ok (.ifCond .eq 56, 3) := by decide +kernel
theorem dX10_room_63 : decode cX10_room 63 = .ok (.aload_n 0, 1) := by decide +kernel
theorem dX10_room_64 : decode cX10_room 64 = .ok (.aload_n 0, 1) := by decide +kernel
theorem dX10_room_65 : decode cX10_room 65 = .ok (.iload_n 1, 1) := by decide +kernel
theorem dX10_room_66 : decode cX10_room 66 = .ok (.iload 5, 2) := by decide +kernel
theorem dX10_room_68 : decode cX10_room 68 = .ok (.invokevirtual 184, 3) := by decide +kernel
theorem dX10_room_71 : decode cX10_room 71 = .ok (.invokevirtual 199, 3) := by decide +kernel
theorem dX10_room_74 : decode cX10_room 74 = .ok (.istore 6, 2) := by decide +kernel
theorem dX10_room_76 : decode cX10_room 76 = .ok (.iload_n 3, 1) := by decide +kernel
theorem dX10_room_77 : decode cX10_room 77 = .ok (.bipush (-9), 2) := by decide +kernel
theorem dX10_room_79 : decode cX10_room 79 = .ok (.if_icmp .eq 9, 3) := by decide +kernel
theorem dX10_room_82 : decode cX10_room 82 = .ok (.iload 6, 2) := by decide +kernel
theorem dX10_room_84 : decode cX10_room 84 = .ok (.iload_n 3, 1) := by decide +kernel
theorem dX10_room_85 : decode cX10_room 85 = .ok (.if_icmp .gt 8, 3) := by decide +kernel
theorem dX10_room_88 : decode cX10_room 88 = .ok (.iload 5, 2) := by decide +kernel
theorem dX10_room_90 : decode cX10_room 90 = .ok (.goto 5, 3) := by decide +kernel
theorem dX10_room_93 : decode cX10_room 93 = .ok (.iload 4, 2) := by decide +kernel
theorem dX10_room_95 : decode cX10_room 95 = .ok (.istore 4, 2) := by decide +kernel
theorem dX10_room_97 : decode cX10_room 97 = .ok (.iload_n 3, 1) := by decide +kernel
theorem dX10_room_98 : decode cX10_room 98 = .ok (.bipush (-9), 2) := by decide +kernel
theorem dX10_room_100 : decode cX10_room 100 = .ok (.if_icmp .eq 9, 3) := by decide +kernel
theorem dX10_room_103 : decode cX10_room 103 = .ok (.iload 6, 2) := by decide +kernel
theorem dX10_room_105 : decode cX10_room 105 = .ok (.iload_n 3, 1) := by decide +kernel
theorem dX10_room_106 : decode cX10_room 106 = .ok (.if_icmp .gt 8, 3) := by decide +kernel
theorem dX10_room_109 : decode cX10_room 109 = .ok (.iload 6, 2) := by decide +kernel
theorem dX10_room_111 : decode cX10_room 111 = .ok (.goto 4, 3) := by decide +kernel
theorem dX10_room_114 : decode cX10_room 114 = .ok (.iload_n 3, 1) := by decide +kernel
theorem dX10_room_115 : decode cX10_room 115 = .ok (.istore_n 3, 1) := by decide +kernel
theorem dX10_room_116 : decode cX10_room 116 = .ok (.iinc 5 (-1), 3) := by decide +kernel
theorem dX10_room_119 : decode cX10_room 119 = .ok (.goto (-71), 3) := by decide +kernel
theorem dX10_room_122 : decode cX10_room 122 = .ok (.iload_n 2, 1) := by decide +kernel
theorem dX10_room_123 : decode cX10_room 123 = .ok (.ifCond .ne 7, 3) := by decide +kernel
theorem dX10_room_126 : decode cX10_room 126 = .ok (.iload_n 3, 1) := by decide +kernel
theorem dX10_room_127 : decode cX10_room 127 = .ok (.goto 5, 3) := by decide +kernel
theorem dX10_room_130 : decode cX10_room 130 = .ok (.iload 4, 2) := by decide +kernel
theorem dX10_room_132 : decode cX10_room 132 = .ok (.ireturn, 1) := by decide +kernel
theorem dX10_layStrokes_0 : decode cX10_layStrokes 0 = .ok (.aload_n 0, 1) := by decide +kernel
theorem dX10_layStrokes_1 : decode cX10_layStrokes 1 = .ok (.iconst 0, 1) := by decide +kernel
theorem dX10_layStrokes_2 : decode cX10_layStrokes 2 = .ok (.putfield 247, 3) := by decide +kernel
theorem dX10_layStrokes_5 : decode cX10_layStrokes 5 = .ok (.iconst 0, 1) := by decide +kernel
theorem dX10_layStrokes_6 : decode cX10_layStrokes 6 = .ok (.istore_n 1, 1) := by decide +kernel
theorem dX10_layStrokes_7 : decode cX10_layStrokes 7 = .ok (.iload_n 1, 1) := by decide +kernel
theorem dX10_layStrokes_8 : decode cX10_layStrokes 8 = .ok (.aload_n 0, 1) := by decide +kernel
theorem dX10_layStrokes_9 : decode cX10_layStrokes 9 = .ok (.getfield 135, 3) := by decide +kernel
theorem dX10_layStrokes_12 : decode cX10_layStrokes 12 = .ok (.if_icmp .ge 121, 3) := by decide +kernel
theorem dX10_layStrokes_15 : decode cX10_layStrokes 15 = .ok (.iconst 0, 1) := by decide +kernel
theorem dX10_layStrokes_16 : decode cX10_layStrokes 16 = .ok (.istore_n 2, 1) := by decide +kernel
theorem dX10_layStrokes_17 : decode cX10_layStrokes 17 = .ok (.iload_n 2, 1) := by decide +kernel
theorem dX10_layStrokes_18 : decode cX10_layStrokes 18 = .ok (.aload_n 0, 1) := by decide +kernel
theorem dX10_layStrokes_19 : decode cX10_layStrokes 19 = .ok (.getfield 16, 3) := by decide +kernel
theorem dX10_layStrokes_22 : decode cX10_layStrokes 22 = .ok (.bipush 6, 2) := by decide +kernel
theorem dX10_layStrokes_24 : decode cX10_layStrokes 24 = .ok (.iload_n 1, 1) := by decide +kernel
theorem dX10_layStrokes_25 : decode cX10_layStrokes 25 = .ok (.imul, 1) := by decide +kernel
theorem dX10_layStrokes_26 : decode cX10_layStrokes 26 = .ok (.iconst 1, 1) := by decide +kernel
theorem dX10_layStrokes_27 : decode cX10_layStrokes 27 = .ok (.iadd, 1) := by decide +kernel
theorem dX10_layStrokes_28 : decode cX10_layStrokes 28 = .ok (.iaload, 1) := by decide +kernel
theorem dX10_layStrokes_29 : decode cX10_layStrokes 29 = .ok (.if_icmp .ge 98, 3) := by decide +kernel
theorem dX10_layStrokes_32 : decode cX10_layStrokes 32 = .ok (.aload_n 0, 1) := by decide +kernel
theorem dX10_layStrokes_33 : decode cX10_layStrokes 33 = .ok (.getfield 25, 3) := by decide +kernel
theorem dX10_layStrokes_36 : decode cX10_layStrokes 36 = .ok (.iload_n 1, 1) := by decide +kernel
theorem dX10_layStrokes_37 : decode cX10_layStrokes 37 = .ok (.iaload, 1) := by decide +kernel
theorem dX10_layStrokes_38 : decode cX10_layStrokes 38 = .ok (.bipush (-9), 2) := by decide +kernel
theorem dX10_layStrokes_40 : decode cX10_layStrokes 40 = .ok (.if_icmp .eq 87, 3) := by decide +kernel
theorem dX10_layStrokes_43 : decode cX10_layStrokes 43 = .ok (.aload_n 0, 1) := by decide +kernel
theorem dX10_layStrokes_44 : decode cX10_layStrokes 44 = .ok (.getfield 16, 3) := by decide +kernel
theorem dX10_layStrokes_47 : decode cX10_layStrokes 47 = .ok (.bipush 6, 2) := by decide +kernel
theorem dX10_layStrokes_49 : decode cX10_layStrokes 49 = .ok (.iload_n 1, 1) := by decide +kernel
theorem dX10_layStrokes_50 : decode cX10_layStrokes 50 = .ok (.imul, 1) := by decide +kernel
theorem dX10_layStrokes_51 : decode cX10_layStrokes 51 = .ok (.iaload, 1) := by decide +kernel
theorem dX10_layStrokes_52 : decode cX10_layStrokes 52 = .ok (.istore_n 3, 1) := by decide +kernel
theorem dX10_layStrokes_53 : decode cX10_layStrokes 53 = .ok (.aload_n 0, 1) := by decide +kernel
theorem dX10_layStrokes_54 : decode cX10_layStrokes 54 = .ok (.getfield 59, 3) := by decide +kernel
theorem dX10_layStrokes_57 : decode cX10_layStrokes 57 = .ok (.aload_n 0, 1) := by decide +kernel
theorem dX10_layStrokes_58 : decode cX10_layStrokes 58 = .ok (.getfield 247, 3) := by decide +kernel
theorem dX10_layStrokes_61 : decode cX10_layStrokes 61 = .ok (.aload_n 0, 1) := by decide +kernel
theorem dX10_layStrokes_62 : decode cX10_layStrokes 62 = .ok (.iload_n 1, 1) := by decide +kernel
theorem dX10_layStrokes_63 : decode cX10_layStrokes 63 = .ok (.aload_n 0, 1) := by decide +kernel
theorem dX10_layStrokes_64 : decode cX10_layStrokes 64 = .ok (.getfield 25, 3) := by decide +kernel
theorem dX10_layStrokes_67 : decode cX10_layStrokes 67 = .ok (.iload_n 1, 1) := by decide +kernel
theorem dX10_layStrokes_68 : decode cX10_layStrokes 68 = .ok (.iaload, 1) := by decide +kernel
theorem dX10_layStrokes_69 : decode cX10_layStrokes 69 = .ok (.iload_n 2, 1) := by decide +kernel
theorem dX10_layStrokes_70 : decode cX10_layStrokes 70 = .ok (.invokevirtual 145, 3) := by decide +kernel
theorem dX10_layStrokes_73 : decode cX10_layStrokes 73 = .ok (.iastore, 1) := by decide +kernel
theorem dX10_layStrokes_74 : decode cX10_layStrokes 74 = .ok (.aload_n 0, 1) := by decide +kernel
theorem dX10_layStrokes_75 : decode cX10_layStrokes 75 = .ok (.getfield 62, 3) := by decide +kernel
theorem dX10_layStrokes_78 : decode cX10_layStrokes 78 = .ok (.aload_n 0, 1) := by decide +kernel
theorem dX10_layStrokes_79 : decode cX10_layStrokes 79 = .ok (.getfield 247, 3) := by decide +kernel
theorem dX10_layStrokes_82 : decode cX10_layStrokes 82 = .ok (.aload_n 0, 1) := by decide +kernel
theorem dX10_layStrokes_83 : decode cX10_layStrokes 83 = .ok (.getfield 59, 3) := by decide +kernel
theorem dX10_layStrokes_86 : decode cX10_layStrokes 86 = .ok (.aload_n 0, 1) := by decide +kernel
theorem dX10_layStrokes_87 : decode cX10_layStrokes 87 = .ok (.getfield 247, 3) := by decide +kernel
theorem dX10_layStrokes_90 : decode cX10_layStrokes 90 = .ok (.iaload, 1) := by decide +kernel
theorem dX10_layStrokes_91 : decode cX10_layStrokes 91 = .ok (.aload_n 0, 1) := by decide +kernel
theorem dX10_layStrokes_92 : decode cX10_layStrokes 92 = .ok (.getfield 7, 3) := by decide +kernel
theorem dX10_layStrokes_95 : decode cX10_layStrokes 95 = .ok (.iload_n 3, 1) := by decide +kernel
theorem dX10_layStrokes_96 : decode cX10_layStrokes 96 = .ok (.iaload, 1) := by decide +kernel
theorem dX10_layStrokes_97 : decode cX10_layStrokes 97 = .ok (.iadd, 1) := by decide +kernel
theorem dX10_layStrokes_98 : decode cX10_layStrokes 98 = .ok (.iconst 1, 1) := by decide +kernel
theorem dX10_layStrokes_99 : decode cX10_layStrokes 99 = .ok (.isub, 1) := by decide +kernel
theorem dX10_layStrokes_100 : decode cX10_layStrokes 100 = .ok (.iastore, 1) := by decide +kernel
theorem dX10_layStrokes_101 : decode cX10_layStrokes 101 = .ok (.aload_n 0, 1) := by decide +kernel
theorem dX10_layStrokes_102 : decode cX10_layStrokes 102 = .ok (.getfield 65, 3) := by decide +kernel
theorem dX10_layStrokes_105 : decode cX10_layStrokes 105 = .ok (.aload_n 0, 1) := by decide +kernel
theorem dX10_layStrokes_106 : decode cX10_layStrokes 106 = .ok (.getfield 247, 3) := by decide +kernel
theorem dX10_layStrokes_109 : decode cX10_layStrokes 109 = .ok (.iload_n 3, 1) := by decide +kernel
theorem dX10_layStrokes_110 : decode cX10_layStrokes 110 = .ok (.iastore, 1) := by decide +kernel
theorem dX10_layStrokes_111 : decode cX10_layStrokes 111 = .ok (.aload_n 0, 1) := by decide +kernel
theorem dX10_layStrokes_112 : decode cX10_layStrokes 112 = .ok (.dup, 1) := by decide +kernel
theorem dX10_layStrokes_113 : decode cX10_layStrokes 113 = .ok (.getfield 247, 3) := by decide +kernel
theorem dX10_layStrokes_116 : decode cX10_layStrokes 116 = .ok (.iconst 1, 1) := by decide +kernel
theorem dX10_layStrokes_117 : decode cX10_layStrokes 117 = .ok (.iadd, 1) := by decide +kernel
theorem dX10_layStrokes_118 : decode cX10_layStrokes 118 = .ok (.putfield 247, 3) := by decide +kernel
theorem dX10_layStrokes_121 : decode cX10_layStrokes 121 = .ok (.iinc 2 1, 3) := by decide +kernel
theorem dX10_layStrokes_124 : decode cX10_layStrokes 124 = .ok (.goto (-107), 3) := by decide +kernel
theorem dX10_layStrokes_127 : decode cX10_layStrokes 127 = .ok (.iinc 1 1, 3) := by decide +kernel
theorem dX10_layStrokes_130 : decode cX10_layStrokes 130 = .ok (.goto (-123), 3) := by decide +kernel
theorem dX10_layStrokes_133 : decode cX10_layStrokes 133 = .ok (.return_, 1) := by decide +kernel
theorem dX10_reaches_0 : decode cX10_reaches 0 = .ok (.aload_n 0, 1) := by decide +kernel
theorem dX10_reaches_1 : decode cX10_reaches 1 = .ok (.getfield 65, 3) := by decide +kernel
theorem dX10_reaches_4 : decode cX10_reaches 4 = .ok (.iload_n 1, 1) := by decide +kernel
theorem dX10_reaches_5 : decode cX10_reaches 5 = .ok (.iaload, 1) := by decide +kernel
theorem dX10_reaches_6 : decode cX10_reaches 6 = .ok (.aload_n 0, 1) := by decide +kernel
theorem dX10_reaches_7 : decode cX10_reaches 7 = .ok (.getfield 65, 3) := by decide +kernel
theorem dX10_reaches_10 : decode cX10_reaches 10 = .ok (.iload_n 2, 1) := by decide +kernel
theorem dX10_reaches_11 : decode cX10_reaches 11 = .ok (.iaload, 1) := by decide +kernel
theorem dX10_reaches_12 : decode cX10_reaches 12 = .ok (.if_icmp .le 19, 3) := by decide +kernel
theorem dX10_reaches_15 : decode cX10_reaches 15 = .ok (.aload_n 0, 1) := by decide +kernel
theorem dX10_reaches_16 : decode cX10_reaches 16 = .ok (.getfield 65, 3) := by decide +kernel
theorem dX10_reaches_19 : decode cX10_reaches 19 = .ok (.iload_n 1, 1) := by decide +kernel
theorem dX10_reaches_20 : decode cX10_reaches 20 = .ok (.iaload, 1) := by decide +kernel
theorem dX10_reaches_21 : decode cX10_reaches 21 = .ok (.aload_n 0, 1) := by decide +kernel
theorem dX10_reaches_22 : decode cX10_reaches 22 = .ok (.getfield 65, 3) := by decide +kernel
theorem dX10_reaches_25 : decode cX10_reaches 25 = .ok (.iload_n 2, 1) := by decide +kernel
theorem dX10_reaches_26 : decode cX10_reaches 26 = .ok (.iaload, 1) := by decide +kernel
theorem dX10_reaches_27 : decode cX10_reaches 27 = .ok (.isub, 1) := by decide +kernel
theorem dX10_reaches_28 : decode cX10_reaches 28 = .ok (.goto 16, 3) := by decide +kernel
theorem dX10_reaches_31 : decode cX10_reaches 31 = .ok (.aload_n 0, 1) := by decide +kernel
theorem dX10_reaches_32 : decode cX10_reaches 32 = .ok (.getfield 65, 3) := by decide +kernel
theorem dX10_reaches_35 : decode cX10_reaches 35 = .ok (.iload_n 2, 1) := by decide +kernel
theorem dX10_reaches_36 : decode cX10_reaches 36 = .ok (.iaload, 1) := by decide +kernel
theorem dX10_reaches_37 : decode cX10_reaches 37 = .ok (.aload_n 0, 1) := by decide +kernel
theorem dX10_reaches_38 : decode cX10_reaches 38 = .ok (.getfield 65, 3) := by decide +kernel
theorem dX10_reaches_41 : decode cX10_reaches 41 = .ok (.iload_n 1, 1) := by decide +kernel
theorem dX10_reaches_42 : decode cX10_reaches 42 = .ok (.iaload, 1) := by decide +kernel
theorem dX10_reaches_43 : decode cX10_reaches 43 = .ok (.isub, 1) := by decide +kernel
theorem dX10_reaches_44 : decode cX10_reaches 44 = .ok (.istore_n 3, 1) := by decide +kernel
theorem dX10_reaches_45 : decode cX10_reaches 45 = .ok (.aload_n 0, 1) := by decide +kernel
theorem dX10_reaches_46 : decode cX10_reaches 46 = .ok (.getfield 62, 3) := by decide +kernel
theorem dX10_reaches_49 : decode cX10_reaches 49 = .ok (.iload_n 1, 1) := by decide +kernel
theorem dX10_reaches_50 : decode cX10_reaches 50 = .ok (.iaload, 1) := by decide +kernel
theorem dX10_reaches_51 : decode cX10_reaches 51 = .ok (.iload_n 3, 1) := by decide +kernel
theorem dX10_reaches_52 : decode cX10_reaches 52 = .ok (.iadd, 1) := by decide +kernel
theorem dX10_reaches_53 : decode cX10_reaches 53 = .ok (.aload_n 0, 1) := by decide +kernel
theorem dX10_reaches_54 : decode cX10_reaches 54 = .ok (.getfield 59, 3) := by decide +kernel
theorem dX10_reaches_57 : decode cX10_reaches 57 = .ok (.iload_n 2, 1) := by decide +kernel
theorem dX10_reaches_58 : decode cX10_reaches 58 = .ok (.iaload, 1) := by decide +kernel
theorem dX10_reaches_59 : decode cX10_reaches 59 = .ok (.if_icmp .ge 7, 3) := by decide +kernel
theorem dX10_reaches_62 : decode cX10_reaches 62 = .ok (.iconst 1, 1) := by decide +kernel
theorem dX10_reaches_63 : decode cX10_reaches 63 = .ok (.goto 4, 3) := by decide +kernel
theorem dX10_reaches_66 : decode cX10_reaches 66 = .ok (.iconst 0, 1) := by decide +kernel
theorem dX10_reaches_67 : decode cX10_reaches 67 = .ok (.ireturn, 1) := by decide +kernel
theorem dX10_grow_0 : decode cX10_grow 0 = .ok (.iconst 0, 1) := by decide +kernel
theorem dX10_grow_1 : decode cX10_grow 1 = .ok (.istore_n 2, 1) := by decide +kernel
theorem dX10_grow_2 : decode cX10_grow 2 = .ok (.iload_n 2, 1) := by decide +kernel
theorem dX10_grow_3 : decode cX10_grow 3 = .ok (.aload_n 0, 1) := by decide +kernel
theorem dX10_grow_4 : decode cX10_grow 4 = .ok (.getfield 247, 3) := by decide +kernel
theorem dX10_grow_7 : decode cX10_grow 7 = .ok (.if_icmp .ge 17, 3) := by decide +kernel
theorem dX10_grow_10 : decode cX10_grow 10 = .ok (.aload_n 0, 1) := by decide +kernel
theorem dX10_grow_11 : decode cX10_grow 11 = .ok (.getfield 74, 3) := by decide +kernel
theorem dX10_grow_14 : decode cX10_grow 14 = .ok (.iload_n 2, 1) := by decide +kernel
theorem dX10_grow_15 : decode cX10_grow 15 = .ok (.bipush (-9), 2) := by decide +kernel
theorem dX10_grow_17 : decode cX10_grow 17 = .ok (.iastore, 1) := by decide +kernel
theorem dX10_grow_18 : decode cX10_grow 18 = .ok (.iinc 2 1, 3) := by decide +kernel
theorem dX10_grow_21 : decode cX10_grow 21 = .ok (.goto (-19), 3) := by decide +kernel
theorem dX10_grow_24 : decode cX10_grow 24 = .ok (.iconst 1, 1) := by decide +kernel
theorem dX10_grow_25 : decode cX10_grow 25 = .ok (.istore_n 2, 1) := by decide +kernel
theorem dX10_grow_26 : decode cX10_grow 26 = .ok (.aload_n 0, 1) := by decide +kernel
theorem dX10_grow_27 : decode cX10_grow 27 = .ok (.getfield 77, 3) := by decide +kernel
theorem dX10_grow_30 : decode cX10_grow 30 = .ok (.iconst 0, 1) := by decide +kernel
theorem dX10_grow_31 : decode cX10_grow 31 = .ok (.iload_n 1, 1) := by decide +kernel
theorem dX10_grow_32 : decode cX10_grow 32 = .ok (.iastore, 1) := by decide +kernel
theorem dX10_grow_33 : decode cX10_grow 33 = .ok (.iconst 0, 1) := by decide +kernel
theorem dX10_grow_34 : decode cX10_grow 34 = .ok (.istore_n 3, 1) := by decide +kernel
theorem dX10_grow_35 : decode cX10_grow 35 = .ok (.iload_n 3, 1) := by decide +kernel
theorem dX10_grow_36 : decode cX10_grow 36 = .ok (.iload_n 2, 1) := by decide +kernel
theorem dX10_grow_37 : decode cX10_grow 37 = .ok (.if_icmp .ge 103, 3) := by decide +kernel
theorem dX10_grow_40 : decode cX10_grow 40 = .ok (.iconst 0, 1) := by decide +kernel
theorem dX10_grow_41 : decode cX10_grow 41 = .ok (.istore 4, 2) := by decide +kernel
theorem dX10_grow_43 : decode cX10_grow 43 = .ok (.iload 4, 2) := by decide +kernel
theorem dX10_grow_45 : decode cX10_grow 45 = .ok (.aload_n 0, 1) := by decide +kernel
theorem dX10_grow_46 : decode cX10_grow 46 = .ok (.getfield 247, 3) := by decide +kernel
theorem dX10_grow_49 : decode cX10_grow 49 = .ok (.if_icmp .ge 85, 3) := by decide +kernel
theorem dX10_grow_52 : decode cX10_grow 52 = .ok (.aload_n 0, 1) := by decide +kernel
theorem dX10_grow_53 : decode cX10_grow 53 = .ok (.getfield 74, 3) := by decide +kernel
theorem dX10_grow_56 : decode cX10_grow 56 = .ok (.iload 4, 2) := by decide +kernel
theorem dX10_grow_58 : decode cX10_grow 58 = .ok (.iaload, 1) := by decide +kernel
theorem dX10_grow_59 : decode cX10_grow 59 = .ok (.bipush (-9), 2) := by decide +kernel
theorem dX10_grow_61 : decode cX10_grow 61 = .ok (.if_icmp .ne 67, 3) := by decide +kernel
theorem dX10_grow_64 : decode cX10_grow 64 = .ok (.aload_n 0, 1) := by decide +kernel
theorem dX10_grow_65 : decode cX10_grow 65 = .ok (.aload_n 0, 1) := by decide +kernel
theorem dX10_grow_66 : decode cX10_grow 66 = .ok (.getfield 77, 3) := by decide +kernel
theorem dX10_grow_69 : decode cX10_grow 69 = .ok (.iload_n 3, 1) := by decide +kernel
theorem dX10_grow_70 : decode cX10_grow 70 = .ok (.iaload, 1) := by decide +kernel
theorem dX10_grow_71 : decode cX10_grow 71 = .ok (.iload 4, 2) := by decide +kernel
theorem dX10_grow_73 : decode cX10_grow 73 = .ok (.invokevirtual 250, 3) := by decide +kernel
theorem dX10_grow_76 : decode cX10_grow 76 = .ok (.ifCond .eq 52, 3) := by decide +kernel
theorem dX10_grow_79 : decode cX10_grow 79 = .ok (.aload_n 0, 1) := by decide +kernel
theorem dX10_grow_80 : decode cX10_grow 80 = .ok (.getfield 74, 3) := by decide +kernel
theorem dX10_grow_83 : decode cX10_grow 83 = .ok (.iload 4, 2) := by decide +kernel
theorem dX10_grow_85 : decode cX10_grow 85 = .ok (.aload_n 0, 1) := by decide +kernel
theorem dX10_grow_86 : decode cX10_grow 86 = .ok (.getfield 77, 3) := by decide +kernel
theorem dX10_grow_89 : decode cX10_grow 89 = .ok (.iload_n 3, 1) := by decide +kernel
theorem dX10_grow_90 : decode cX10_grow 90 = .ok (.iaload, 1) := by decide +kernel
theorem dX10_grow_91 : decode cX10_grow 91 = .ok (.iastore, 1) := by decide +kernel
theorem dX10_grow_92 : decode cX10_grow 92 = .ok (.aload_n 0, 1) := by decide +kernel
theorem dX10_grow_93 : decode cX10_grow 93 = .ok (.getfield 71, 3) := by decide +kernel
theorem dX10_grow_96 : decode cX10_grow 96 = .ok (.iload 4, 2) := by decide +kernel
theorem dX10_grow_98 : decode cX10_grow 98 = .ok (.iaload, 1) := by decide +kernel
theorem dX10_grow_99 : decode cX10_grow 99 = .ok (.bipush (-9), 2) := by decide +kernel
theorem dX10_grow_101 : decode cX10_grow 101 = .ok (.if_icmp .ne 11, 3) := by decide +kernel
theorem dX10_grow_104 : decode cX10_grow 104 = .ok (.aload_n 0, 1) := by decide +kernel
theorem dX10_grow_105 : decode cX10_grow 105 = .ok (.iload 4, 2) := by decide +kernel
theorem dX10_grow_107 : decode cX10_grow 107 = .ok (.invokevirtual 253, 3) := by decide +kernel
theorem dX10_grow_110 : decode cX10_grow 110 = .ok (.iconst 1, 1) := by decide +kernel
theorem dX10_grow_111 : decode cX10_grow 111 = .ok (.ireturn, 1) := by decide +kernel
theorem dX10_grow_112 : decode cX10_grow 112 = .ok (.aload_n 0, 1) := by decide +kernel
theorem dX10_grow_113 : decode cX10_grow 113 = .ok (.getfield 77, 3) := by decide +kernel
theorem dX10_grow_116 : decode cX10_grow 116 = .ok (.iload_n 2, 1) := by decide +kernel
theorem dX10_grow_117 : decode cX10_grow 117 = .ok (.aload_n 0, 1) := by decide +kernel
theorem dX10_grow_118 : decode cX10_grow 118 = .ok (.getfield 71, 3) := by decide +kernel
theorem dX10_grow_121 : decode cX10_grow 121 = .ok (.iload 4, 2) := by decide +kernel
theorem dX10_grow_123 : decode cX10_grow 123 = .ok (.iaload, 1) := by decide +kernel
theorem dX10_grow_124 : decode cX10_grow 124 = .ok (.iastore, 1) := by decide +kernel
theorem dX10_grow_125 : decode cX10_grow 125 = .ok (.iinc 2 1, 3) := by decide +kernel
theorem dX10_grow_128 : decode cX10_grow 128 = .ok (.iinc 4 1, 3) := by decide +kernel
theorem dX10_grow_131 : decode cX10_grow 131 = .ok (.goto (-88), 3) := by decide +kernel
theorem dX10_grow_134 : decode cX10_grow 134 = .ok (.iinc 3 1, 3) := by decide +kernel
theorem dX10_grow_137 : decode cX10_grow 137 = .ok (.goto (-102), 3) := by decide +kernel
theorem dX10_grow_140 : decode cX10_grow 140 = .ok (.iconst 0, 1) := by decide +kernel
theorem dX10_grow_141 : decode cX10_grow 141 = .ok (.ireturn, 1) := by decide +kernel
theorem dX10_turn_0 : decode cX10_turn 0 = .ok (.iload_n 1, 1) := by decide +kernel
theorem dX10_turn_1 : decode cX10_turn 1 = .ok (.istore_n 2, 1) := by decide +kernel
theorem dX10_turn_2 : decode cX10_turn 2 = .ok (.iload_n 2, 1) := by decide +kernel
theorem dX10_turn_3 : decode cX10_turn 3 = .ok (.bipush (-9), 2) := by decide +kernel
theorem dX10_turn_5 : decode cX10_turn 5 = .ok (.if_icmp .eq 38, 3) := by decide +kernel
theorem dX10_turn_8 : decode cX10_turn 8 = .ok (.aload_n 0, 1) := by decide +kernel
theorem dX10_turn_9 : decode cX10_turn 9 = .ok (.getfield 74, 3) := by decide +kernel
theorem dX10_turn_12 : decode cX10_turn 12 = .ok (.iload_n 2, 1) := by decide +kernel
theorem dX10_turn_13 : decode cX10_turn 13 = .ok (.iaload, 1) := by decide +kernel
theorem dX10_turn_14 : decode cX10_turn 14 = .ok (.istore_n 3, 1) := by decide +kernel
theorem dX10_turn_15 : decode cX10_turn 15 = .ok (.aload_n 0, 1) := by decide +kernel
theorem dX10_turn_16 : decode cX10_turn 16 = .ok (.getfield 68, 3) := by decide +kernel
theorem dX10_turn_19 : decode cX10_turn 19 = .ok (.iload_n 3, 1) := by decide +kernel
theorem dX10_turn_20 : decode cX10_turn 20 = .ok (.iaload, 1) := by decide +kernel
theorem dX10_turn_21 : decode cX10_turn 21 = .ok (.istore 4, 2) := by decide +kernel
theorem dX10_turn_23 : decode cX10_turn 23 = .ok (.aload_n 0, 1) := by decide +kernel
theorem dX10_turn_24 : decode cX10_turn 24 = .ok (.getfield 68, 3) := by decide +kernel
theorem dX10_turn_27 : decode cX10_turn 27 = .ok (.iload_n 3, 1) := by decide +kernel
theorem dX10_turn_28 : decode cX10_turn 28 = .ok (.iload_n 2, 1) := by decide +kernel
theorem dX10_turn_29 : decode cX10_turn 29 = .ok (.iastore, 1) := by decide +kernel
theorem dX10_turn_30 : decode cX10_turn 30 = .ok (.aload_n 0, 1) := by decide +kernel
theorem dX10_turn_31 : decode cX10_turn 31 = .ok (.getfield 71, 3) := by decide +kernel
theorem dX10_turn_34 : decode cX10_turn 34 = .ok (.iload_n 2, 1) := by decide +kernel
theorem dX10_turn_35 : decode cX10_turn 35 = .ok (.iload_n 3, 1) := by decide +kernel
theorem dX10_turn_36 : decode cX10_turn 36 = .ok (.iastore, 1) := by decide +kernel
theorem dX10_turn_37 : decode cX10_turn 37 = .ok (.iload 4, 2) := by decide +kernel
theorem dX10_turn_39 : decode cX10_turn 39 = .ok (.istore_n 2, 1) := by decide +kernel
theorem dX10_turn_40 : decode cX10_turn 40 = .ok (.goto (-38), 3) := by decide +kernel
theorem dX10_turn_43 : decode cX10_turn 43 = .ok (.return_, 1) := by decide +kernel
theorem dX10_hands_0 : decode cX10_hands 0 = .ok (.aload_n 0, 1) := by decide +kernel
theorem dX10_hands_1 : decode cX10_hands 1 = .ok (.invokevirtual 256, 3) := by decide +kernel
theorem dX10_hands_4 : decode cX10_hands 4 = .ok (.iconst 0, 1) := by decide +kernel
theorem dX10_hands_5 : decode cX10_hands 5 = .ok (.istore_n 1, 1) := by decide +kernel
theorem dX10_hands_6 : decode cX10_hands 6 = .ok (.iload_n 1, 1) := by decide +kernel
theorem dX10_hands_7 : decode cX10_hands 7 = .ok (.aload_n 0, 1) := by decide +kernel
theorem dX10_hands_8 : decode cX10_hands 8 = .ok (.getfield 247, 3) := by decide +kernel
theorem dX10_hands_11 : decode cX10_hands 11 = .ok (.if_icmp .ge 25, 3) := by decide +kernel
theorem dX10_hands_14 : decode cX10_hands 14 = .ok (.aload_n 0, 1) := by decide +kernel
theorem dX10_hands_15 : decode cX10_hands 15 = .ok (.getfield 68, 3) := by decide +kernel
theorem dX10_hands_18 : decode cX10_hands 18 = .ok (.iload_n 1, 1) := by decide +kernel
theorem dX10_hands_19 : decode cX10_hands 19 = .ok (.bipush (-9), 2) := by decide +kernel
theorem dX10_hands_21 : decode cX10_hands 21 = .ok (.iastore, 1) := by decide +kernel
theorem dX10_hands_22 : decode cX10_hands 22 = .ok (.aload_n 0, 1) := by decide +kernel
theorem dX10_hands_23 : decode cX10_hands 23 = .ok (.getfield 71, 3) := by decide +kernel
theorem dX10_hands_26 : decode cX10_hands 26 = .ok (.iload_n 1, 1) := by decide +kernel
theorem dX10_hands_27 : decode cX10_hands 27 = .ok (.bipush (-9), 2) := by decide +kernel
theorem dX10_hands_29 : decode cX10_hands 29 = .ok (.iastore, 1) := by decide +kernel
theorem dX10_hands_30 : decode cX10_hands 30 = .ok (.iinc 1 1, 3) := by decide +kernel
theorem dX10_hands_33 : decode cX10_hands 33 = .ok (.goto (-27), 3) := by decide +kernel
theorem dX10_hands_36 : decode cX10_hands 36 = .ok (.aload_n 0, 1) := by decide +kernel
theorem dX10_hands_37 : decode cX10_hands 37 = .ok (.getfield 247, 3) := by decide +kernel
theorem dX10_hands_40 : decode cX10_hands 40 = .ok (.istore_n 1, 1) := by decide +kernel
theorem dX10_hands_41 : decode cX10_hands 41 = .ok (.iconst 0, 1) := by decide +kernel
theorem dX10_hands_42 : decode cX10_hands 42 = .ok (.istore_n 2, 1) := by decide +kernel
theorem dX10_hands_43 : decode cX10_hands 43 = .ok (.iload_n 2, 1) := by decide +kernel
theorem dX10_hands_44 : decode cX10_hands 44 = .ok (.aload_n 0, 1) := by decide +kernel
theorem dX10_hands_45 : decode cX10_hands 45 = .ok (.getfield 247, 3) := by decide +kernel
theorem dX10_hands_48 : decode cX10_hands 48 = .ok (.if_icmp .ge 25, 3) := by decide +kernel
theorem dX10_hands_51 : decode cX10_hands 51 = .ok (.iload_n 1, 1) := by decide +kernel
theorem dX10_hands_52 : decode cX10_hands 52 = .ok (.aload_n 0, 1) := by decide +kernel
theorem dX10_hands_53 : decode cX10_hands 53 = .ok (.iload_n 2, 1) := by decide +kernel
theorem dX10_hands_54 : decode cX10_hands 54 = .ok (.invokevirtual 259, 3) := by decide +kernel
theorem dX10_hands_57 : decode cX10_hands 57 = .ok (.ifCond .eq 7, 3) := by decide +kernel
theorem dX10_hands_60 : decode cX10_hands 60 = .ok (.iconst 1, 1) := by decide +kernel
theorem dX10_hands_61 : decode cX10_hands 61 = .ok (.goto 4, 3) := by decide +kernel
theorem dX10_hands_64 : decode cX10_hands 64 = .ok (.iconst 0, 1) := by decide +kernel
theorem dX10_hands_65 : decode cX10_hands 65 = .ok (.isub, 1) := by decide +kernel
theorem dX10_hands_66 : decode cX10_hands 66 = .ok (.istore_n 1, 1) := by decide +kernel
theorem dX10_hands_67 : decode cX10_hands 67 = .ok (.iinc 2 1, 3) := by decide +kernel
theorem dX10_hands_70 : decode cX10_hands 70 = .ok (.goto (-27), 3) := by decide +kernel
theorem dX10_hands_73 : decode cX10_hands 73 = .ok (.iload_n 1, 1) := by decide +kernel
theorem dX10_hands_74 : decode cX10_hands 74 = .ok (.ireturn, 1) := by decide +kernel
theorem dX10_tenTo_0 : decode cX10_tenTo 0 = .ok (.lconst 1, 1) := by decide +kernel
theorem dX10_tenTo_1 : decode cX10_tenTo 1 = .ok (.lstore_n 1, 1) := by decide +kernel
theorem dX10_tenTo_2 : decode cX10_tenTo 2 = .ok (.iconst 0, 1) := by decide +kernel
theorem dX10_tenTo_3 : decode cX10_tenTo 3 = .ok (.istore_n 3, 1) := by decide +kernel
theorem dX10_tenTo_4 : decode cX10_tenTo 4 = .ok (.iload_n 3, 1) := by decide +kernel
theorem dX10_tenTo_5 : decode cX10_tenTo 5 = .ok (.iload_n 0, 1) := by decide +kernel
theorem dX10_tenTo_6 : decode cX10_tenTo 6 = .ok (.if_icmp .ge 15, 3) := by decide +kernel
theorem dX10_tenTo_9 : decode cX10_tenTo 9 = .ok (.lload_n 1, 1) := by decide +kernel
theorem dX10_tenTo_10 : decode cX10_tenTo 10 = .ok (.ldc2_w 262, 3) := by decide +kernel
theorem dX10_tenTo_13 : decode cX10_tenTo 13 = .ok (.lmul, 1) := by decide +kernel
theorem dX10_tenTo_14 : decode cX10_tenTo 14 = .ok (.lstore_n 1, 1) := by decide +kernel
theorem dX10_tenTo_15 : decode cX10_tenTo 15 = .ok (.iinc 3 1, 3) := by decide +kernel
theorem dX10_tenTo_18 : decode cX10_tenTo 18 = .ok (.goto (-14), 3) := by decide +kernel
theorem dX10_tenTo_21 : decode cX10_tenTo 21 = .ok (.lload_n 1, 1) := by decide +kernel
theorem dX10_tenTo_22 : decode cX10_tenTo 22 = .ok (.lreturn, 1) := by decide +kernel
theorem dX10_hold_0 : decode cX10_hold 0 = .ok (.iconst 0, 1) := by decide +kernel
theorem dX10_hold_1 : decode cX10_hold 1 = .ok (.istore_n 2, 1) := by decide +kernel
theorem dX10_hold_2 : decode cX10_hold 2 = .ok (.iload_n 2, 1) := by decide +kernel
theorem dX10_hold_3 : decode cX10_hold 3 = .ok (.iconst 5, 1) := by decide +kernel
theorem dX10_hold_4 : decode cX10_hold 4 = .ok (.if_icmp .ge 40, 3) := by decide +kernel
end
section
theorem dX10_hold_7 : decode cX10_hold 7 = .ok (.iload_n 1, 1) := by decide +kernel
theorem dX10_hold_8 : decode cX10_hold 8 = .ok (.ifCond .eq 18, 3) := by decide +kernel
theorem dX10_hold_11 : decode cX10_hold 11 = .ok (.aload_n 0, 1) := by decide +kernel
theorem dX10_hold_12 : decode cX10_hold 12 = .ok (.getfield 25, 3) := by decide +kernel
theorem dX10_hold_15 : decode cX10_hold 15 = .ok (.iload_n 2, 1) := by decide +kernel
theorem dX10_hold_16 : decode cX10_hold 16 = .ok (.aload_n 0, 1) := by decide +kernel
theorem dX10_hold_17 : decode cX10_hold 17 = .ok (.getfield 80, 3) := by decide +kernel
theorem dX10_hold_20 : decode cX10_hold 20 = .ok (.iload_n 2, 1) := by decide +kernel
theorem dX10_hold_21 : decode cX10_hold 21 = .ok (.iaload, 1) := by decide +kernel
theorem dX10_hold_22 : decode cX10_hold 22 = .ok (.iastore, 1) := by decide +kernel
theorem dX10_hold_23 : decode cX10_hold 23 = .ok (.goto 15, 3) := by decide +kernel
theorem dX10_hold_26 : decode cX10_hold 26 = .ok (.aload_n 0, 1) := by decide +kernel
theorem dX10_hold_27 : decode cX10_hold 27 = .ok (.getfield 80, 3) := by decide +kernel
theorem dX10_hold_30 : decode cX10_hold 30 = .ok (.iload_n 2, 1) := by decide +kernel
theorem dX10_hold_31 : decode cX10_hold 31 = .ok (.aload_n 0, 1) := by decide +kernel
theorem dX10_hold_32 : decode cX10_hold 32 = .ok (.getfield 25, 3) := by decide +kernel
theorem dX10_hold_35 : decode cX10_hold 35 = .ok (.iload_n 2, 1) := by decide +kernel
theorem dX10_hold_36 : decode cX10_hold 36 = .ok (.iaload, 1) := by decide +kernel
theorem dX10_hold_37 : decode cX10_hold 37 = .ok (.iastore, 1) := by decide +kernel
theorem dX10_hold_38 : decode cX10_hold 38 = .ok (.iinc 2 1, 3) := by decide +kernel
theorem dX10_hold_41 : decode cX10_hold 41 = .ok (.goto (-39), 3) := by decide +kernel
theorem dX10_hold_44 : decode cX10_hold 44 = .ok (.return_, 1) := by decide +kernel
theorem dX10_judge_0 : decode cX10_judge 0 = .ok (.iload_n 1, 1) := by decide +kernel
theorem dX10_judge_1 : decode cX10_judge 1 = .ok (.i2l, 1) := by decide +kernel
theorem dX10_judge_2 : decode cX10_judge 2 = .ok (.lconst 1, 1) := by decide +kernel
theorem dX10_judge_3 : decode cX10_judge 3 = .ok (.ldc2_w 177, 3) := by decide +kernel
theorem dX10_judge_6 : decode cX10_judge 6 = .ok (.invokestatic 97, 3) := by decide +kernel
theorem dX10_judge_9 : decode cX10_judge 9 = .ok (.ifCond .eq 19, 3) := by decide +kernel
theorem dX10_judge_12 : decode cX10_judge 12 = .ok (.lload_n 2, 1) := by decide +kernel
theorem dX10_judge_13 : decode cX10_judge 13 = .ok (.lconst 0, 1) := by decide +kernel
theorem dX10_judge_14 : decode cX10_judge 14 = .ok (.iconst 2, 1) := by decide +kernel
theorem dX10_judge_15 : decode cX10_judge 15 = .ok (.iload_n 1, 1) := by decide +kernel
theorem dX10_judge_16 : decode cX10_judge 16 = .ok (.imul, 1) := by decide +kernel
theorem dX10_judge_17 : decode cX10_judge 17 = .ok (.invokestatic 264, 3) := by decide +kernel
theorem dX10_judge_20 : decode cX10_judge 20 = .ok (.lconst 1, 1) := by decide +kernel
theorem dX10_judge_21 : decode cX10_judge 21 = .ok (.lsub, 1) := by decide +kernel
theorem dX10_judge_22 : decode cX10_judge 22 = .ok (.invokestatic 97, 3) := by decide +kernel
theorem dX10_judge_25 : decode cX10_judge 25 = .ok (.ifCond .ne 6, 3) := by decide +kernel
theorem dX10_judge_28 : decode cX10_judge 28 = .ok (.bipush (-2), 2) := by decide +kernel
theorem dX10_judge_30 : decode cX10_judge 30 = .ok (.ireturn, 1) := by decide +kernel
theorem dX10_judge_31 : decode cX10_judge 31 = .ok (.aload_n 0, 1) := by decide +kernel
theorem dX10_judge_32 : decode cX10_judge 32 = .ok (.iconst 0, 1) := by decide +kernel
theorem dX10_judge_33 : decode cX10_judge 33 = .ok (.invokevirtual 268, 3) := by decide +kernel
theorem dX10_judge_36 : decode cX10_judge 36 = .ok (.bipush (-9), 2) := by decide +kernel
theorem dX10_judge_38 : decode cX10_judge 38 = .ok (.istore 4, 2) := by decide +kernel
theorem dX10_judge_40 : decode cX10_judge 40 = .ok (.iconst 0, 1) := by decide +kernel
theorem dX10_judge_41 : decode cX10_judge 41 = .ok (.istore 5, 2) := by decide +kernel
theorem dX10_judge_43 : decode cX10_judge 43 = .ok (.iload 5, 2) := by decide +kernel
theorem dX10_judge_45 : decode cX10_judge 45 = .ok (.iload_n 1, 1) := by decide +kernel
theorem dX10_judge_46 : decode cX10_judge 46 = .ok (.if_icmp .ge 121, 3) := by decide +kernel
theorem dX10_judge_49 : decode cX10_judge 49 = .ok (.iload 4, 2) := by decide +kernel
theorem dX10_judge_51 : decode cX10_judge 51 = .ok (.bipush (-9), 2) := by decide +kernel
theorem dX10_judge_53 : decode cX10_judge 53 = .ok (.if_icmp .ne 114, 3) := by decide +kernel
theorem dX10_judge_56 : decode cX10_judge 56 = .ok (.lload_n 2, 1) := by decide +kernel
theorem dX10_judge_57 : decode cX10_judge 57 = .ok (.iconst 2, 1) := by decide +kernel
theorem dX10_judge_58 : decode cX10_judge 58 = .ok (.iload_n 1, 1) := by decide +kernel
theorem dX10_judge_59 : decode cX10_judge 59 = .ok (.iconst 1, 1) := by decide +kernel
theorem dX10_judge_60 : decode cX10_judge 60 = .ok (.isub, 1) := by decide +kernel
theorem dX10_judge_61 : decode cX10_judge 61 = .ok (.iload 5, 2) := by decide +kernel
theorem dX10_judge_63 : decode cX10_judge 63 = .ok (.isub, 1) := by decide +kernel
theorem dX10_judge_64 : decode cX10_judge 64 = .ok (.imul, 1) := by decide +kernel
theorem dX10_judge_65 : decode cX10_judge 65 = .ok (.invokestatic 264, 3) := by decide +kernel
theorem dX10_judge_68 : decode cX10_judge 68 = .ok (.ldiv, 1) := by decide +kernel
theorem dX10_judge_69 : decode cX10_judge 69 = .ok (.ldc2_w 271, 3) := by decide +kernel
theorem dX10_judge_72 : decode cX10_judge 72 = .ok (.lrem, 1) := by decide +kernel
theorem dX10_judge_73 : decode cX10_judge 73 = .ok (.l2i, 1) := by decide +kernel
theorem dX10_judge_74 : decode cX10_judge 74 = .ok (.istore 6, 2) := by decide +kernel
theorem dX10_judge_76 : decode cX10_judge 76 = .ok (.aload_n 0, 1) := by decide +kernel
theorem dX10_judge_77 : decode cX10_judge 77 = .ok (.iload 6, 2) := by decide +kernel
theorem dX10_judge_79 : decode cX10_judge 79 = .ok (.bipush 10, 2) := by decide +kernel
theorem dX10_judge_81 : decode cX10_judge 81 = .ok (.idiv, 1) := by decide +kernel
theorem dX10_judge_82 : decode cX10_judge 82 = .ok (.invokevirtual 174, 3) := by decide +kernel
theorem dX10_judge_85 : decode cX10_judge 85 = .ok (.ifCond .eq 39, 3) := by decide +kernel
theorem dX10_judge_88 : decode cX10_judge 88 = .ok (.aload_n 0, 1) := by decide +kernel
theorem dX10_judge_89 : decode cX10_judge 89 = .ok (.getfield 25, 3) := by decide +kernel
theorem dX10_judge_92 : decode cX10_judge 92 = .ok (.iload 6, 2) := by decide +kernel
theorem dX10_judge_94 : decode cX10_judge 94 = .ok (.bipush 10, 2) := by decide +kernel
theorem dX10_judge_96 : decode cX10_judge 96 = .ok (.idiv, 1) := by decide +kernel
theorem dX10_judge_97 : decode cX10_judge 97 = .ok (.iaload, 1) := by decide +kernel
theorem dX10_judge_98 : decode cX10_judge 98 = .ok (.bipush (-9), 2) := by decide +kernel
theorem dX10_judge_100 : decode cX10_judge 100 = .ok (.if_icmp .ne 24, 3) := by decide +kernel
theorem dX10_judge_103 : decode cX10_judge 103 = .ok (.aload_n 0, 1) := by decide +kernel
theorem dX10_judge_104 : decode cX10_judge 104 = .ok (.iload 6, 2) := by decide +kernel
theorem dX10_judge_106 : decode cX10_judge 106 = .ok (.bipush 10, 2) := by decide +kernel
theorem dX10_judge_108 : decode cX10_judge 108 = .ok (.idiv, 1) := by decide +kernel
theorem dX10_judge_109 : decode cX10_judge 109 = .ok (.iload 6, 2) := by decide +kernel
theorem dX10_judge_111 : decode cX10_judge 111 = .ok (.bipush 10, 2) := by decide +kernel
theorem dX10_judge_113 : decode cX10_judge 113 = .ok (.irem, 1) := by decide +kernel
theorem dX10_judge_114 : decode cX10_judge 114 = .ok (.invokevirtual 190, 3) := by decide +kernel
theorem dX10_judge_117 : decode cX10_judge 117 = .ok (.ifCond .eq 7, 3) := by decide +kernel
theorem dX10_judge_120 : decode cX10_judge 120 = .ok (.iconst 1, 1) := by decide +kernel
theorem dX10_judge_121 : decode cX10_judge 121 = .ok (.goto 4, 3) := by decide +kernel
theorem dX10_judge_124 : decode cX10_judge 124 = .ok (.iconst 0, 1) := by decide +kernel
theorem dX10_judge_125 : decode cX10_judge 125 = .ok (.istore 7, 2) := by decide +kernel
theorem dX10_judge_127 : decode cX10_judge 127 = .ok (.iload 7, 2) := by decide +kernel
theorem dX10_judge_129 : decode cX10_judge 129 = .ok (.ifCond .eq 8, 3) := by decide +kernel
theorem dX10_judge_132 : decode cX10_judge 132 = .ok (.bipush (-9), 2) := by decide +kernel
theorem dX10_judge_134 : decode cX10_judge 134 = .ok (.goto 5, 3) := by decide +kernel
theorem dX10_judge_137 : decode cX10_judge 137 = .ok (.iload 5, 2) := by decide +kernel
theorem dX10_judge_139 : decode cX10_judge 139 = .ok (.istore 4, 2) := by decide +kernel
theorem dX10_judge_141 : decode cX10_judge 141 = .ok (.iload 7, 2) := by decide +kernel
theorem dX10_judge_143 : decode cX10_judge 143 = .ok (.ifCond .eq 18, 3) := by decide +kernel
theorem dX10_judge_146 : decode cX10_judge 146 = .ok (.aload_n 0, 1) := by decide +kernel
theorem dX10_judge_147 : decode cX10_judge 147 = .ok (.getfield 25, 3) := by decide +kernel
theorem dX10_judge_150 : decode cX10_judge 150 = .ok (.iload 6, 2) := by decide +kernel
theorem dX10_judge_152 : decode cX10_judge 152 = .ok (.bipush 10, 2) := by decide +kernel
theorem dX10_judge_154 : decode cX10_judge 154 = .ok (.idiv, 1) := by decide +kernel
theorem dX10_judge_155 : decode cX10_judge 155 = .ok (.iload 6, 2) := by decide +kernel
theorem dX10_judge_157 : decode cX10_judge 157 = .ok (.bipush 10, 2) := by decide +kernel
theorem dX10_judge_159 : decode cX10_judge 159 = .ok (.irem, 1) := by decide +kernel
theorem dX10_judge_160 : decode cX10_judge 160 = .ok (.iastore, 1) := by decide +kernel
theorem dX10_judge_161 : decode cX10_judge 161 = .ok (.iinc 5 1, 3) := by decide +kernel
theorem dX10_judge_164 : decode cX10_judge 164 = .ok (.goto (-121), 3) := by decide +kernel
theorem dX10_judge_167 : decode cX10_judge 167 = .ok (.aload_n 0, 1) := by decide +kernel
theorem dX10_judge_168 : decode cX10_judge 168 = .ok (.iconst 1, 1) := by decide +kernel
theorem dX10_judge_169 : decode cX10_judge 169 = .ok (.invokevirtual 268, 3) := by decide +kernel
theorem dX10_judge_172 : decode cX10_judge 172 = .ok (.iload 4, 2) := by decide +kernel
theorem dX10_judge_174 : decode cX10_judge 174 = .ok (.ireturn, 1) := by decide +kernel
theorem dX10_hear_0 : decode cX10_hear 0 = .ok (.iload_n 1, 1) := by decide +kernel
theorem dX10_hear_1 : decode cX10_hear 1 = .ok (.i2l, 1) := by decide +kernel
theorem dX10_hear_2 : decode cX10_hear 2 = .ok (.lconst 0, 1) := by decide +kernel
theorem dX10_hear_3 : decode cX10_hear 3 = .ok (.ldc2_w 182, 3) := by decide +kernel
theorem dX10_hear_6 : decode cX10_hear 6 = .ok (.invokestatic 97, 3) := by decide +kernel
theorem dX10_hear_9 : decode cX10_hear 9 = .ok (.ifCond .eq 21, 3) := by decide +kernel
theorem dX10_hear_12 : decode cX10_hear 12 = .ok (.iload_n 2, 1) := by decide +kernel
theorem dX10_hear_13 : decode cX10_hear 13 = .ok (.i2l, 1) := by decide +kernel
theorem dX10_hear_14 : decode cX10_hear 14 = .ok (.lconst 0, 1) := by decide +kernel
theorem dX10_hear_15 : decode cX10_hear 15 = .ok (.iconst 1, 1) := by decide +kernel
theorem dX10_hear_16 : decode cX10_hear 16 = .ok (.aload_n 0, 1) := by decide +kernel
theorem dX10_hear_17 : decode cX10_hear 17 = .ok (.getfield 132, 3) := by decide +kernel
theorem dX10_hear_20 : decode cX10_hear 20 = .ok (.ishl, 1) := by decide +kernel
theorem dX10_hear_21 : decode cX10_hear 21 = .ok (.iconst 1, 1) := by decide +kernel
theorem dX10_hear_22 : decode cX10_hear 22 = .ok (.isub, 1) := by decide +kernel
theorem dX10_hear_23 : decode cX10_hear 23 = .ok (.i2l, 1) := by decide +kernel
theorem dX10_hear_24 : decode cX10_hear 24 = .ok (.invokestatic 97, 3) := by decide +kernel
theorem dX10_hear_27 : decode cX10_hear 27 = .ok (.ifCond .ne 6, 3) := by decide +kernel
theorem dX10_hear_30 : decode cX10_hear 30 = .ok (.bipush (-2), 2) := by decide +kernel
theorem dX10_hear_32 : decode cX10_hear 32 = .ok (.ireturn, 1) := by decide +kernel
theorem dX10_hear_33 : decode cX10_hear 33 = .ok (.aload_n 0, 1) := by decide +kernel
theorem dX10_hear_34 : decode cX10_hear 34 = .ok (.getfield 273, 3) := by decide +kernel
theorem dX10_hear_37 : decode cX10_hear 37 = .ok (.bipush 6, 2) := by decide +kernel
theorem dX10_hear_39 : decode cX10_hear 39 = .ok (.if_icmp .ne 6, 3) := by decide +kernel
theorem dX10_hear_42 : decode cX10_hear 42 = .ok (.bipush (-4), 2) := by decide +kernel
theorem dX10_hear_44 : decode cX10_hear 44 = .ok (.ireturn, 1) := by decide +kernel
theorem dX10_hear_45 : decode cX10_hear 45 = .ok (.aload_n 0, 1) := by decide +kernel
theorem dX10_hear_46 : decode cX10_hear 46 = .ok (.getfield 83, 3) := by decide +kernel
theorem dX10_hear_49 : decode cX10_hear 49 = .ok (.aload_n 0, 1) := by decide +kernel
theorem dX10_hear_50 : decode cX10_hear 50 = .ok (.getfield 273, 3) := by decide +kernel
theorem dX10_hear_53 : decode cX10_hear 53 = .ok (.iload_n 1, 1) := by decide +kernel
theorem dX10_hear_54 : decode cX10_hear 54 = .ok (.iastore, 1) := by decide +kernel
theorem dX10_hear_55 : decode cX10_hear 55 = .ok (.aload_n 0, 1) := by decide +kernel
theorem dX10_hear_56 : decode cX10_hear 56 = .ok (.getfield 86, 3) := by decide +kernel
theorem dX10_hear_59 : decode cX10_hear 59 = .ok (.aload_n 0, 1) := by decide +kernel
theorem dX10_hear_60 : decode cX10_hear 60 = .ok (.getfield 273, 3) := by decide +kernel
theorem dX10_hear_63 : decode cX10_hear 63 = .ok (.iload_n 2, 1) := by decide +kernel
theorem dX10_hear_64 : decode cX10_hear 64 = .ok (.iastore, 1) := by decide +kernel
theorem dX10_hear_65 : decode cX10_hear 65 = .ok (.aload_n 0, 1) := by decide +kernel
theorem dX10_hear_66 : decode cX10_hear 66 = .ok (.dup, 1) := by decide +kernel
theorem dX10_hear_67 : decode cX10_hear 67 = .ok (.getfield 273, 3) := by decide +kernel
theorem dX10_hear_70 : decode cX10_hear 70 = .ok (.iconst 1, 1) := by decide +kernel
theorem dX10_hear_71 : decode cX10_hear 71 = .ok (.iadd, 1) := by decide +kernel
theorem dX10_hear_72 : decode cX10_hear 72 = .ok (.putfield 273, 3) := by decide +kernel
theorem dX10_hear_75 : decode cX10_hear 75 = .ok (.aload_n 0, 1) := by decide +kernel
theorem dX10_hear_76 : decode cX10_hear 76 = .ok (.getfield 273, 3) := by decide +kernel
theorem dX10_hear_79 : decode cX10_hear 79 = .ok (.ireturn, 1) := by decide +kernel
theorem dX10_unhear_0 : decode cX10_unhear 0 = .ok (.aload_n 0, 1) := by decide +kernel
theorem dX10_unhear_1 : decode cX10_unhear 1 = .ok (.getfield 273, 3) := by decide +kernel
theorem dX10_unhear_4 : decode cX10_unhear 4 = .ok (.istore_n 1, 1) := by decide +kernel
theorem dX10_unhear_5 : decode cX10_unhear 5 = .ok (.aload_n 0, 1) := by decide +kernel
theorem dX10_unhear_6 : decode cX10_unhear 6 = .ok (.iconst 0, 1) := by decide +kernel
theorem dX10_unhear_7 : decode cX10_unhear 7 = .ok (.putfield 273, 3) := by decide +kernel
theorem dX10_unhear_10 : decode cX10_unhear 10 = .ok (.iload_n 1, 1) := by decide +kernel
theorem dX10_unhear_11 : decode cX10_unhear 11 = .ok (.ireturn, 1) := by decide +kernel
theorem dX10_isHeard_0 : decode cX10_isHeard 0 = .ok (.iconst 1, 1) := by decide +kernel
theorem dX10_isHeard_1 : decode cX10_isHeard 1 = .ok (.istore_n 1, 1) := by decide +kernel
theorem dX10_isHeard_2 : decode cX10_isHeard 2 = .ok (.iconst 0, 1) := by decide +kernel
theorem dX10_isHeard_3 : decode cX10_isHeard 3 = .ok (.istore_n 2, 1) := by decide +kernel
theorem dX10_isHeard_4 : decode cX10_isHeard 4 = .ok (.iload_n 2, 1) := by decide +kernel
theorem dX10_isHeard_5 : decode cX10_isHeard 5 = .ok (.aload_n 0, 1) := by decide +kernel
theorem dX10_isHeard_6 : decode cX10_isHeard 6 = .ok (.getfield 273, 3) := by decide +kernel
theorem dX10_isHeard_9 : decode cX10_isHeard 9 = .ok (.if_icmp .ge 67, 3) := by decide +kernel
theorem dX10_isHeard_12 : decode cX10_isHeard 12 = .ok (.iload_n 1, 1) := by decide +kernel
theorem dX10_isHeard_13 : decode cX10_isHeard 13 = .ok (.ifCond .eq 63, 3) := by decide +kernel
theorem dX10_isHeard_16 : decode cX10_isHeard 16 = .ok (.iconst 0, 1) := by decide +kernel
theorem dX10_isHeard_17 : decode cX10_isHeard 17 = .ok (.istore_n 3, 1) := by decide +kernel
theorem dX10_isHeard_18 : decode cX10_isHeard 18 = .ok (.iload_n 3, 1) := by decide +kernel
theorem dX10_isHeard_19 : decode cX10_isHeard 19 = .ok (.aload_n 0, 1) := by decide +kernel
theorem dX10_isHeard_20 : decode cX10_isHeard 20 = .ok (.getfield 132, 3) := by decide +kernel
theorem dX10_isHeard_23 : decode cX10_isHeard 23 = .ok (.if_icmp .ge 47, 3) := by decide +kernel
theorem dX10_isHeard_26 : decode cX10_isHeard 26 = .ok (.iload_n 1, 1) := by decide +kernel
theorem dX10_isHeard_27 : decode cX10_isHeard 27 = .ok (.ifCond .eq 35, 3) := by decide +kernel
theorem dX10_isHeard_30 : decode cX10_isHeard 30 = .ok (.aload_n 0, 1) := by decide +kernel
theorem dX10_isHeard_31 : decode cX10_isHeard 31 = .ok (.getfield 56, 3) := by decide +kernel
theorem dX10_isHeard_34 : decode cX10_isHeard 34 = .ok (.iload_n 3, 1) := by decide +kernel
theorem dX10_isHeard_35 : decode cX10_isHeard 35 = .ok (.iaload, 1) := by decide +kernel
theorem dX10_isHeard_36 : decode cX10_isHeard 36 = .ok (.aload_n 0, 1) := by decide +kernel
theorem dX10_isHeard_37 : decode cX10_isHeard 37 = .ok (.getfield 83, 3) := by decide +kernel
theorem dX10_isHeard_40 : decode cX10_isHeard 40 = .ok (.iload_n 2, 1) := by decide +kernel
theorem dX10_isHeard_41 : decode cX10_isHeard 41 = .ok (.iaload, 1) := by decide +kernel
theorem dX10_isHeard_42 : decode cX10_isHeard 42 = .ok (.invokestatic 160, 3) := by decide +kernel
theorem dX10_isHeard_45 : decode cX10_isHeard 45 = .ok (.aload_n 0, 1) := by decide +kernel
theorem dX10_isHeard_46 : decode cX10_isHeard 46 = .ok (.getfield 86, 3) := by decide +kernel
theorem dX10_isHeard_49 : decode cX10_isHeard 49 = .ok (.iload_n 2, 1) := by decide +kernel
theorem dX10_isHeard_50 : decode cX10_isHeard 50 = .ok (.iaload, 1) := by decide +kernel
theorem dX10_isHeard_51 : decode cX10_isHeard 51 = .ok (.iload_n 3, 1) := by decide +kernel
theorem dX10_isHeard_52 : decode cX10_isHeard 52 = .ok (.invokestatic 160, 3) := by decide +kernel
theorem dX10_isHeard_55 : decode cX10_isHeard 55 = .ok (.if_icmp .ne 7, 3) := by decide +kernel
theorem dX10_isHeard_58 : decode cX10_isHeard 58 = .ok (.iconst 1, 1) := by decide +kernel
theorem dX10_isHeard_59 : decode cX10_isHeard 59 = .ok (.goto 4, 3) := by decide +kernel
theorem dX10_isHeard_62 : decode cX10_isHeard 62 = .ok (.iconst 0, 1) := by decide +kernel
theorem dX10_isHeard_63 : decode cX10_isHeard 63 = .ok (.istore_n 1, 1) := by decide +kernel
theorem dX10_isHeard_64 : decode cX10_isHeard 64 = .ok (.iinc 3 1, 3) := by decide +kernel
theorem dX10_isHeard_67 : decode cX10_isHeard 67 = .ok (.goto (-49), 3) := by decide +kernel
theorem dX10_isHeard_70 : decode cX10_isHeard 70 = .ok (.iinc 2 1, 3) := by decide +kernel
theorem dX10_isHeard_73 : decode cX10_isHeard 73 = .ok (.goto (-69), 3) := by decide +kernel
theorem dX10_isHeard_76 : decode cX10_isHeard 76 = .ok (.iload_n 1, 1) := by decide +kernel
theorem dX10_isHeard_77 : decode cX10_isHeard 77 = .ok (.ireturn, 1) := by decide +kernel
theorem dX10_fit_0 : decode cX10_fit 0 = .ok (.iload_n 1, 1) := by decide +kernel
theorem dX10_fit_1 : decode cX10_fit 1 = .ok (.i2l, 1) := by decide +kernel
theorem dX10_fit_2 : decode cX10_fit 2 = .ok (.lconst 0, 1) := by decide +kernel
theorem dX10_fit_3 : decode cX10_fit 3 = .ok (.ldc2_w 276, 3) := by decide +kernel
theorem dX10_fit_6 : decode cX10_fit 6 = .ok (.invokestatic 97, 3) := by decide +kernel
theorem dX10_fit_9 : decode cX10_fit 9 = .ok (.ifCond .ne 6, 3) := by decide +kernel
theorem dX10_fit_12 : decode cX10_fit 12 = .ok (.bipush (-2), 2) := by decide +kernel
theorem dX10_fit_14 : decode cX10_fit 14 = .ok (.ireturn, 1) := by decide +kernel
theorem dX10_fit_15 : decode cX10_fit 15 = .ok (.aload_n 0, 1) := by decide +kernel
theorem dX10_fit_16 : decode cX10_fit 16 = .ok (.iconst 0, 1) := by decide +kernel
theorem dX10_fit_17 : decode cX10_fit 17 = .ok (.invokevirtual 237, 3) := by decide +kernel
theorem dX10_fit_20 : decode cX10_fit 20 = .ok (.iload_n 1, 1) := by decide +kernel
theorem dX10_fit_21 : decode cX10_fit 21 = .ok (.ifCond .ne 10, 3) := by decide +kernel
theorem dX10_fit_24 : decode cX10_fit 24 = .ok (.aload_n 0, 1) := by decide +kernel
theorem dX10_fit_25 : decode cX10_fit 25 = .ok (.getfield 218, 3) := by decide +kernel
theorem dX10_fit_28 : decode cX10_fit 28 = .ok (.goto 42, 3) := by decide +kernel
theorem dX10_fit_31 : decode cX10_fit 31 = .ok (.aload_n 0, 1) := by decide +kernel
theorem dX10_fit_32 : decode cX10_fit 32 = .ok (.getfield 218, 3) := by decide +kernel
theorem dX10_fit_35 : decode cX10_fit 35 = .ok (.ifCond .ne 8, 3) := by decide +kernel
theorem dX10_fit_38 : decode cX10_fit 38 = .ok (.bipush (-9), 2) := by decide +kernel
theorem dX10_fit_40 : decode cX10_fit 40 = .ok (.goto 30, 3) := by decide +kernel
theorem dX10_fit_43 : decode cX10_fit 43 = .ok (.iload_n 1, 1) := by decide +kernel
theorem dX10_fit_44 : decode cX10_fit 44 = .ok (.iconst 1, 1) := by decide +kernel
theorem dX10_fit_45 : decode cX10_fit 45 = .ok (.if_icmp .ne 10, 3) := by decide +kernel
theorem dX10_fit_48 : decode cX10_fit 48 = .ok (.aload_n 0, 1) := by decide +kernel
theorem dX10_fit_49 : decode cX10_fit 49 = .ok (.getfield 221, 3) := by decide +kernel
theorem dX10_fit_52 : decode cX10_fit 52 = .ok (.goto 18, 3) := by decide +kernel
theorem dX10_fit_55 : decode cX10_fit 55 = .ok (.iconst 1, 1) := by decide +kernel
theorem dX10_fit_56 : decode cX10_fit 56 = .ok (.aload_n 0, 1) := by decide +kernel
theorem dX10_fit_57 : decode cX10_fit 57 = .ok (.getfield 135, 3) := by decide +kernel
theorem dX10_fit_60 : decode cX10_fit 60 = .ok (.ishl, 1) := by decide +kernel
theorem dX10_fit_61 : decode cX10_fit 61 = .ok (.iconst 1, 1) := by decide +kernel
theorem dX10_fit_62 : decode cX10_fit 62 = .ok (.isub, 1) := by decide +kernel
theorem dX10_fit_63 : decode cX10_fit 63 = .ok (.aload_n 0, 1) := by decide +kernel
theorem dX10_fit_64 : decode cX10_fit 64 = .ok (.getfield 224, 3) := by decide +kernel
theorem dX10_fit_67 : decode cX10_fit 67 = .ok (.iconst (-1), 1) := by decide +kernel
theorem dX10_fit_68 : decode cX10_fit 68 = .ok (.ixor, 1) := by decide +kernel
theorem dX10_fit_69 : decode cX10_fit 69 = .ok (.iand, 1) := by decide +kernel
theorem dX10_fit_70 : decode cX10_fit 70 = .ok (.ireturn, 1) := by decide +kernel
theorem dX10_common_0 : decode cX10_common 0 = .ok (.iload_n 0, 1) := by decide +kernel
theorem dX10_common_1 : decode cX10_common 1 = .ok (.istore_n 2, 1) := by decide +kernel
theorem dX10_common_2 : decode cX10_common 2 = .ok (.iload_n 1, 1) := by decide +kernel
theorem dX10_common_3 : decode cX10_common 3 = .ok (.istore_n 3, 1) := by decide +kernel
theorem dX10_common_4 : decode cX10_common 4 = .ok (.iload_n 3, 1) := by decide +kernel
theorem dX10_common_5 : decode cX10_common 5 = .ok (.ifCond .eq 16, 3) := by decide +kernel
theorem dX10_common_8 : decode cX10_common 8 = .ok (.iload_n 2, 1) := by decide +kernel
theorem dX10_common_9 : decode cX10_common 9 = .ok (.iload_n 3, 1) := by decide +kernel
theorem dX10_common_10 : decode cX10_common 10 = .ok (.irem, 1) := by decide +kernel
theorem dX10_common_11 : decode cX10_common 11 = .ok (.istore 4, 2) := by decide +kernel
theorem dX10_common_13 : decode cX10_common 13 = .ok (.iload_n 3, 1) := by decide +kernel
theorem dX10_common_14 : decode cX10_common 14 = .ok (.istore_n 2, 1) := by decide +kernel
theorem dX10_common_15 : decode cX10_common 15 = .ok (.iload 4, 2) := by decide +kernel
theorem dX10_common_17 : decode cX10_common 17 = .ok (.istore_n 3, 1) := by decide +kernel
theorem dX10_common_18 : decode cX10_common 18 = .ok (.goto (-14), 3) := by decide +kernel
theorem dX10_common_21 : decode cX10_common 21 = .ok (.iload_n 2, 1) := by decide +kernel
theorem dX10_common_22 : decode cX10_common 22 = .ok (.ireturn, 1) := by decide +kernel
theorem dX10_likely_0 : decode cX10_likely 0 = .ok (.iload_n 1, 1) := by decide +kernel
theorem dX10_likely_1 : decode cX10_likely 1 = .ok (.i2l, 1) := by decide +kernel
theorem dX10_likely_2 : decode cX10_likely 2 = .ok (.lconst 0, 1) := by decide +kernel
theorem dX10_likely_3 : decode cX10_likely 3 = .ok (.ldc2_w 182, 3) := by decide +kernel
theorem dX10_likely_6 : decode cX10_likely 6 = .ok (.invokestatic 97, 3) := by decide +kernel
theorem dX10_likely_9 : decode cX10_likely 9 = .ok (.ifCond .ne 6, 3) := by decide +kernel
theorem dX10_likely_12 : decode cX10_likely 12 = .ok (.bipush (-2), 2) := by decide +kernel
theorem dX10_likely_14 : decode cX10_likely 14 = .ok (.ireturn, 1) := by decide +kernel
theorem dX10_likely_15 : decode cX10_likely 15 = .ok (.aload_n 0, 1) := by decide +kernel
theorem dX10_likely_16 : decode cX10_likely 16 = .ok (.iconst 0, 1) := by decide +kernel
theorem dX10_likely_17 : decode cX10_likely 17 = .ok (.invokevirtual 237, 3) := by decide +kernel
theorem dX10_likely_20 : decode cX10_likely 20 = .ok (.aload_n 0, 1) := by decide +kernel
theorem dX10_likely_21 : decode cX10_likely 21 = .ok (.getfield 218, 3) := by decide +kernel
theorem dX10_likely_24 : decode cX10_likely 24 = .ok (.ifCond .ne 6, 3) := by decide +kernel
theorem dX10_likely_27 : decode cX10_likely 27 = .ok (.bipush (-3), 2) := by decide +kernel
theorem dX10_likely_29 : decode cX10_likely 29 = .ok (.ireturn, 1) := by decide +kernel
theorem dX10_likely_30 : decode cX10_likely 30 = .ok (.aload_n 0, 1) := by decide +kernel
theorem dX10_likely_31 : decode cX10_likely 31 = .ok (.getfield 44, 3) := by decide +kernel
theorem dX10_likely_34 : decode cX10_likely 34 = .ok (.iload_n 1, 1) := by decide +kernel
theorem dX10_likely_35 : decode cX10_likely 35 = .ok (.iaload, 1) := by decide +kernel
theorem dX10_likely_36 : decode cX10_likely 36 = .ok (.aload_n 0, 1) := by decide +kernel
theorem dX10_likely_37 : decode cX10_likely 37 = .ok (.getfield 218, 3) := by decide +kernel
theorem dX10_likely_40 : decode cX10_likely 40 = .ok (.invokestatic 278, 3) := by decide +kernel
theorem dX10_likely_43 : decode cX10_likely 43 = .ok (.istore_n 3, 1) := by decide +kernel
theorem dX10_likely_44 : decode cX10_likely 44 = .ok (.iload_n 2, 1) := by decide +kernel
theorem dX10_likely_45 : decode cX10_likely 45 = .ok (.ifCond .eq 14, 3) := by decide +kernel
theorem dX10_likely_48 : decode cX10_likely 48 = .ok (.aload_n 0, 1) := by decide +kernel
theorem dX10_likely_49 : decode cX10_likely 49 = .ok (.getfield 44, 3) := by decide +kernel
theorem dX10_likely_52 : decode cX10_likely 52 = .ok (.iload_n 1, 1) := by decide +kernel
theorem dX10_likely_53 : decode cX10_likely 53 = .ok (.iaload, 1) := by decide +kernel
theorem dX10_likely_54 : decode cX10_likely 54 = .ok (.iload_n 3, 1) := by decide +kernel
theorem dX10_likely_55 : decode cX10_likely 55 = .ok (.idiv, 1) := by decide +kernel
theorem dX10_likely_56 : decode cX10_likely 56 = .ok (.goto 9, 3) := by decide +kernel
theorem dX10_likely_59 : decode cX10_likely 59 = .ok (.aload_n 0, 1) := by decide +kernel
theorem dX10_likely_60 : decode cX10_likely 60 = .ok (.getfield 218, 3) := by decide +kernel
theorem dX10_likely_63 : decode cX10_likely 63 = .ok (.iload_n 3, 1) := by decide +kernel
theorem dX10_likely_64 : decode cX10_likely 64 = .ok (.idiv, 1) := by decide +kernel
theorem dX10_likely_65 : decode cX10_likely 65 = .ok (.ireturn, 1) := by decide +kernel
theorem dX10_unwanted_0 : decode cX10_unwanted 0 = .ok (.iconst 0, 1) := by decide +kernel
theorem dX10_unwanted_1 : decode cX10_unwanted 1 = .ok (.istore_n 1, 1) := by decide +kernel
theorem dX10_unwanted_2 : decode cX10_unwanted 2 = .ok (.iconst 0, 1) := by decide +kernel
theorem dX10_unwanted_3 : decode cX10_unwanted 3 = .ok (.istore_n 2, 1) := by decide +kernel
theorem dX10_unwanted_4 : decode cX10_unwanted 4 = .ok (.iload_n 2, 1) := by decide +kernel
theorem dX10_unwanted_5 : decode cX10_unwanted 5 = .ok (.aload_n 0, 1) := by decide +kernel
theorem dX10_unwanted_6 : decode cX10_unwanted 6 = .ok (.getfield 135, 3) := by decide +kernel
theorem dX10_unwanted_9 : decode cX10_unwanted 9 = .ok (.if_icmp .ge 46, 3) := by decide +kernel
theorem dX10_unwanted_12 : decode cX10_unwanted 12 = .ok (.iconst 0, 1) := by decide +kernel
theorem dX10_unwanted_13 : decode cX10_unwanted 13 = .ok (.istore_n 3, 1) := by decide +kernel
theorem dX10_unwanted_14 : decode cX10_unwanted 14 = .ok (.iload_n 3, 1) := by decide +kernel
theorem dX10_unwanted_15 : decode cX10_unwanted 15 = .ok (.bipush 10, 2) := by decide +kernel
theorem dX10_unwanted_17 : decode cX10_unwanted 17 = .ok (.if_icmp .ge 32, 3) := by decide +kernel
theorem dX10_unwanted_20 : decode cX10_unwanted 20 = .ok (.iload_n 1, 1) := by decide +kernel
theorem dX10_unwanted_21 : decode cX10_unwanted 21 = .ok (.aload_n 0, 1) := by decide +kernel
theorem dX10_unwanted_22 : decode cX10_unwanted 22 = .ok (.iload_n 2, 1) := by decide +kernel
theorem dX10_unwanted_23 : decode cX10_unwanted 23 = .ok (.iload_n 3, 1) := by decide +kernel
theorem dX10_unwanted_24 : decode cX10_unwanted 24 = .ok (.invokevirtual 171, 3) := by decide +kernel
theorem dX10_unwanted_27 : decode cX10_unwanted 27 = .ok (.ifCond .eq 13, 3) := by decide +kernel
theorem dX10_unwanted_30 : decode cX10_unwanted 30 = .ok (.aload_n 0, 1) := by decide +kernel
theorem dX10_unwanted_31 : decode cX10_unwanted 31 = .ok (.iload_n 2, 1) := by decide +kernel
theorem dX10_unwanted_32 : decode cX10_unwanted 32 = .ok (.iload_n 3, 1) := by decide +kernel
theorem dX10_unwanted_33 : decode cX10_unwanted 33 = .ok (.iconst 0, 1) := by decide +kernel
theorem dX10_unwanted_34 : decode cX10_unwanted 34 = .ok (.invokevirtual 152, 3) := by decide +kernel
theorem dX10_unwanted_37 : decode cX10_unwanted 37 = .ok (.goto 4, 3) := by decide +kernel
theorem dX10_unwanted_40 : decode cX10_unwanted 40 = .ok (.iconst 0, 1) := by decide +kernel
theorem dX10_unwanted_41 : decode cX10_unwanted 41 = .ok (.ior, 1) := by decide +kernel
theorem dX10_unwanted_42 : decode cX10_unwanted 42 = .ok (.istore_n 1, 1) := by decide +kernel
theorem dX10_unwanted_43 : decode cX10_unwanted 43 = .ok (.iinc 3 1, 3) := by decide +kernel
theorem dX10_unwanted_46 : decode cX10_unwanted 46 = .ok (.goto (-32), 3) := by decide +kernel
theorem dX10_unwanted_49 : decode cX10_unwanted 49 = .ok (.iinc 2 1, 3) := by decide +kernel
theorem dX10_unwanted_52 : decode cX10_unwanted 52 = .ok (.goto (-48), 3) := by decide +kernel
theorem dX10_unwanted_55 : decode cX10_unwanted 55 = .ok (.sipush 1023, 3) := by decide +kernel
theorem dX10_unwanted_58 : decode cX10_unwanted 58 = .ok (.iload_n 1, 1) := by decide +kernel
theorem dX10_unwanted_59 : decode cX10_unwanted 59 = .ok (.iconst (-1), 1) := by decide +kernel
theorem dX10_unwanted_60 : decode cX10_unwanted 60 = .ok (.ixor, 1) := by decide +kernel
theorem dX10_unwanted_61 : decode cX10_unwanted 61 = .ok (.iand, 1) := by decide +kernel
theorem dX10_unwanted_62 : decode cX10_unwanted 62 = .ok (.ireturn, 1) := by decide +kernel
theorem dX10_gain_0 : decode cX10_gain 0 = .ok (.iload_n 1, 1) := by decide +kernel
theorem dX10_gain_1 : decode cX10_gain 1 = .ok (.iload_n 2, 1) := by decide +kernel
theorem dX10_gain_2 : decode cX10_gain 2 = .ok (.if_icmp .gt 12, 3) := by decide +kernel
theorem dX10_gain_5 : decode cX10_gain 5 = .ok (.iload_n 1, 1) := by decide +kernel
theorem dX10_gain_6 : decode cX10_gain 6 = .ok (.iload_n 2, 1) := by decide +kernel
theorem dX10_gain_7 : decode cX10_gain 7 = .ok (.if_icmp .ne 13, 3) := by decide +kernel
theorem dX10_gain_10 : decode cX10_gain 10 = .ok (.iload_n 3, 1) := by decide +kernel
theorem dX10_gain_11 : decode cX10_gain 11 = .ok (.ifCond .eq 9, 3) := by decide +kernel
theorem dX10_gain_14 : decode cX10_gain 14 = .ok (.iload_n 0, 1) := by decide +kernel
theorem dX10_gain_15 : decode cX10_gain 15 = .ok (.iload_n 1, 1) := by decide +kernel
theorem dX10_gain_16 : decode cX10_gain 16 = .ok (.isub, 1) := by decide +kernel
theorem dX10_gain_17 : decode cX10_gain 17 = .ok (.goto 4, 3) := by decide +kernel
theorem dX10_gain_20 : decode cX10_gain 20 = .ok (.iconst 0, 1) := by decide +kernel
theorem dX10_gain_21 : decode cX10_gain 21 = .ok (.ireturn, 1) := by decide +kernel
theorem dX10_sealed_0 : decode cX10_sealed 0 = .ok (.iload_n 1, 1) := by decide +kernel
theorem dX10_sealed_1 : decode cX10_sealed 1 = .ok (.i2l, 1) := by decide +kernel
theorem dX10_sealed_2 : decode cX10_sealed 2 = .ok (.lconst 0, 1) := by decide +kernel
theorem dX10_sealed_3 : decode cX10_sealed 3 = .ok (.ldc2_w 182, 3) := by decide +kernel
theorem dX10_sealed_6 : decode cX10_sealed 6 = .ok (.invokestatic 97, 3) := by decide +kernel
theorem dX10_sealed_9 : decode cX10_sealed 9 = .ok (.ifCond .eq 25, 3) := by decide +kernel
theorem dX10_sealed_12 : decode cX10_sealed 12 = .ok (.iload_n 2, 1) := by decide +kernel
theorem dX10_sealed_13 : decode cX10_sealed 13 = .ok (.i2l, 1) := by decide +kernel
theorem dX10_sealed_14 : decode cX10_sealed 14 = .ok (.lconst 0, 1) := by decide +kernel
theorem dX10_sealed_15 : decode cX10_sealed 15 = .ok (.ldc2_w 182, 3) := by decide +kernel
theorem dX10_sealed_18 : decode cX10_sealed 18 = .ok (.invokestatic 97, 3) := by decide +kernel
theorem dX10_sealed_21 : decode cX10_sealed 21 = .ok (.ifCond .eq 13, 3) := by decide +kernel
theorem dX10_sealed_24 : decode cX10_sealed 24 = .ok (.iload_n 3, 1) := by decide +kernel
theorem dX10_sealed_25 : decode cX10_sealed 25 = .ok (.i2l, 1) := by decide +kernel
theorem dX10_sealed_26 : decode cX10_sealed 26 = .ok (.lconst 0, 1) := by decide +kernel
theorem dX10_sealed_27 : decode cX10_sealed 27 = .ok (.lconst 1, 1) := by decide +kernel
theorem dX10_sealed_28 : decode cX10_sealed 28 = .ok (.invokestatic 97, 3) := by decide +kernel
theorem dX10_sealed_31 : decode cX10_sealed 31 = .ok (.ifCond .ne 6, 3) := by decide +kernel
theorem dX10_sealed_34 : decode cX10_sealed 34 = .ok (.bipush (-2), 2) := by decide +kernel
theorem dX10_sealed_36 : decode cX10_sealed 36 = .ok (.ireturn, 1) := by decide +kernel
theorem dX10_sealed_37 : decode cX10_sealed 37 = .ok (.iconst 0, 1) := by decide +kernel
theorem dX10_sealed_38 : decode cX10_sealed 38 = .ok (.istore 4, 2) := by decide +kernel
theorem dX10_sealed_40 : decode cX10_sealed 40 = .ok (.bipush (-9), 2) := by decide +kernel
theorem dX10_sealed_42 : decode cX10_sealed 42 = .ok (.istore 5, 2) := by decide +kernel
theorem dX10_sealed_44 : decode cX10_sealed 44 = .ok (.iconst 0, 1) := by decide +kernel
theorem dX10_sealed_45 : decode cX10_sealed 45 = .ok (.istore 6, 2) := by decide +kernel
theorem dX10_sealed_47 : decode cX10_sealed 47 = .ok (.iload 6, 2) := by decide +kernel
theorem dX10_sealed_49 : decode cX10_sealed 49 = .ok (.bipush 100, 2) := by decide +kernel
theorem dX10_sealed_51 : decode cX10_sealed 51 = .ok (.if_icmp .ge 130, 3) := by decide +kernel
theorem dX10_sealed_54 : decode cX10_sealed 54 = .ok (.iload 6, 2) := by decide +kernel
theorem dX10_sealed_56 : decode cX10_sealed 56 = .ok (.bipush 10, 2) := by decide +kernel
theorem dX10_sealed_58 : decode cX10_sealed 58 = .ok (.idiv, 1) := by decide +kernel
theorem dX10_sealed_59 : decode cX10_sealed 59 = .ok (.istore 7, 2) := by decide +kernel
theorem dX10_sealed_61 : decode cX10_sealed 61 = .ok (.iload 6, 2) := by decide +kernel
theorem dX10_sealed_63 : decode cX10_sealed 63 = .ok (.bipush 10, 2) := by decide +kernel
theorem dX10_sealed_65 : decode cX10_sealed 65 = .ok (.irem, 1) := by decide +kernel
theorem dX10_sealed_66 : decode cX10_sealed 66 = .ok (.istore 8, 2) := by decide +kernel
theorem dX10_sealed_68 : decode cX10_sealed 68 = .ok (.iconst 1, 1) := by decide +kernel
theorem dX10_sealed_69 : decode cX10_sealed 69 = .ok (.istore 9, 2) := by decide +kernel
theorem dX10_sealed_71 : decode cX10_sealed 71 = .ok (.iconst 0, 1) := by decide +kernel
theorem dX10_sealed_72 : decode cX10_sealed 72 = .ok (.istore 10, 2) := by decide +kernel
theorem dX10_sealed_74 : decode cX10_sealed 74 = .ok (.iload 10, 2) := by decide +kernel
theorem dX10_sealed_76 : decode cX10_sealed 76 = .ok (.bipush 10, 2) := by decide +kernel
theorem dX10_sealed_78 : decode cX10_sealed 78 = .ok (.if_icmp .ge 63, 3) := by decide +kernel
theorem dX10_sealed_81 : decode cX10_sealed 81 = .ok (.iload 9, 2) := by decide +kernel
theorem dX10_sealed_83 : decode cX10_sealed 83 = .ok (.ifCond .eq 49, 3) := by decide +kernel
theorem dX10_sealed_86 : decode cX10_sealed 86 = .ok (.iload_n 1, 1) := by decide +kernel
theorem dX10_sealed_87 : decode cX10_sealed 87 = .ok (.iload 10, 2) := by decide +kernel
theorem dX10_sealed_89 : decode cX10_sealed 89 = .ok (.iload 8, 2) := by decide +kernel
theorem dX10_sealed_91 : decode cX10_sealed 91 = .ok (.iconst 1, 1) := by decide +kernel
theorem dX10_sealed_92 : decode cX10_sealed 92 = .ok (.invokestatic 281, 3) := by decide +kernel
theorem dX10_sealed_95 : decode cX10_sealed 95 = .ok (.iload_n 1, 1) := by decide +kernel
theorem dX10_sealed_96 : decode cX10_sealed 96 = .ok (.iload 7, 2) := by decide +kernel
theorem dX10_sealed_98 : decode cX10_sealed 98 = .ok (.iload 8, 2) := by decide +kernel
theorem dX10_sealed_100 : decode cX10_sealed 100 = .ok (.iconst 1, 1) := by decide +kernel
theorem dX10_sealed_101 : decode cX10_sealed 101 = .ok (.invokestatic 281, 3) := by decide +kernel
theorem dX10_sealed_104 : decode cX10_sealed 104 = .ok (.if_icmp .gt 28, 3) := by decide +kernel
theorem dX10_sealed_107 : decode cX10_sealed 107 = .ok (.iload_n 2, 1) := by decide +kernel
theorem dX10_sealed_108 : decode cX10_sealed 108 = .ok (.iload 10, 2) := by decide +kernel
theorem dX10_sealed_110 : decode cX10_sealed 110 = .ok (.iload 7, 2) := by decide +kernel
theorem dX10_sealed_112 : decode cX10_sealed 112 = .ok (.iconst 0, 1) := by decide +kernel
theorem dX10_sealed_113 : decode cX10_sealed 113 = .ok (.invokestatic 281, 3) := by decide +kernel
theorem dX10_sealed_116 : decode cX10_sealed 116 = .ok (.iload_n 2, 1) := by decide +kernel
theorem dX10_sealed_117 : decode cX10_sealed 117 = .ok (.iload 8, 2) := by decide +kernel
theorem dX10_sealed_119 : decode cX10_sealed 119 = .ok (.iload 7, 2) := by decide +kernel
theorem dX10_sealed_121 : decode cX10_sealed 121 = .ok (.iconst 0, 1) := by decide +kernel
theorem dX10_sealed_122 : decode cX10_sealed 122 = .ok (.invokestatic 281, 3) := by decide +kernel
theorem dX10_sealed_125 : decode cX10_sealed 125 = .ok (.if_icmp .gt 7, 3) := by decide +kernel
theorem dX10_sealed_128 : decode cX10_sealed 128 = .ok (.iconst 1, 1) := by decide +kernel
theorem dX10_sealed_129 : decode cX10_sealed 129 = .ok (.goto 4, 3) := by decide +kernel
theorem dX10_sealed_132 : decode cX10_sealed 132 = .ok (.iconst 0, 1) := by decide +kernel
theorem dX10_sealed_133 : decode cX10_sealed 133 = .ok (.istore 9, 2) := by decide +kernel
theorem dX10_sealed_135 : decode cX10_sealed 135 = .ok (.iinc 10 1, 3) := by decide +kernel
theorem dX10_sealed_138 : decode cX10_sealed 138 = .ok (.goto (-64), 3) := by decide +kernel
theorem dX10_sealed_141 : decode cX10_sealed 141 = .ok (.iload 9, 2) := by decide +kernel
theorem dX10_sealed_143 : decode cX10_sealed 143 = .ok (.ifCond .eq 13, 3) := by decide +kernel
theorem dX10_sealed_146 : decode cX10_sealed 146 = .ok (.iload 4, 2) := by decide +kernel
theorem dX10_sealed_148 : decode cX10_sealed 148 = .ok (.ifCond .ne 8, 3) := by decide +kernel
theorem dX10_sealed_151 : decode cX10_sealed 151 = .ok (.iload 6, 2) := by decide +kernel
theorem dX10_sealed_153 : decode cX10_sealed 153 = .ok (.goto 5, 3) := by decide +kernel
theorem dX10_sealed_156 : decode cX10_sealed 156 = .ok (.iload 5, 2) := by decide +kernel
theorem dX10_sealed_158 : decode cX10_sealed 158 = .ok (.istore 5, 2) := by decide +kernel
theorem dX10_sealed_160 : decode cX10_sealed 160 = .ok (.iload 4, 2) := by decide +kernel
theorem dX10_sealed_162 : decode cX10_sealed 162 = .ok (.iload 9, 2) := by decide +kernel
theorem dX10_sealed_164 : decode cX10_sealed 164 = .ok (.ifCond .eq 7, 3) := by decide +kernel
theorem dX10_sealed_167 : decode cX10_sealed 167 = .ok (.iconst 1, 1) := by decide +kernel
theorem dX10_sealed_168 : decode cX10_sealed 168 = .ok (.goto 4, 3) := by decide +kernel
theorem dX10_sealed_171 : decode cX10_sealed 171 = .ok (.iconst 0, 1) := by decide +kernel
theorem dX10_sealed_172 : decode cX10_sealed 172 = .ok (.iadd, 1) := by decide +kernel
theorem dX10_sealed_173 : decode cX10_sealed 173 = .ok (.istore 4, 2) := by decide +kernel
theorem dX10_sealed_175 : decode cX10_sealed 175 = .ok (.iinc 6 1, 3) := by decide +kernel
theorem dX10_sealed_178 : decode cX10_sealed 178 = .ok (.goto (-131), 3) := by decide +kernel
theorem dX10_sealed_181 : decode cX10_sealed 181 = .ok (.iload_n 3, 1) := by decide +kernel
theorem dX10_sealed_182 : decode cX10_sealed 182 = .ok (.ifCond .ne 8, 3) := by decide +kernel
theorem dX10_sealed_185 : decode cX10_sealed 185 = .ok (.iload 4, 2) := by decide +kernel
theorem dX10_sealed_187 : decode cX10_sealed 187 = .ok (.goto 5, 3) := by decide +kernel
theorem dX10_sealed_190 : decode cX10_sealed 190 = .ok (.iload 5, 2) := by decide +kernel
theorem dX10_sealed_192 : decode cX10_sealed 192 = .ok (.ireturn, 1) := by decide +kernel
theorem dX10_seed_0 : decode cX10_seed 0 = .ok (.aload_n 0, 1) := by decide +kernel
theorem dX10_seed_1 : decode cX10_seed 1 = .ok (.getfield 285, 3) := by decide +kernel
theorem dX10_seed_4 : decode cX10_seed 4 = .ok (.lstore_n 3, 1) := by decide +kernel
theorem dX10_seed_5 : decode cX10_seed 5 = .ok (.aload_n 0, 1) := by decide +kernel
theorem dX10_seed_6 : decode cX10_seed 6 = .ok (.lload_n 1, 1) := by decide +kernel
theorem dX10_seed_7 : decode cX10_seed 7 = .ok (.putfield 285, 3) := by decide +kernel
theorem dX10_seed_10 : decode cX10_seed 10 = .ok (.lload_n 3, 1) := by decide +kernel
theorem dX10_seed_11 : decode cX10_seed 11 = .ok (.lreturn, 1) := by decide +kernel
theorem dX10_day_0 : decode cX10_day 0 = .ok (.iload_n 1, 1) := by decide +kernel
theorem dX10_day_1 : decode cX10_day 1 = .ok (.i2l, 1) := by decide +kernel
theorem dX10_day_2 : decode cX10_day 2 = .ok (.lconst 1, 1) := by decide +kernel
theorem dX10_day_3 : decode cX10_day 3 = .ok (.ldc2_w 289, 3) := by decide +kernel
theorem dX10_day_6 : decode cX10_day 6 = .ok (.invokestatic 97, 3) := by decide +kernel
theorem dX10_day_9 : decode cX10_day 9 = .ok (.ifCond .ne 6, 3) := by decide +kernel
theorem dX10_day_12 : decode cX10_day 12 = .ok (.bipush (-2), 2) := by decide +kernel
theorem dX10_day_14 : decode cX10_day 14 = .ok (.ireturn, 1) := by decide +kernel
theorem dX10_day_15 : decode cX10_day 15 = .ok (.aload_n 0, 1) := by decide +kernel
theorem dX10_day_16 : decode cX10_day 16 = .ok (.iconst 0, 1) := by decide +kernel
theorem dX10_day_17 : decode cX10_day 17 = .ok (.invokevirtual 268, 3) := by decide +kernel
theorem dX10_day_20 : decode cX10_day 20 = .ok (.iconst 0, 1) := by decide +kernel
theorem dX10_day_21 : decode cX10_day 21 = .ok (.istore_n 2, 1) := by decide +kernel
theorem dX10_day_22 : decode cX10_day 22 = .ok (.iload_n 2, 1) := by decide +kernel
theorem dX10_day_23 : decode cX10_day 23 = .ok (.iload_n 1, 1) := by decide +kernel
theorem dX10_day_24 : decode cX10_day 24 = .ok (.if_icmp .ge 91, 3) := by decide +kernel
theorem dX10_day_27 : decode cX10_day 27 = .ok (.aload_n 0, 1) := by decide +kernel
theorem dX10_day_28 : decode cX10_day 28 = .ok (.aload_n 0, 1) := by decide +kernel
theorem dX10_day_29 : decode cX10_day 29 = .ok (.getfield 285, 3) := by decide +kernel
theorem dX10_day_32 : decode cX10_day 32 = .ok (.ldc2_w 291, 3) := by decide +kernel
theorem dX10_day_35 : decode cX10_day 35 = .ok (.lmul, 1) := by decide +kernel
theorem dX10_day_36 : decode cX10_day 36 = .ok (.ldc2_w 293, 3) := by decide +kernel
theorem dX10_day_39 : decode cX10_day 39 = .ok (.ladd, 1) := by decide +kernel
theorem dX10_day_40 : decode cX10_day 40 = .ok (.putfield 285, 3) := by decide +kernel
theorem dX10_day_43 : decode cX10_day 43 = .ok (.aload_n 0, 1) := by decide +kernel
theorem dX10_day_44 : decode cX10_day 44 = .ok (.getfield 285, 3) := by decide +kernel
theorem dX10_day_47 : decode cX10_day 47 = .ok (.bipush 33, 2) := by decide +kernel
theorem dX10_day_49 : decode cX10_day 49 = .ok (.lushr, 1) := by decide +kernel
theorem dX10_day_50 : decode cX10_day 50 = .ok (.ldc2_w 295, 3) := by decide +kernel
theorem dX10_day_53 : decode cX10_day 53 = .ok (.lrem, 1) := by decide +kernel
theorem dX10_day_54 : decode cX10_day 54 = .ok (.l2i, 1) := by decide +kernel
theorem dX10_day_55 : decode cX10_day 55 = .ok (.istore_n 3, 1) := by decide +kernel
theorem dX10_day_56 : decode cX10_day 56 = .ok (.aload_n 0, 1) := by decide +kernel
theorem dX10_day_57 : decode cX10_day 57 = .ok (.iload_n 3, 1) := by decide +kernel
theorem dX10_day_58 : decode cX10_day 58 = .ok (.bipush 10, 2) := by decide +kernel
theorem dX10_day_60 : decode cX10_day 60 = .ok (.idiv, 1) := by decide +kernel
theorem dX10_day_61 : decode cX10_day 61 = .ok (.invokevirtual 174, 3) := by decide +kernel
theorem dX10_day_64 : decode cX10_day 64 = .ok (.ifCond .eq 45, 3) := by decide +kernel
theorem dX10_day_67 : decode cX10_day 67 = .ok (.aload_n 0, 1) := by decide +kernel
theorem dX10_day_68 : decode cX10_day 68 = .ok (.getfield 25, 3) := by decide +kernel
theorem dX10_day_71 : decode cX10_day 71 = .ok (.iload_n 3, 1) := by decide +kernel
theorem dX10_day_72 : decode cX10_day 72 = .ok (.bipush 10, 2) := by decide +kernel
theorem dX10_day_74 : decode cX10_day 74 = .ok (.idiv, 1) := by decide +kernel
theorem dX10_day_75 : decode cX10_day 75 = .ok (.iaload, 1) := by decide +kernel
theorem dX10_day_76 : decode cX10_day 76 = .ok (.bipush (-9), 2) := by decide +kernel
theorem dX10_day_78 : decode cX10_day 78 = .ok (.if_icmp .ne 31, 3) := by decide +kernel
theorem dX10_day_81 : decode cX10_day 81 = .ok (.aload_n 0, 1) := by decide +kernel
theorem dX10_day_82 : decode cX10_day 82 = .ok (.iload_n 3, 1) := by decide +kernel
theorem dX10_day_83 : decode cX10_day 83 = .ok (.bipush 10, 2) := by decide +kernel
theorem dX10_day_85 : decode cX10_day 85 = .ok (.idiv, 1) := by decide +kernel
theorem dX10_day_86 : decode cX10_day 86 = .ok (.iload_n 3, 1) := by decide +kernel
theorem dX10_day_87 : decode cX10_day 87 = .ok (.bipush 10, 2) := by decide +kernel
theorem dX10_day_89 : decode cX10_day 89 = .ok (.irem, 1) := by decide +kernel
theorem dX10_day_90 : decode cX10_day 90 = .ok (.invokevirtual 190, 3) := by decide +kernel
theorem dX10_day_93 : decode cX10_day 93 = .ok (.ifCond .eq 16, 3) := by decide +kernel
theorem dX10_day_96 : decode cX10_day 96 = .ok (.aload_n 0, 1) := by decide +kernel
theorem dX10_day_97 : decode cX10_day 97 = .ok (.getfield 25, 3) := by decide +kernel
theorem dX10_day_100 : decode cX10_day 100 = .ok (.iload_n 3, 1) := by decide +kernel
theorem dX10_day_101 : decode cX10_day 101 = .ok (.bipush 10, 2) := by decide +kernel
theorem dX10_day_103 : decode cX10_day 103 = .ok (.idiv, 1) := by decide +kernel
theorem dX10_day_104 : decode cX10_day 104 = .ok (.iload_n 3, 1) := by decide +kernel
theorem dX10_day_105 : decode cX10_day 105 = .ok (.bipush 10, 2) := by decide +kernel
theorem dX10_day_107 : decode cX10_day 107 = .ok (.irem, 1) := by decide +kernel
theorem dX10_day_108 : decode cX10_day 108 = .ok (.iastore, 1) := by decide +kernel
theorem dX10_day_109 : decode cX10_day 109 = .ok (.iinc 2 1, 3) := by decide +kernel
theorem dX10_day_112 : decode cX10_day 112 = .ok (.goto (-90), 3) := by decide +kernel
theorem dX10_day_115 : decode cX10_day 115 = .ok (.aload_n 0, 1) := by decide +kernel
theorem dX10_day_116 : decode cX10_day 116 = .ok (.aload_n 0, 1) := by decide +kernel
theorem dX10_day_117 : decode cX10_day 117 = .ok (.invokevirtual 196, 3) := by decide +kernel
theorem dX10_day_120 : decode cX10_day 120 = .ok (.invokevirtual 199, 3) := by decide +kernel
theorem dX10_day_123 : decode cX10_day 123 = .ok (.istore_n 2, 1) := by decide +kernel
theorem dX10_day_124 : decode cX10_day 124 = .ok (.aload_n 0, 1) := by decide +kernel
theorem dX10_day_125 : decode cX10_day 125 = .ok (.iconst 1, 1) := by decide +kernel
theorem dX10_day_126 : decode cX10_day 126 = .ok (.invokevirtual 268, 3) := by decide +kernel
theorem dX10_day_129 : decode cX10_day 129 = .ok (.iload_n 2, 1) := by decide +kernel
theorem dX10_day_130 : decode cX10_day 130 = .ok (.ireturn, 1) := by decide +kernel
theorem dX10_keep_0 : decode cX10_keep 0 = .ok (.iload_n 1, 1) := by decide +kernel
theorem dX10_keep_1 : decode cX10_keep 1 = .ok (.i2l, 1) := by decide +kernel
theorem dX10_keep_2 : decode cX10_keep 2 = .ok (.lconst 0, 1) := by decide +kernel
theorem dX10_keep_3 : decode cX10_keep 3 = .ok (.lconst 1, 1) := by decide +kernel
theorem dX10_keep_4 : decode cX10_keep 4 = .ok (.invokestatic 97, 3) := by decide +kernel
theorem dX10_keep_7 : decode cX10_keep 7 = .ok (.ifCond .ne 5, 3) := by decide +kernel
theorem dX10_keep_10 : decode cX10_keep 10 = .ok (.iconst (-1), 1) := by decide +kernel
theorem dX10_keep_11 : decode cX10_keep 11 = .ok (.ireturn, 1) := by decide +kernel
theorem dX10_keep_12 : decode cX10_keep 12 = .ok (.aload_n 0, 1) := by decide +kernel
theorem dX10_keep_13 : decode cX10_keep 13 = .ok (.getfield 89, 3) := by decide +kernel
theorem dX10_keep_16 : decode cX10_keep 16 = .ok (.iload_n 1, 1) := by decide +kernel
theorem dX10_keep_17 : decode cX10_keep 17 = .ok (.iconst 1, 1) := by decide +kernel
theorem dX10_keep_18 : decode cX10_keep 18 = .ok (.bastore, 1) := by decide +kernel
theorem dX10_keep_19 : decode cX10_keep 19 = .ok (.iconst 0, 1) := by decide +kernel
theorem dX10_keep_20 : decode cX10_keep 20 = .ok (.istore_n 2, 1) := by decide +kernel
theorem dX10_keep_21 : decode cX10_keep 21 = .ok (.iload_n 2, 1) := by decide +kernel
theorem dX10_keep_22 : decode cX10_keep 22 = .ok (.iconst 5, 1) := by decide +kernel
theorem dX10_keep_23 : decode cX10_keep 23 = .ok (.if_icmp .ge 25, 3) := by decide +kernel
theorem dX10_keep_26 : decode cX10_keep 26 = .ok (.aload_n 0, 1) := by decide +kernel
theorem dX10_keep_27 : decode cX10_keep 27 = .ok (.getfield 92, 3) := by decide +kernel
theorem dX10_keep_30 : decode cX10_keep 30 = .ok (.iconst 5, 1) := by decide +kernel
theorem dX10_keep_31 : decode cX10_keep 31 = .ok (.iload_n 1, 1) := by decide +kernel
theorem dX10_keep_32 : decode cX10_keep 32 = .ok (.imul, 1) := by decide +kernel
theorem dX10_keep_33 : decode cX10_keep 33 = .ok (.iload_n 2, 1) := by decide +kernel
theorem dX10_keep_34 : decode cX10_keep 34 = .ok (.iadd, 1) := by decide +kernel
theorem dX10_keep_35 : decode cX10_keep 35 = .ok (.aload_n 0, 1) := by decide +kernel
theorem dX10_keep_36 : decode cX10_keep 36 = .ok (.getfield 25, 3) := by decide +kernel
theorem dX10_keep_39 : decode cX10_keep 39 = .ok (.iload_n 2, 1) := by decide +kernel
theorem dX10_keep_40 : decode cX10_keep 40 = .ok (.iaload, 1) := by decide +kernel
theorem dX10_keep_41 : decode cX10_keep 41 = .ok (.iastore, 1) := by decide +kernel
theorem dX10_keep_42 : decode cX10_keep 42 = .ok (.iinc 2 1, 3) := by decide +kernel
theorem dX10_keep_45 : decode cX10_keep 45 = .ok (.goto (-24), 3) := by decide +kernel
theorem dX10_keep_48 : decode cX10_keep 48 = .ok (.aload_n 0, 1) := by decide +kernel
theorem dX10_keep_49 : decode cX10_keep 49 = .ok (.aload_n 0, 1) := by decide +kernel
theorem dX10_keep_50 : decode cX10_keep 50 = .ok (.invokevirtual 196, 3) := by decide +kernel
theorem dX10_keep_53 : decode cX10_keep 53 = .ok (.invokevirtual 199, 3) := by decide +kernel
theorem dX10_keep_56 : decode cX10_keep 56 = .ok (.ireturn, 1) := by decide +kernel
theorem dX10_again_0 : decode cX10_again 0 = .ok (.iload_n 1, 1) := by decide +kernel
theorem dX10_again_1 : decode cX10_again 1 = .ok (.i2l, 1) := by decide +kernel
theorem dX10_again_2 : decode cX10_again 2 = .ok (.lconst 0, 1) := by decide +kernel
theorem dX10_again_3 : decode cX10_again 3 = .ok (.lconst 1, 1) := by decide +kernel
theorem dX10_again_4 : decode cX10_again 4 = .ok (.invokestatic 97, 3) := by decide +kernel
theorem dX10_again_7 : decode cX10_again 7 = .ok (.ifCond .ne 5, 3) := by decide +kernel
theorem dX10_again_10 : decode cX10_again 10 = .ok (.iconst (-1), 1) := by decide +kernel
theorem dX10_again_11 : decode cX10_again 11 = .ok (.ireturn, 1) := by decide +kernel
theorem dX10_again_12 : decode cX10_again 12 = .ok (.aload_n 0, 1) := by decide +kernel
theorem dX10_again_13 : decode cX10_again 13 = .ok (.getfield 89, 3) := by decide +kernel
theorem dX10_again_16 : decode cX10_again 16 = .ok (.iload_n 1, 1) := by decide +kernel
theorem dX10_again_17 : decode cX10_again 17 = .ok (.baload, 1) := by decide +kernel
theorem dX10_again_18 : decode cX10_again 18 = .ok (.ifCond .ne 6, 3) := by decide +kernel
theorem dX10_again_21 : decode cX10_again 21 = .ok (.bipush (-3), 2) := by decide +kernel
theorem dX10_again_23 : decode cX10_again 23 = .ok (.ireturn, 1) := by decide +kernel
theorem dX10_again_24 : decode cX10_again 24 = .ok (.iconst 0, 1) := by decide +kernel
theorem dX10_again_25 : decode cX10_again 25 = .ok (.istore_n 2, 1) := by decide +kernel
theorem dX10_again_26 : decode cX10_again 26 = .ok (.iload_n 2, 1) := by decide +kernel
theorem dX10_again_27 : decode cX10_again 27 = .ok (.iconst 5, 1) := by decide +kernel
theorem dX10_again_28 : decode cX10_again 28 = .ok (.if_icmp .ge 25, 3) := by decide +kernel
theorem dX10_again_31 : decode cX10_again 31 = .ok (.aload_n 0, 1) := by decide +kernel
theorem dX10_again_32 : decode cX10_again 32 = .ok (.getfield 25, 3) := by decide +kernel
theorem dX10_again_35 : decode cX10_again 35 = .ok (.iload_n 2, 1) := by decide +kernel
theorem dX10_again_36 : decode cX10_again 36 = .ok (.aload_n 0, 1) := by decide +kernel
theorem dX10_again_37 : decode cX10_again 37 = .ok (.getfield 92, 3) := by decide +kernel
theorem dX10_again_40 : decode cX10_again 40 = .ok (.iconst 5, 1) := by decide +kernel
theorem dX10_again_41 : decode cX10_again 41 = .ok (.iload_n 1, 1) := by decide +kernel
theorem dX10_again_42 : decode cX10_again 42 = .ok (.imul, 1) := by decide +kernel
theorem dX10_again_43 : decode cX10_again 43 = .ok (.iload_n 2, 1) := by decide +kernel
theorem dX10_again_44 : decode cX10_again 44 = .ok (.iadd, 1) := by decide +kernel
theorem dX10_again_45 : decode cX10_again 45 = .ok (.iaload, 1) := by decide +kernel
theorem dX10_again_46 : decode cX10_again 46 = .ok (.iastore, 1) := by decide +kernel
theorem dX10_again_47 : decode cX10_again 47 = .ok (.iinc 2 1, 3) := by decide +kernel
theorem dX10_again_50 : decode cX10_again 50 = .ok (.goto (-24), 3) := by decide +kernel
theorem dX10_again_53 : decode cX10_again 53 = .ok (.aload_n 0, 1) := by decide +kernel
theorem dX10_again_54 : decode cX10_again 54 = .ok (.iconst 0, 1) := by decide +kernel
theorem dX10_again_55 : decode cX10_again 55 = .ok (.putfield 138, 3) := by decide +kernel
theorem dX10_again_58 : decode cX10_again 58 = .ok (.aload_n 0, 1) := by decide +kernel
theorem dX10_again_59 : decode cX10_again 59 = .ok (.aload_n 0, 1) := by decide +kernel
theorem dX10_again_60 : decode cX10_again 60 = .ok (.invokevirtual 196, 3) := by decide +kernel
theorem dX10_again_63 : decode cX10_again 63 = .ok (.invokevirtual 199, 3) := by decide +kernel
theorem dX10_again_66 : decode cX10_again 66 = .ok (.ireturn, 1) := by decide +kernel
theorem dX10_count_0 : decode cX10_count 0 = .ok (.iload_n 1, 1) := by decide +kernel
theorem dX10_count_1 : decode cX10_count 1 = .ok (.tableswitch 93 0 7 #[47, 52, 57, 62, 67, 76, 83, 88], 47) := by decide +kernel
theorem dX10_count_48 : decode cX10_count 48 = .ok (.aload_n 0, 1) := by decide +kernel
theorem dX10_count_49 : decode cX10_count 49 = .ok (.getfield 101, 3) := by decide +kernel
theorem dX10_count_52 : decode cX10_count 52 = .ok (.ireturn, 1) := by decide +kernel
theorem dX10_count_53 : decode cX10_count 53 = .ok (.aload_n 0, 1) := by decide +kernel
theorem dX10_count_54 : decode cX10_count 54 = .ok (.getfield 132, 3) := by decide +kernel
theorem dX10_count_57 : decode cX10_count 57 = .ok (.ireturn, 1) := by decide +kernel
theorem dX10_count_58 : decode cX10_count 58 = .ok (.aload_n 0, 1) := by decide +kernel
theorem dX10_count_59 : decode cX10_count 59 = .ok (.getfield 135, 3) := by decide +kernel
theorem dX10_count_62 : decode cX10_count 62 = .ok (.ireturn, 1) := by decide +kernel
theorem dX10_count_63 : decode cX10_count 63 = .ok (.aload_n 0, 1) := by decide +kernel
theorem dX10_count_64 : decode cX10_count 64 = .ok (.invokevirtual 196, 3) := by decide +kernel
theorem dX10_count_67 : decode cX10_count 67 = .ok (.ireturn, 1) := by decide +kernel
theorem dX10_count_68 : decode cX10_count 68 = .ok (.aload_n 0, 1) := by decide +kernel
theorem dX10_count_69 : decode cX10_count 69 = .ok (.aload_n 0, 1) := by decide +kernel
theorem dX10_count_70 : decode cX10_count 70 = .ok (.invokevirtual 196, 3) := by decide +kernel
theorem dX10_count_73 : decode cX10_count 73 = .ok (.invokevirtual 199, 3) := by decide +kernel
theorem dX10_count_76 : decode cX10_count 76 = .ok (.ireturn, 1) := by decide +kernel
theorem dX10_count_77 : decode cX10_count 77 = .ok (.aload_n 0, 1) := by decide +kernel
theorem dX10_count_78 : decode cX10_count 78 = .ok (.bipush (-9), 2) := by decide +kernel
theorem dX10_count_80 : decode cX10_count 80 = .ok (.invokevirtual 167, 3) := by decide +kernel
theorem dX10_count_83 : decode cX10_count 83 = .ok (.ireturn, 1) := by decide +kernel
theorem dX10_count_84 : decode cX10_count 84 = .ok (.aload_n 0, 1) := by decide +kernel
theorem dX10_count_85 : decode cX10_count 85 = .ok (.getfield 138, 3) := by decide +kernel
theorem dX10_count_88 : decode cX10_count 88 = .ok (.ireturn, 1) := by decide +kernel
theorem dX10_count_89 : decode cX10_count 89 = .ok (.aload_n 0, 1) := by decide +kernel
theorem dX10_count_90 : decode cX10_count 90 = .ok (.getfield 273, 3) := by decide +kernel
theorem dX10_count_93 : decode cX10_count 93 = .ok (.ireturn, 1) := by decide +kernel
theorem dX10_count_94 : decode cX10_count 94 = .ok (.bipush (-2), 2) := by decide +kernel
theorem dX10_count_96 : decode cX10_count 96 = .ok (.ireturn, 1) := by decide +kernel
end
section
theorem dJ9_abs_0f7a4_0 : decode cJ9_abs_0f7a4 0 = .ok (.iload_n 0, 1) := by decide +kernel
theorem dJ9_abs_0f7a4_1 : decode cJ9_abs_0f7a4 1 = .ok (.ifCond .ge 8, 3) := by decide +kernel
theorem dJ9_abs_0f7a4_4 : decode cJ9_abs_0f7a4 4 = .ok (.iload_n 0, 1) := by decide +kernel
theorem dJ9_abs_0f7a4_5 : decode cJ9_abs_0f7a4 5 = .ok (.ineg, 1) := by decide +kernel
theorem dJ9_abs_0f7a4_6 : decode cJ9_abs_0f7a4 6 = .ok (.goto 4, 3) := by decide +kernel
theorem dJ9_abs_0f7a4_9 : decode cJ9_abs_0f7a4 9 = .ok (.iload_n 0, 1) := by decide +kernel
theorem dJ9_abs_0f7a4_10 : decode cJ9_abs_0f7a4 10 = .ok (.ireturn, 1) := by decide +kernel
end
section
theorem dL_law_0 : decode cL_law 0 = .ok (.new 7, 3) := by decide +kernel
theorem dL_law_3 : decode cL_law 3 = .ok (.dup, 1) := by decide +kernel
theorem dL_law_4 : decode cL_law 4 = .ok (.invokespecial 9, 3) := by decide +kernel
theorem dL_law_7 : decode cL_law 7 = .ok (.astore_n 1, 1) := by decide +kernel
theorem dL_law_8 : decode cL_law 8 = .ok (.new 10, 3) := by decide +kernel
theorem dL_law_11 : decode cL_law 11 = .ok (.dup, 1) := by decide +kernel
theorem dL_law_12 : decode cL_law 12 = .ok (.invokespecial 12, 3) := by decide +kernel
theorem dL_law_15 : decode cL_law 15 = .ok (.astore_n 2, 1) := by decide +kernel
theorem dL_law_16 : decode cL_law 16 = .ok (.iconst 0, 1) := by decide +kernel
theorem dL_law_17 : decode cL_law 17 = .ok (.istore_n 3, 1) := by decide +kernel
theorem dL_law_18 : decode cL_law 18 = .ok (.iload_n 3, 1) := by decide +kernel
theorem dL_law_19 : decode cL_law 19 = .ok (.aload_n 0, 1) := by decide +kernel
theorem dL_law_20 : decode cL_law 20 = .ok (.arraylength, 1) := by decide +kernel
theorem dL_law_21 : decode cL_law 21 = .ok (.iconst 4, 1) := by decide +kernel
theorem dL_law_22 : decode cL_law 22 = .ok (.isub, 1) := by decide +kernel
theorem dL_law_23 : decode cL_law 23 = .ok (.if_icmp .gt 965, 3) := by decide +kernel
theorem dL_law_26 : decode cL_law 26 = .ok (.aload_n 0, 1) := by decide +kernel
theorem dL_law_27 : decode cL_law 27 = .ok (.iload_n 3, 1) := by decide +kernel
theorem dL_law_28 : decode cL_law 28 = .ok (.iaload, 1) := by decide +kernel
theorem dL_law_29 : decode cL_law 29 = .ok (.bipush 31, 2) := by decide +kernel
theorem dL_law_31 : decode cL_law 31 = .ok (.iand, 1) := by decide +kernel
theorem dL_law_32 : decode cL_law 32 = .ok (.tableswitch 950 0 30 #[140, 163, 176, 189, 202, 235, 268, 291, 324, 357, 380, 413, 426, 449, 472, 485, 508, 521, 554, 567, 630, 663, 676, 699, 748, 761, 804, 858, 881, 904, 927], 140) := by decide +kernel
theorem dL_law_172 : decode cL_law 172 = .ok (.aload_n 1, 1) := by decide +kernel
theorem dL_law_173 : decode cL_law 173 = .ok (.aload_n 0, 1) := by decide +kernel
theorem dL_law_174 : decode cL_law 174 = .ok (.iload_n 3, 1) := by decide +kernel
theorem dL_law_175 : decode cL_law 175 = .ok (.iconst 1, 1) := by decide +kernel
theorem dL_law_176 : decode cL_law 176 = .ok (.iadd, 1) := by decide +kernel
theorem dL_law_177 : decode cL_law 177 = .ok (.iaload, 1) := by decide +kernel
theorem dL_law_178 : decode cL_law 178 = .ok (.invokevirtual 13, 3) := by decide +kernel
theorem dL_law_181 : decode cL_law 181 = .ok (.aload_n 2, 1) := by decide +kernel
theorem dL_law_182 : decode cL_law 182 = .ok (.aload_n 0, 1) := by decide +kernel
theorem dL_law_183 : decode cL_law 183 = .ok (.iload_n 3, 1) := by decide +kernel
theorem dL_law_184 : decode cL_law 184 = .ok (.iconst 1, 1) := by decide +kernel
theorem dL_law_185 : decode cL_law 185 = .ok (.iadd, 1) := by decide +kernel
theorem dL_law_186 : decode cL_law 186 = .ok (.iaload, 1) := by decide +kernel
theorem dL_law_187 : decode cL_law 187 = .ok (.invokevirtual 17, 3) := by decide +kernel
theorem dL_law_190 : decode cL_law 190 = .ok (.if_icmp .eq 792, 3) := by decide +kernel
theorem dL_law_193 : decode cL_law 193 = .ok (.iconst 0, 1) := by decide +kernel
theorem dL_law_194 : decode cL_law 194 = .ok (.ireturn, 1) := by decide +kernel
theorem dL_law_195 : decode cL_law 195 = .ok (.aload_n 1, 1) := by decide +kernel
theorem dL_law_196 : decode cL_law 196 = .ok (.invokevirtual 18, 3) := by decide +kernel
theorem dL_law_199 : decode cL_law 199 = .ok (.aload_n 2, 1) := by decide +kernel
theorem dL_law_200 : decode cL_law 200 = .ok (.invokevirtual 22, 3) := by decide +kernel
theorem dL_law_203 : decode cL_law 203 = .ok (.if_icmp .eq 779, 3) := by decide +kernel
theorem dL_law_206 : decode cL_law 206 = .ok (.iconst 0, 1) := by decide +kernel
theorem dL_law_207 : decode cL_law 207 = .ok (.ireturn, 1) := by decide +kernel
theorem dL_law_208 : decode cL_law 208 = .ok (.aload_n 1, 1) := by decide +kernel
theorem dL_law_209 : decode cL_law 209 = .ok (.invokevirtual 23, 3) := by decide +kernel
theorem dL_law_212 : decode cL_law 212 = .ok (.aload_n 2, 1) := by decide +kernel
theorem dL_law_213 : decode cL_law 213 = .ok (.invokevirtual 26, 3) := by decide +kernel
theorem dL_law_216 : decode cL_law 216 = .ok (.if_icmp .eq 766, 3) := by decide +kernel
theorem dL_law_219 : decode cL_law 219 = .ok (.iconst 0, 1) := by decide +kernel
theorem dL_law_220 : decode cL_law 220 = .ok (.ireturn, 1) := by decide +kernel
theorem dL_law_221 : decode cL_law 221 = .ok (.aload_n 1, 1) := by decide +kernel
theorem dL_law_222 : decode cL_law 222 = .ok (.invokevirtual 27, 3) := by decide +kernel
theorem dL_law_225 : decode cL_law 225 = .ok (.aload_n 2, 1) := by decide +kernel
theorem dL_law_226 : decode cL_law 226 = .ok (.invokevirtual 30, 3) := by decide +kernel
theorem dL_law_229 : decode cL_law 229 = .ok (.if_icmp .eq 753, 3) := by decide +kernel
theorem dL_law_232 : decode cL_law 232 = .ok (.iconst 0, 1) := by decide +kernel
theorem dL_law_233 : decode cL_law 233 = .ok (.ireturn, 1) := by decide +kernel
theorem dL_law_234 : decode cL_law 234 = .ok (.aload_n 1, 1) := by decide +kernel
theorem dL_law_235 : decode cL_law 235 = .ok (.aload_n 0, 1) := by decide +kernel
theorem dL_law_236 : decode cL_law 236 = .ok (.iload_n 3, 1) := by decide +kernel
theorem dL_law_237 : decode cL_law 237 = .ok (.iconst 1, 1) := by decide +kernel
theorem dL_law_238 : decode cL_law 238 = .ok (.iadd, 1) := by decide +kernel
theorem dL_law_239 : decode cL_law 239 = .ok (.iaload, 1) := by decide +kernel
theorem dL_law_240 : decode cL_law 240 = .ok (.aload_n 0, 1) := by decide +kernel
theorem dL_law_241 : decode cL_law 241 = .ok (.iload_n 3, 1) := by decide +kernel
theorem dL_law_242 : decode cL_law 242 = .ok (.iconst 2, 1) := by decide +kernel
theorem dL_law_243 : decode cL_law 243 = .ok (.iadd, 1) := by decide +kernel
theorem dL_law_244 : decode cL_law 244 = .ok (.iaload, 1) := by decide +kernel
theorem dL_law_245 : decode cL_law 245 = .ok (.invokevirtual 31, 3) := by decide +kernel
theorem dL_law_248 : decode cL_law 248 = .ok (.aload_n 2, 1) := by decide +kernel
theorem dL_law_249 : decode cL_law 249 = .ok (.aload_n 0, 1) := by decide +kernel
theorem dL_law_250 : decode cL_law 250 = .ok (.iload_n 3, 1) := by decide +kernel
theorem dL_law_251 : decode cL_law 251 = .ok (.iconst 1, 1) := by decide +kernel
theorem dL_law_252 : decode cL_law 252 = .ok (.iadd, 1) := by decide +kernel
theorem dL_law_253 : decode cL_law 253 = .ok (.iaload, 1) := by decide +kernel
theorem dL_law_254 : decode cL_law 254 = .ok (.aload_n 0, 1) := by decide +kernel
theorem dL_law_255 : decode cL_law 255 = .ok (.iload_n 3, 1) := by decide +kernel
theorem dL_law_256 : decode cL_law 256 = .ok (.iconst 2, 1) := by decide +kernel
theorem dL_law_257 : decode cL_law 257 = .ok (.iadd, 1) := by decide +kernel
theorem dL_law_258 : decode cL_law 258 = .ok (.iaload, 1) := by decide +kernel
theorem dL_law_259 : decode cL_law 259 = .ok (.invokevirtual 35, 3) := by decide +kernel
theorem dL_law_262 : decode cL_law 262 = .ok (.if_icmp .eq 720, 3) := by decide +kernel
theorem dL_law_265 : decode cL_law 265 = .ok (.iconst 0, 1) := by decide +kernel
theorem dL_law_266 : decode cL_law 266 = .ok (.ireturn, 1) := by decide +kernel
theorem dL_law_267 : decode cL_law 267 = .ok (.aload_n 1, 1) := by decide +kernel
theorem dL_law_268 : decode cL_law 268 = .ok (.aload_n 0, 1) := by decide +kernel
theorem dL_law_269 : decode cL_law 269 = .ok (.iload_n 3, 1) := by decide +kernel
theorem dL_law_270 : decode cL_law 270 = .ok (.iconst 1, 1) := by decide +kernel
theorem dL_law_271 : decode cL_law 271 = .ok (.iadd, 1) := by decide +kernel
theorem dL_law_272 : decode cL_law 272 = .ok (.iaload, 1) := by decide +kernel
theorem dL_law_273 : decode cL_law 273 = .ok (.aload_n 0, 1) := by decide +kernel
theorem dL_law_274 : decode cL_law 274 = .ok (.iload_n 3, 1) := by decide +kernel
theorem dL_law_275 : decode cL_law 275 = .ok (.iconst 2, 1) := by decide +kernel
theorem dL_law_276 : decode cL_law 276 = .ok (.iadd, 1) := by decide +kernel
theorem dL_law_277 : decode cL_law 277 = .ok (.iaload, 1) := by decide +kernel
theorem dL_law_278 : decode cL_law 278 = .ok (.invokevirtual 36, 3) := by decide +kernel
theorem dL_law_281 : decode cL_law 281 = .ok (.aload_n 2, 1) := by decide +kernel
theorem dL_law_282 : decode cL_law 282 = .ok (.aload_n 0, 1) := by decide +kernel
theorem dL_law_283 : decode cL_law 283 = .ok (.iload_n 3, 1) := by decide +kernel
theorem dL_law_284 : decode cL_law 284 = .ok (.iconst 1, 1) := by decide +kernel
theorem dL_law_285 : decode cL_law 285 = .ok (.iadd, 1) := by decide +kernel
theorem dL_law_286 : decode cL_law 286 = .ok (.iaload, 1) := by decide +kernel
theorem dL_law_287 : decode cL_law 287 = .ok (.aload_n 0, 1) := by decide +kernel
theorem dL_law_288 : decode cL_law 288 = .ok (.iload_n 3, 1) := by decide +kernel
theorem dL_law_289 : decode cL_law 289 = .ok (.iconst 2, 1) := by decide +kernel
theorem dL_law_290 : decode cL_law 290 = .ok (.iadd, 1) := by decide +kernel
theorem dL_law_291 : decode cL_law 291 = .ok (.iaload, 1) := by decide +kernel
theorem dL_law_292 : decode cL_law 292 = .ok (.invokevirtual 39, 3) := by decide +kernel
theorem dL_law_295 : decode cL_law 295 = .ok (.if_icmp .eq 687, 3) := by decide +kernel
theorem dL_law_298 : decode cL_law 298 = .ok (.iconst 0, 1) := by decide +kernel
theorem dL_law_299 : decode cL_law 299 = .ok (.ireturn, 1) := by decide +kernel
theorem dL_law_300 : decode cL_law 300 = .ok (.aload_n 1, 1) := by decide +kernel
theorem dL_law_301 : decode cL_law 301 = .ok (.aload_n 0, 1) := by decide +kernel
theorem dL_law_302 : decode cL_law 302 = .ok (.iload_n 3, 1) := by decide +kernel
theorem dL_law_303 : decode cL_law 303 = .ok (.iconst 1, 1) := by decide +kernel
theorem dL_law_304 : decode cL_law 304 = .ok (.iadd, 1) := by decide +kernel
theorem dL_law_305 : decode cL_law 305 = .ok (.iaload, 1) := by decide +kernel
theorem dL_law_306 : decode cL_law 306 = .ok (.invokevirtual 40, 3) := by decide +kernel
theorem dL_law_309 : decode cL_law 309 = .ok (.aload_n 2, 1) := by decide +kernel
theorem dL_law_310 : decode cL_law 310 = .ok (.aload_n 0, 1) := by decide +kernel
theorem dL_law_311 : decode cL_law 311 = .ok (.iload_n 3, 1) := by decide +kernel
theorem dL_law_312 : decode cL_law 312 = .ok (.iconst 1, 1) := by decide +kernel
theorem dL_law_313 : decode cL_law 313 = .ok (.iadd, 1) := by decide +kernel
theorem dL_law_314 : decode cL_law 314 = .ok (.iaload, 1) := by decide +kernel
theorem dL_law_315 : decode cL_law 315 = .ok (.invokevirtual 43, 3) := by decide +kernel
theorem dL_law_318 : decode cL_law 318 = .ok (.if_icmp .eq 664, 3) := by decide +kernel
theorem dL_law_321 : decode cL_law 321 = .ok (.iconst 0, 1) := by decide +kernel
theorem dL_law_322 : decode cL_law 322 = .ok (.ireturn, 1) := by decide +kernel
theorem dL_law_323 : decode cL_law 323 = .ok (.aload_n 1, 1) := by decide +kernel
theorem dL_law_324 : decode cL_law 324 = .ok (.aload_n 0, 1) := by decide +kernel
theorem dL_law_325 : decode cL_law 325 = .ok (.iload_n 3, 1) := by decide +kernel
theorem dL_law_326 : decode cL_law 326 = .ok (.iconst 1, 1) := by decide +kernel
theorem dL_law_327 : decode cL_law 327 = .ok (.iadd, 1) := by decide +kernel
theorem dL_law_328 : decode cL_law 328 = .ok (.iaload, 1) := by decide +kernel
theorem dL_law_329 : decode cL_law 329 = .ok (.aload_n 0, 1) := by decide +kernel
theorem dL_law_330 : decode cL_law 330 = .ok (.iload_n 3, 1) := by decide +kernel
theorem dL_law_331 : decode cL_law 331 = .ok (.iconst 2, 1) := by decide +kernel
theorem dL_law_332 : decode cL_law 332 = .ok (.iadd, 1) := by decide +kernel
theorem dL_law_333 : decode cL_law 333 = .ok (.iaload, 1) := by decide +kernel
theorem dL_law_334 : decode cL_law 334 = .ok (.invokevirtual 44, 3) := by decide +kernel
theorem dL_law_337 : decode cL_law 337 = .ok (.aload_n 2, 1) := by decide +kernel
theorem dL_law_338 : decode cL_law 338 = .ok (.aload_n 0, 1) := by decide +kernel
theorem dL_law_339 : decode cL_law 339 = .ok (.iload_n 3, 1) := by decide +kernel
theorem dL_law_340 : decode cL_law 340 = .ok (.iconst 1, 1) := by decide +kernel
theorem dL_law_341 : decode cL_law 341 = .ok (.iadd, 1) := by decide +kernel
theorem dL_law_342 : decode cL_law 342 = .ok (.iaload, 1) := by decide +kernel
theorem dL_law_343 : decode cL_law 343 = .ok (.aload_n 0, 1) := by decide +kernel
theorem dL_law_344 : decode cL_law 344 = .ok (.iload_n 3, 1) := by decide +kernel
theorem dL_law_345 : decode cL_law 345 = .ok (.iconst 2, 1) := by decide +kernel
theorem dL_law_346 : decode cL_law 346 = .ok (.iadd, 1) := by decide +kernel
theorem dL_law_347 : decode cL_law 347 = .ok (.iaload, 1) := by decide +kernel
theorem dL_law_348 : decode cL_law 348 = .ok (.invokevirtual 47, 3) := by decide +kernel
theorem dL_law_351 : decode cL_law 351 = .ok (.if_icmp .eq 631, 3) := by decide +kernel
theorem dL_law_354 : decode cL_law 354 = .ok (.iconst 0, 1) := by decide +kernel
theorem dL_law_355 : decode cL_law 355 = .ok (.ireturn, 1) := by decide +kernel
theorem dL_law_356 : decode cL_law 356 = .ok (.aload_n 1, 1) := by decide +kernel
theorem dL_law_357 : decode cL_law 357 = .ok (.aload_n 0, 1) := by decide +kernel
theorem dL_law_358 : decode cL_law 358 = .ok (.iload_n 3, 1) := by decide +kernel
theorem dL_law_359 : decode cL_law 359 = .ok (.iconst 1, 1) := by decide +kernel
theorem dL_law_360 : decode cL_law 360 = .ok (.iadd, 1) := by decide +kernel
theorem dL_law_361 : decode cL_law 361 = .ok (.iaload, 1) := by decide +kernel
theorem dL_law_362 : decode cL_law 362 = .ok (.aload_n 0, 1) := by decide +kernel
theorem dL_law_363 : decode cL_law 363 = .ok (.iload_n 3, 1) := by decide +kernel
theorem dL_law_364 : decode cL_law 364 = .ok (.iconst 2, 1) := by decide +kernel
theorem dL_law_365 : decode cL_law 365 = .ok (.iadd, 1) := by decide +kernel
theorem dL_law_366 : decode cL_law 366 = .ok (.iaload, 1) := by decide +kernel
theorem dL_law_367 : decode cL_law 367 = .ok (.invokevirtual 48, 3) := by decide +kernel
theorem dL_law_370 : decode cL_law 370 = .ok (.aload_n 2, 1) := by decide +kernel
theorem dL_law_371 : decode cL_law 371 = .ok (.aload_n 0, 1) := by decide +kernel
theorem dL_law_372 : decode cL_law 372 = .ok (.iload_n 3, 1) := by decide +kernel
theorem dL_law_373 : decode cL_law 373 = .ok (.iconst 1, 1) := by decide +kernel
theorem dL_law_374 : decode cL_law 374 = .ok (.iadd, 1) := by decide +kernel
theorem dL_law_375 : decode cL_law 375 = .ok (.iaload, 1) := by decide +kernel
theorem dL_law_376 : decode cL_law 376 = .ok (.aload_n 0, 1) := by decide +kernel
theorem dL_law_377 : decode cL_law 377 = .ok (.iload_n 3, 1) := by decide +kernel
theorem dL_law_378 : decode cL_law 378 = .ok (.iconst 2, 1) := by decide +kernel
theorem dL_law_379 : decode cL_law 379 = .ok (.iadd, 1) := by decide +kernel
theorem dL_law_380 : decode cL_law 380 = .ok (.iaload, 1) := by decide +kernel
theorem dL_law_381 : decode cL_law 381 = .ok (.invokevirtual 51, 3) := by decide +kernel
theorem dL_law_384 : decode cL_law 384 = .ok (.if_icmp .eq 598, 3) := by decide +kernel
theorem dL_law_387 : decode cL_law 387 = .ok (.iconst 0, 1) := by decide +kernel
theorem dL_law_388 : decode cL_law 388 = .ok (.ireturn, 1) := by decide +kernel
theorem dL_law_389 : decode cL_law 389 = .ok (.aload_n 1, 1) := by decide +kernel
theorem dL_law_390 : decode cL_law 390 = .ok (.aload_n 0, 1) := by decide +kernel
theorem dL_law_391 : decode cL_law 391 = .ok (.iload_n 3, 1) := by decide +kernel
theorem dL_law_392 : decode cL_law 392 = .ok (.iconst 1, 1) := by decide +kernel
theorem dL_law_393 : decode cL_law 393 = .ok (.iadd, 1) := by decide +kernel
theorem dL_law_394 : decode cL_law 394 = .ok (.iaload, 1) := by decide +kernel
theorem dL_law_395 : decode cL_law 395 = .ok (.invokevirtual 52, 3) := by decide +kernel
theorem dL_law_398 : decode cL_law 398 = .ok (.aload_n 2, 1) := by decide +kernel
theorem dL_law_399 : decode cL_law 399 = .ok (.aload_n 0, 1) := by decide +kernel
theorem dL_law_400 : decode cL_law 400 = .ok (.iload_n 3, 1) := by decide +kernel
theorem dL_law_401 : decode cL_law 401 = .ok (.iconst 1, 1) := by decide +kernel
theorem dL_law_402 : decode cL_law 402 = .ok (.iadd, 1) := by decide +kernel
theorem dL_law_403 : decode cL_law 403 = .ok (.iaload, 1) := by decide +kernel
theorem dL_law_404 : decode cL_law 404 = .ok (.invokevirtual 55, 3) := by decide +kernel
theorem dL_law_407 : decode cL_law 407 = .ok (.if_icmp .eq 575, 3) := by decide +kernel
theorem dL_law_410 : decode cL_law 410 = .ok (.iconst 0, 1) := by decide +kernel
theorem dL_law_411 : decode cL_law 411 = .ok (.ireturn, 1) := by decide +kernel
theorem dL_law_412 : decode cL_law 412 = .ok (.aload_n 1, 1) := by decide +kernel
theorem dL_law_413 : decode cL_law 413 = .ok (.aload_n 0, 1) := by decide +kernel
theorem dL_law_414 : decode cL_law 414 = .ok (.iload_n 3, 1) := by decide +kernel
theorem dL_law_415 : decode cL_law 415 = .ok (.iconst 1, 1) := by decide +kernel
theorem dL_law_416 : decode cL_law 416 = .ok (.iadd, 1) := by decide +kernel
theorem dL_law_417 : decode cL_law 417 = .ok (.iaload, 1) := by decide +kernel
theorem dL_law_418 : decode cL_law 418 = .ok (.aload_n 0, 1) := by decide +kernel
theorem dL_law_419 : decode cL_law 419 = .ok (.iload_n 3, 1) := by decide +kernel
theorem dL_law_420 : decode cL_law 420 = .ok (.iconst 2, 1) := by decide +kernel
theorem dL_law_421 : decode cL_law 421 = .ok (.iadd, 1) := by decide +kernel
theorem dL_law_422 : decode cL_law 422 = .ok (.iaload, 1) := by decide +kernel
theorem dL_law_423 : decode cL_law 423 = .ok (.invokevirtual 56, 3) := by decide +kernel
theorem dL_law_426 : decode cL_law 426 = .ok (.aload_n 2, 1) := by decide +kernel
theorem dL_law_427 : decode cL_law 427 = .ok (.aload_n 0, 1) := by decide +kernel
theorem dL_law_428 : decode cL_law 428 = .ok (.iload_n 3, 1) := by decide +kernel
theorem dL_law_429 : decode cL_law 429 = .ok (.iconst 1, 1) := by decide +kernel
theorem dL_law_430 : decode cL_law 430 = .ok (.iadd, 1) := by decide +kernel
theorem dL_law_431 : decode cL_law 431 = .ok (.iaload, 1) := by decide +kernel
theorem dL_law_432 : decode cL_law 432 = .ok (.aload_n 0, 1) := by decide +kernel
theorem dL_law_433 : decode cL_law 433 = .ok (.iload_n 3, 1) := by decide +kernel
theorem dL_law_434 : decode cL_law 434 = .ok (.iconst 2, 1) := by decide +kernel
theorem dL_law_435 : decode cL_law 435 = .ok (.iadd, 1) := by decide +kernel
theorem dL_law_436 : decode cL_law 436 = .ok (.iaload, 1) := by decide +kernel
theorem dL_law_437 : decode cL_law 437 = .ok (.invokevirtual 59, 3) := by decide +kernel
theorem dL_law_440 : decode cL_law 440 = .ok (.if_icmp .eq 542, 3) := by decide +kernel
theorem dL_law_443 : decode cL_law 443 = .ok (.iconst 0, 1) := by decide +kernel
theorem dL_law_444 : decode cL_law 444 = .ok (.ireturn, 1) := by decide +kernel
theorem dL_law_445 : decode cL_law 445 = .ok (.aload_n 1, 1) := by decide +kernel
theorem dL_law_446 : decode cL_law 446 = .ok (.invokevirtual 60, 3) := by decide +kernel
theorem dL_law_449 : decode cL_law 449 = .ok (.aload_n 2, 1) := by decide +kernel
theorem dL_law_450 : decode cL_law 450 = .ok (.invokevirtual 63, 3) := by decide +kernel
theorem dL_law_453 : decode cL_law 453 = .ok (.if_icmp .eq 529, 3) := by decide +kernel
theorem dL_law_456 : decode cL_law 456 = .ok (.iconst 0, 1) := by decide +kernel
theorem dL_law_457 : decode cL_law 457 = .ok (.ireturn, 1) := by decide +kernel
theorem dL_law_458 : decode cL_law 458 = .ok (.aload_n 1, 1) := by decide +kernel
theorem dL_law_459 : decode cL_law 459 = .ok (.aload_n 0, 1) := by decide +kernel
theorem dL_law_460 : decode cL_law 460 = .ok (.iload_n 3, 1) := by decide +kernel
theorem dL_law_461 : decode cL_law 461 = .ok (.iconst 1, 1) := by decide +kernel
theorem dL_law_462 : decode cL_law 462 = .ok (.iadd, 1) := by decide +kernel
theorem dL_law_463 : decode cL_law 463 = .ok (.iaload, 1) := by decide +kernel
theorem dL_law_464 : decode cL_law 464 = .ok (.invokevirtual 64, 3) := by decide +kernel
theorem dL_law_467 : decode cL_law 467 = .ok (.aload_n 2, 1) := by decide +kernel
theorem dL_law_468 : decode cL_law 468 = .ok (.aload_n 0, 1) := by decide +kernel
theorem dL_law_469 : decode cL_law 469 = .ok (.iload_n 3, 1) := by decide +kernel
theorem dL_law_470 : decode cL_law 470 = .ok (.iconst 1, 1) := by decide +kernel
theorem dL_law_471 : decode cL_law 471 = .ok (.iadd, 1) := by decide +kernel
theorem dL_law_472 : decode cL_law 472 = .ok (.iaload, 1) := by decide +kernel
theorem dL_law_473 : decode cL_law 473 = .ok (.invokevirtual 67, 3) := by decide +kernel
theorem dL_law_476 : decode cL_law 476 = .ok (.if_icmp .eq 506, 3) := by decide +kernel
theorem dL_law_479 : decode cL_law 479 = .ok (.iconst 0, 1) := by decide +kernel
theorem dL_law_480 : decode cL_law 480 = .ok (.ireturn, 1) := by decide +kernel
theorem dL_law_481 : decode cL_law 481 = .ok (.aload_n 1, 1) := by decide +kernel
theorem dL_law_482 : decode cL_law 482 = .ok (.aload_n 0, 1) := by decide +kernel
theorem dL_law_483 : decode cL_law 483 = .ok (.iload_n 3, 1) := by decide +kernel
theorem dL_law_484 : decode cL_law 484 = .ok (.iconst 1, 1) := by decide +kernel
theorem dL_law_485 : decode cL_law 485 = .ok (.iadd, 1) := by decide +kernel
theorem dL_law_486 : decode cL_law 486 = .ok (.iaload, 1) := by decide +kernel
theorem dL_law_487 : decode cL_law 487 = .ok (.invokevirtual 68, 3) := by decide +kernel
theorem dL_law_490 : decode cL_law 490 = .ok (.aload_n 2, 1) := by decide +kernel
theorem dL_law_491 : decode cL_law 491 = .ok (.aload_n 0, 1) := by decide +kernel
theorem dL_law_492 : decode cL_law 492 = .ok (.iload_n 3, 1) := by decide +kernel
theorem dL_law_493 : decode cL_law 493 = .ok (.iconst 1, 1) := by decide +kernel
theorem dL_law_494 : decode cL_law 494 = .ok (.iadd, 1) := by decide +kernel
theorem dL_law_495 : decode cL_law 495 = .ok (.iaload, 1) := by decide +kernel
theorem dL_law_496 : decode cL_law 496 = .ok (.invokevirtual 71, 3) := by decide +kernel
theorem dL_law_499 : decode cL_law 499 = .ok (.if_icmp .eq 483, 3) := by decide +kernel
theorem dL_law_502 : decode cL_law 502 = .ok (.iconst 0, 1) := by decide +kernel
theorem dL_law_503 : decode cL_law 503 = .ok (.ireturn, 1) := by decide +kernel
theorem dL_law_504 : decode cL_law 504 = .ok (.aload_n 1, 1) := by decide +kernel
theorem dL_law_505 : decode cL_law 505 = .ok (.invokevirtual 72, 3) := by decide +kernel
theorem dL_law_508 : decode cL_law 508 = .ok (.aload_n 2, 1) := by decide +kernel
theorem dL_law_509 : decode cL_law 509 = .ok (.invokevirtual 75, 3) := by decide +kernel
theorem dL_law_512 : decode cL_law 512 = .ok (.if_icmp .eq 470, 3) := by decide +kernel
theorem dL_law_515 : decode cL_law 515 = .ok (.iconst 0, 1) := by decide +kernel
theorem dL_law_516 : decode cL_law 516 = .ok (.ireturn, 1) := by decide +kernel
theorem dL_law_517 : decode cL_law 517 = .ok (.aload_n 1, 1) := by decide +kernel
theorem dL_law_518 : decode cL_law 518 = .ok (.aload_n 0, 1) := by decide +kernel
theorem dL_law_519 : decode cL_law 519 = .ok (.iload_n 3, 1) := by decide +kernel
theorem dL_law_520 : decode cL_law 520 = .ok (.iconst 1, 1) := by decide +kernel
theorem dL_law_521 : decode cL_law 521 = .ok (.iadd, 1) := by decide +kernel
theorem dL_law_522 : decode cL_law 522 = .ok (.iaload, 1) := by decide +kernel
theorem dL_law_523 : decode cL_law 523 = .ok (.invokevirtual 76, 3) := by decide +kernel
theorem dL_law_526 : decode cL_law 526 = .ok (.aload_n 2, 1) := by decide +kernel
theorem dL_law_527 : decode cL_law 527 = .ok (.aload_n 0, 1) := by decide +kernel
theorem dL_law_528 : decode cL_law 528 = .ok (.iload_n 3, 1) := by decide +kernel
theorem dL_law_529 : decode cL_law 529 = .ok (.iconst 1, 1) := by decide +kernel
theorem dL_law_530 : decode cL_law 530 = .ok (.iadd, 1) := by decide +kernel
theorem dL_law_531 : decode cL_law 531 = .ok (.iaload, 1) := by decide +kernel
theorem dL_law_532 : decode cL_law 532 = .ok (.invokevirtual 79, 3) := by decide +kernel
theorem dL_law_535 : decode cL_law 535 = .ok (.if_icmp .eq 447, 3) := by decide +kernel
theorem dL_law_538 : decode cL_law 538 = .ok (.iconst 0, 1) := by decide +kernel
theorem dL_law_539 : decode cL_law 539 = .ok (.ireturn, 1) := by decide +kernel
theorem dL_law_540 : decode cL_law 540 = .ok (.aload_n 1, 1) := by decide +kernel
theorem dL_law_541 : decode cL_law 541 = .ok (.invokevirtual 80, 3) := by decide +kernel
theorem dL_law_544 : decode cL_law 544 = .ok (.aload_n 2, 1) := by decide +kernel
theorem dL_law_545 : decode cL_law 545 = .ok (.invokevirtual 83, 3) := by decide +kernel
theorem dL_law_548 : decode cL_law 548 = .ok (.if_icmp .eq 434, 3) := by decide +kernel
theorem dL_law_551 : decode cL_law 551 = .ok (.iconst 0, 1) := by decide +kernel
theorem dL_law_552 : decode cL_law 552 = .ok (.ireturn, 1) := by decide +kernel
theorem dL_law_553 : decode cL_law 553 = .ok (.aload_n 1, 1) := by decide +kernel
theorem dL_law_554 : decode cL_law 554 = .ok (.aload_n 0, 1) := by decide +kernel
theorem dL_law_555 : decode cL_law 555 = .ok (.iload_n 3, 1) := by decide +kernel
theorem dL_law_556 : decode cL_law 556 = .ok (.iconst 1, 1) := by decide +kernel
theorem dL_law_557 : decode cL_law 557 = .ok (.iadd, 1) := by decide +kernel
theorem dL_law_558 : decode cL_law 558 = .ok (.iaload, 1) := by decide +kernel
theorem dL_law_559 : decode cL_law 559 = .ok (.aload_n 0, 1) := by decide +kernel
theorem dL_law_560 : decode cL_law 560 = .ok (.iload_n 3, 1) := by decide +kernel
theorem dL_law_561 : decode cL_law 561 = .ok (.iconst 2, 1) := by decide +kernel
theorem dL_law_562 : decode cL_law 562 = .ok (.iadd, 1) := by decide +kernel
theorem dL_law_563 : decode cL_law 563 = .ok (.iaload, 1) := by decide +kernel
theorem dL_law_564 : decode cL_law 564 = .ok (.invokevirtual 84, 3) := by decide +kernel
theorem dL_law_567 : decode cL_law 567 = .ok (.aload_n 2, 1) := by decide +kernel
theorem dL_law_568 : decode cL_law 568 = .ok (.aload_n 0, 1) := by decide +kernel
theorem dL_law_569 : decode cL_law 569 = .ok (.iload_n 3, 1) := by decide +kernel
theorem dL_law_570 : decode cL_law 570 = .ok (.iconst 1, 1) := by decide +kernel
theorem dL_law_571 : decode cL_law 571 = .ok (.iadd, 1) := by decide +kernel
theorem dL_law_572 : decode cL_law 572 = .ok (.iaload, 1) := by decide +kernel
theorem dL_law_573 : decode cL_law 573 = .ok (.aload_n 0, 1) := by decide +kernel
theorem dL_law_574 : decode cL_law 574 = .ok (.iload_n 3, 1) := by decide +kernel
theorem dL_law_575 : decode cL_law 575 = .ok (.iconst 2, 1) := by decide +kernel
theorem dL_law_576 : decode cL_law 576 = .ok (.iadd, 1) := by decide +kernel
theorem dL_law_577 : decode cL_law 577 = .ok (.iaload, 1) := by decide +kernel
theorem dL_law_578 : decode cL_law 578 = .ok (.invokevirtual 87, 3) := by decide +kernel
theorem dL_law_581 : decode cL_law 581 = .ok (.if_icmp .eq 401, 3) := by decide +kernel
theorem dL_law_584 : decode cL_law 584 = .ok (.iconst 0, 1) := by decide +kernel
theorem dL_law_585 : decode cL_law 585 = .ok (.ireturn, 1) := by decide +kernel
theorem dL_law_586 : decode cL_law 586 = .ok (.aload_n 1, 1) := by decide +kernel
theorem dL_law_587 : decode cL_law 587 = .ok (.invokevirtual 88, 3) := by decide +kernel
theorem dL_law_590 : decode cL_law 590 = .ok (.aload_n 2, 1) := by decide +kernel
theorem dL_law_591 : decode cL_law 591 = .ok (.invokevirtual 91, 3) := by decide +kernel
theorem dL_law_594 : decode cL_law 594 = .ok (.if_icmp .eq 388, 3) := by decide +kernel
theorem dL_law_597 : decode cL_law 597 = .ok (.iconst 0, 1) := by decide +kernel
theorem dL_law_598 : decode cL_law 598 = .ok (.ireturn, 1) := by decide +kernel
theorem dL_law_599 : decode cL_law 599 = .ok (.aload_n 1, 1) := by decide +kernel
theorem dL_law_600 : decode cL_law 600 = .ok (.aload_n 0, 1) := by decide +kernel
theorem dL_law_601 : decode cL_law 601 = .ok (.iload_n 3, 1) := by decide +kernel
theorem dL_law_602 : decode cL_law 602 = .ok (.iconst 1, 1) := by decide +kernel
theorem dL_law_603 : decode cL_law 603 = .ok (.iadd, 1) := by decide +kernel
theorem dL_law_604 : decode cL_law 604 = .ok (.iaload, 1) := by decide +kernel
theorem dL_law_605 : decode cL_law 605 = .ok (.aload_n 0, 1) := by decide +kernel
theorem dL_law_606 : decode cL_law 606 = .ok (.iload_n 3, 1) := by decide +kernel
theorem dL_law_607 : decode cL_law 607 = .ok (.iconst 2, 1) := by decide +kernel
theorem dL_law_608 : decode cL_law 608 = .ok (.iadd, 1) := by decide +kernel
theorem dL_law_609 : decode cL_law 609 = .ok (.iaload, 1) := by decide +kernel
theorem dL_law_610 : decode cL_law 610 = .ok (.i2l, 1) := by decide +kernel
theorem dL_law_611 : decode cL_law 611 = .ok (.bipush 32, 2) := by decide +kernel
theorem dL_law_613 : decode cL_law 613 = .ok (.lshl, 1) := by decide +kernel
theorem dL_law_614 : decode cL_law 614 = .ok (.aload_n 0, 1) := by decide +kernel
theorem dL_law_615 : decode cL_law 615 = .ok (.iload_n 3, 1) := by decide +kernel
theorem dL_law_616 : decode cL_law 616 = .ok (.iconst 3, 1) := by decide +kernel
theorem dL_law_617 : decode cL_law 617 = .ok (.iadd, 1) := by decide +kernel
theorem dL_law_618 : decode cL_law 618 = .ok (.iaload, 1) := by decide +kernel
theorem dL_law_619 : decode cL_law 619 = .ok (.i2l, 1) := by decide +kernel
theorem dL_law_620 : decode cL_law 620 = .ok (.ldc2_w 92, 3) := by decide +kernel
theorem dL_law_623 : decode cL_law 623 = .ok (.land, 1) := by decide +kernel
theorem dL_law_624 : decode cL_law 624 = .ok (.lor, 1) := by decide +kernel
theorem dL_law_625 : decode cL_law 625 = .ok (.invokevirtual 94, 3) := by decide +kernel
theorem dL_law_628 : decode cL_law 628 = .ok (.aload_n 2, 1) := by decide +kernel
theorem dL_law_629 : decode cL_law 629 = .ok (.aload_n 0, 1) := by decide +kernel
theorem dL_law_630 : decode cL_law 630 = .ok (.iload_n 3, 1) := by decide +kernel
theorem dL_law_631 : decode cL_law 631 = .ok (.iconst 1, 1) := by decide +kernel
theorem dL_law_632 : decode cL_law 632 = .ok (.iadd, 1) := by decide +kernel
theorem dL_law_633 : decode cL_law 633 = .ok (.iaload, 1) := by decide +kernel
theorem dL_law_634 : decode cL_law 634 = .ok (.aload_n 0, 1) := by decide +kernel
theorem dL_law_635 : decode cL_law 635 = .ok (.iload_n 3, 1) := by decide +kernel
theorem dL_law_636 : decode cL_law 636 = .ok (.iconst 2, 1) := by decide +kernel
theorem dL_law_637 : decode cL_law 637 = .ok (.iadd, 1) := by decide +kernel
theorem dL_law_638 : decode cL_law 638 = .ok (.iaload, 1) := by decide +kernel
theorem dL_law_639 : decode cL_law 639 = .ok (.i2l, 1) := by decide +kernel
theorem dL_law_640 : decode cL_law 640 = .ok (.bipush 32, 2) := by decide +kernel
theorem dL_law_642 : decode cL_law 642 = .ok (.lshl, 1) := by decide +kernel
theorem dL_law_643 : decode cL_law 643 = .ok (.aload_n 0, 1) := by decide +kernel
theorem dL_law_644 : decode cL_law 644 = .ok (.iload_n 3, 1) := by decide +kernel
theorem dL_law_645 : decode cL_law 645 = .ok (.iconst 3, 1) := by decide +kernel
theorem dL_law_646 : decode cL_law 646 = .ok (.iadd, 1) := by decide +kernel
theorem dL_law_647 : decode cL_law 647 = .ok (.iaload, 1) := by decide +kernel
theorem dL_law_648 : decode cL_law 648 = .ok (.i2l, 1) := by decide +kernel
theorem dL_law_649 : decode cL_law 649 = .ok (.ldc2_w 92, 3) := by decide +kernel
theorem dL_law_652 : decode cL_law 652 = .ok (.land, 1) := by decide +kernel
theorem dL_law_653 : decode cL_law 653 = .ok (.lor, 1) := by decide +kernel
theorem dL_law_654 : decode cL_law 654 = .ok (.invokevirtual 98, 3) := by decide +kernel
theorem dL_law_657 : decode cL_law 657 = .ok (.if_icmp .eq 325, 3) := by decide +kernel
theorem dL_law_660 : decode cL_law 660 = .ok (.iconst 0, 1) := by decide +kernel
theorem dL_law_661 : decode cL_law 661 = .ok (.ireturn, 1) := by decide +kernel
theorem dL_law_662 : decode cL_law 662 = .ok (.aload_n 1, 1) := by decide +kernel
theorem dL_law_663 : decode cL_law 663 = .ok (.aload_n 0, 1) := by decide +kernel
theorem dL_law_664 : decode cL_law 664 = .ok (.iload_n 3, 1) := by decide +kernel
theorem dL_law_665 : decode cL_law 665 = .ok (.iconst 1, 1) := by decide +kernel
theorem dL_law_666 : decode cL_law 666 = .ok (.iadd, 1) := by decide +kernel
theorem dL_law_667 : decode cL_law 667 = .ok (.iaload, 1) := by decide +kernel
theorem dL_law_668 : decode cL_law 668 = .ok (.aload_n 0, 1) := by decide +kernel
theorem dL_law_669 : decode cL_law 669 = .ok (.iload_n 3, 1) := by decide +kernel
theorem dL_law_670 : decode cL_law 670 = .ok (.iconst 2, 1) := by decide +kernel
theorem dL_law_671 : decode cL_law 671 = .ok (.iadd, 1) := by decide +kernel
theorem dL_law_672 : decode cL_law 672 = .ok (.iaload, 1) := by decide +kernel
theorem dL_law_673 : decode cL_law 673 = .ok (.invokevirtual 99, 3) := by decide +kernel
theorem dL_law_676 : decode cL_law 676 = .ok (.aload_n 2, 1) := by decide +kernel
theorem dL_law_677 : decode cL_law 677 = .ok (.aload_n 0, 1) := by decide +kernel
theorem dL_law_678 : decode cL_law 678 = .ok (.iload_n 3, 1) := by decide +kernel
theorem dL_law_679 : decode cL_law 679 = .ok (.iconst 1, 1) := by decide +kernel
theorem dL_law_680 : decode cL_law 680 = .ok (.iadd, 1) := by decide +kernel
theorem dL_law_681 : decode cL_law 681 = .ok (.iaload, 1) := by decide +kernel
theorem dL_law_682 : decode cL_law 682 = .ok (.aload_n 0, 1) := by decide +kernel
theorem dL_law_683 : decode cL_law 683 = .ok (.iload_n 3, 1) := by decide +kernel
theorem dL_law_684 : decode cL_law 684 = .ok (.iconst 2, 1) := by decide +kernel
theorem dL_law_685 : decode cL_law 685 = .ok (.iadd, 1) := by decide +kernel
theorem dL_law_686 : decode cL_law 686 = .ok (.iaload, 1) := by decide +kernel
theorem dL_law_687 : decode cL_law 687 = .ok (.invokevirtual 102, 3) := by decide +kernel
theorem dL_law_690 : decode cL_law 690 = .ok (.if_icmp .eq 292, 3) := by decide +kernel
theorem dL_law_693 : decode cL_law 693 = .ok (.iconst 0, 1) := by decide +kernel
theorem dL_law_694 : decode cL_law 694 = .ok (.ireturn, 1) := by decide +kernel
theorem dL_law_695 : decode cL_law 695 = .ok (.aload_n 1, 1) := by decide +kernel
theorem dL_law_696 : decode cL_law 696 = .ok (.invokevirtual 103, 3) := by decide +kernel
theorem dL_law_699 : decode cL_law 699 = .ok (.aload_n 2, 1) := by decide +kernel
theorem dL_law_700 : decode cL_law 700 = .ok (.invokevirtual 106, 3) := by decide +kernel
theorem dL_law_703 : decode cL_law 703 = .ok (.if_icmp .eq 279, 3) := by decide +kernel
theorem dL_law_706 : decode cL_law 706 = .ok (.iconst 0, 1) := by decide +kernel
theorem dL_law_707 : decode cL_law 707 = .ok (.ireturn, 1) := by decide +kernel
theorem dL_law_708 : decode cL_law 708 = .ok (.aload_n 1, 1) := by decide +kernel
theorem dL_law_709 : decode cL_law 709 = .ok (.aload_n 0, 1) := by decide +kernel
theorem dL_law_710 : decode cL_law 710 = .ok (.iload_n 3, 1) := by decide +kernel
theorem dL_law_711 : decode cL_law 711 = .ok (.iconst 1, 1) := by decide +kernel
theorem dL_law_712 : decode cL_law 712 = .ok (.iadd, 1) := by decide +kernel
theorem dL_law_713 : decode cL_law 713 = .ok (.iaload, 1) := by decide +kernel
theorem dL_law_714 : decode cL_law 714 = .ok (.invokevirtual 107, 3) := by decide +kernel
theorem dL_law_717 : decode cL_law 717 = .ok (.aload_n 2, 1) := by decide +kernel
theorem dL_law_718 : decode cL_law 718 = .ok (.aload_n 0, 1) := by decide +kernel
theorem dL_law_719 : decode cL_law 719 = .ok (.iload_n 3, 1) := by decide +kernel
theorem dL_law_720 : decode cL_law 720 = .ok (.iconst 1, 1) := by decide +kernel
theorem dL_law_721 : decode cL_law 721 = .ok (.iadd, 1) := by decide +kernel
theorem dL_law_722 : decode cL_law 722 = .ok (.iaload, 1) := by decide +kernel
theorem dL_law_723 : decode cL_law 723 = .ok (.invokevirtual 110, 3) := by decide +kernel
theorem dL_law_726 : decode cL_law 726 = .ok (.if_icmp .eq 256, 3) := by decide +kernel
theorem dL_law_729 : decode cL_law 729 = .ok (.iconst 0, 1) := by decide +kernel
theorem dL_law_730 : decode cL_law 730 = .ok (.ireturn, 1) := by decide +kernel
theorem dL_law_731 : decode cL_law 731 = .ok (.aload_n 1, 1) := by decide +kernel
theorem dL_law_732 : decode cL_law 732 = .ok (.aload_n 0, 1) := by decide +kernel
theorem dL_law_733 : decode cL_law 733 = .ok (.iload_n 3, 1) := by decide +kernel
theorem dL_law_734 : decode cL_law 734 = .ok (.iconst 1, 1) := by decide +kernel
theorem dL_law_735 : decode cL_law 735 = .ok (.iadd, 1) := by decide +kernel
theorem dL_law_736 : decode cL_law 736 = .ok (.iaload, 1) := by decide +kernel
theorem dL_law_737 : decode cL_law 737 = .ok (.aload_n 0, 1) := by decide +kernel
theorem dL_law_738 : decode cL_law 738 = .ok (.iload_n 3, 1) := by decide +kernel
theorem dL_law_739 : decode cL_law 739 = .ok (.iconst 2, 1) := by decide +kernel
theorem dL_law_740 : decode cL_law 740 = .ok (.iadd, 1) := by decide +kernel
theorem dL_law_741 : decode cL_law 741 = .ok (.iaload, 1) := by decide +kernel
theorem dL_law_742 : decode cL_law 742 = .ok (.ifCond .eq 7, 3) := by decide +kernel
theorem dL_law_745 : decode cL_law 745 = .ok (.iconst 1, 1) := by decide +kernel
theorem dL_law_746 : decode cL_law 746 = .ok (.goto 4, 3) := by decide +kernel
theorem dL_law_749 : decode cL_law 749 = .ok (.iconst 0, 1) := by decide +kernel
theorem dL_law_750 : decode cL_law 750 = .ok (.invokevirtual 111, 3) := by decide +kernel
theorem dL_law_753 : decode cL_law 753 = .ok (.aload_n 2, 1) := by decide +kernel
theorem dL_law_754 : decode cL_law 754 = .ok (.aload_n 0, 1) := by decide +kernel
theorem dL_law_755 : decode cL_law 755 = .ok (.iload_n 3, 1) := by decide +kernel
theorem dL_law_756 : decode cL_law 756 = .ok (.iconst 1, 1) := by decide +kernel
theorem dL_law_757 : decode cL_law 757 = .ok (.iadd, 1) := by decide +kernel
theorem dL_law_758 : decode cL_law 758 = .ok (.iaload, 1) := by decide +kernel
theorem dL_law_759 : decode cL_law 759 = .ok (.aload_n 0, 1) := by decide +kernel
theorem dL_law_760 : decode cL_law 760 = .ok (.iload_n 3, 1) := by decide +kernel
theorem dL_law_761 : decode cL_law 761 = .ok (.iconst 2, 1) := by decide +kernel
theorem dL_law_762 : decode cL_law 762 = .ok (.iadd, 1) := by decide +kernel
theorem dL_law_763 : decode cL_law 763 = .ok (.iaload, 1) := by decide +kernel
theorem dL_law_764 : decode cL_law 764 = .ok (.ifCond .eq 7, 3) := by decide +kernel
theorem dL_law_767 : decode cL_law 767 = .ok (.iconst 1, 1) := by decide +kernel
theorem dL_law_768 : decode cL_law 768 = .ok (.goto 4, 3) := by decide +kernel
theorem dL_law_771 : decode cL_law 771 = .ok (.iconst 0, 1) := by decide +kernel
theorem dL_law_772 : decode cL_law 772 = .ok (.invokevirtual 115, 3) := by decide +kernel
theorem dL_law_775 : decode cL_law 775 = .ok (.if_icmp .eq 207, 3) := by decide +kernel
theorem dL_law_778 : decode cL_law 778 = .ok (.iconst 0, 1) := by decide +kernel
theorem dL_law_779 : decode cL_law 779 = .ok (.ireturn, 1) := by decide +kernel
theorem dL_law_780 : decode cL_law 780 = .ok (.aload_n 1, 1) := by decide +kernel
theorem dL_law_781 : decode cL_law 781 = .ok (.invokevirtual 116, 3) := by decide +kernel
theorem dL_law_784 : decode cL_law 784 = .ok (.aload_n 2, 1) := by decide +kernel
theorem dL_law_785 : decode cL_law 785 = .ok (.invokevirtual 119, 3) := by decide +kernel
theorem dL_law_788 : decode cL_law 788 = .ok (.if_icmp .eq 194, 3) := by decide +kernel
theorem dL_law_791 : decode cL_law 791 = .ok (.iconst 0, 1) := by decide +kernel
theorem dL_law_792 : decode cL_law 792 = .ok (.ireturn, 1) := by decide +kernel
theorem dL_law_793 : decode cL_law 793 = .ok (.aload_n 1, 1) := by decide +kernel
theorem dL_law_794 : decode cL_law 794 = .ok (.aload_n 0, 1) := by decide +kernel
theorem dL_law_795 : decode cL_law 795 = .ok (.iload_n 3, 1) := by decide +kernel
theorem dL_law_796 : decode cL_law 796 = .ok (.iconst 1, 1) := by decide +kernel
theorem dL_law_797 : decode cL_law 797 = .ok (.iadd, 1) := by decide +kernel
theorem dL_law_798 : decode cL_law 798 = .ok (.iaload, 1) := by decide +kernel
theorem dL_law_799 : decode cL_law 799 = .ok (.aload_n 0, 1) := by decide +kernel
theorem dL_law_800 : decode cL_law 800 = .ok (.iload_n 3, 1) := by decide +kernel
theorem dL_law_801 : decode cL_law 801 = .ok (.iconst 2, 1) := by decide +kernel
theorem dL_law_802 : decode cL_law 802 = .ok (.iadd, 1) := by decide +kernel
theorem dL_law_803 : decode cL_law 803 = .ok (.iaload, 1) := by decide +kernel
theorem dL_law_804 : decode cL_law 804 = .ok (.aload_n 0, 1) := by decide +kernel
theorem dL_law_805 : decode cL_law 805 = .ok (.iload_n 3, 1) := by decide +kernel
theorem dL_law_806 : decode cL_law 806 = .ok (.iconst 3, 1) := by decide +kernel
theorem dL_law_807 : decode cL_law 807 = .ok (.iadd, 1) := by decide +kernel
theorem dL_law_808 : decode cL_law 808 = .ok (.iaload, 1) := by decide +kernel
theorem dL_law_809 : decode cL_law 809 = .ok (.invokevirtual 120, 3) := by decide +kernel
theorem dL_law_812 : decode cL_law 812 = .ok (.aload_n 2, 1) := by decide +kernel
theorem dL_law_813 : decode cL_law 813 = .ok (.aload_n 0, 1) := by decide +kernel
theorem dL_law_814 : decode cL_law 814 = .ok (.iload_n 3, 1) := by decide +kernel
theorem dL_law_815 : decode cL_law 815 = .ok (.iconst 1, 1) := by decide +kernel
theorem dL_law_816 : decode cL_law 816 = .ok (.iadd, 1) := by decide +kernel
theorem dL_law_817 : decode cL_law 817 = .ok (.iaload, 1) := by decide +kernel
theorem dL_law_818 : decode cL_law 818 = .ok (.aload_n 0, 1) := by decide +kernel
theorem dL_law_819 : decode cL_law 819 = .ok (.iload_n 3, 1) := by decide +kernel
theorem dL_law_820 : decode cL_law 820 = .ok (.iconst 2, 1) := by decide +kernel
theorem dL_law_821 : decode cL_law 821 = .ok (.iadd, 1) := by decide +kernel
theorem dL_law_822 : decode cL_law 822 = .ok (.iaload, 1) := by decide +kernel
theorem dL_law_823 : decode cL_law 823 = .ok (.aload_n 0, 1) := by decide +kernel
theorem dL_law_824 : decode cL_law 824 = .ok (.iload_n 3, 1) := by decide +kernel
theorem dL_law_825 : decode cL_law 825 = .ok (.iconst 3, 1) := by decide +kernel
theorem dL_law_826 : decode cL_law 826 = .ok (.iadd, 1) := by decide +kernel
theorem dL_law_827 : decode cL_law 827 = .ok (.iaload, 1) := by decide +kernel
theorem dL_law_828 : decode cL_law 828 = .ok (.invokevirtual 124, 3) := by decide +kernel
theorem dL_law_831 : decode cL_law 831 = .ok (.if_icmp .eq 151, 3) := by decide +kernel
theorem dL_law_834 : decode cL_law 834 = .ok (.iconst 0, 1) := by decide +kernel
theorem dL_law_835 : decode cL_law 835 = .ok (.ireturn, 1) := by decide +kernel
theorem dL_law_836 : decode cL_law 836 = .ok (.aload_n 1, 1) := by decide +kernel
theorem dL_law_837 : decode cL_law 837 = .ok (.aload_n 0, 1) := by decide +kernel
theorem dL_law_838 : decode cL_law 838 = .ok (.iload_n 3, 1) := by decide +kernel
theorem dL_law_839 : decode cL_law 839 = .ok (.iconst 1, 1) := by decide +kernel
theorem dL_law_840 : decode cL_law 840 = .ok (.iadd, 1) := by decide +kernel
theorem dL_law_841 : decode cL_law 841 = .ok (.iaload, 1) := by decide +kernel
theorem dL_law_842 : decode cL_law 842 = .ok (.i2l, 1) := by decide +kernel
theorem dL_law_843 : decode cL_law 843 = .ok (.bipush 32, 2) := by decide +kernel
theorem dL_law_845 : decode cL_law 845 = .ok (.lshl, 1) := by decide +kernel
theorem dL_law_846 : decode cL_law 846 = .ok (.aload_n 0, 1) := by decide +kernel
theorem dL_law_847 : decode cL_law 847 = .ok (.iload_n 3, 1) := by decide +kernel
theorem dL_law_848 : decode cL_law 848 = .ok (.iconst 2, 1) := by decide +kernel
theorem dL_law_849 : decode cL_law 849 = .ok (.iadd, 1) := by decide +kernel
theorem dL_law_850 : decode cL_law 850 = .ok (.iaload, 1) := by decide +kernel
theorem dL_law_851 : decode cL_law 851 = .ok (.i2l, 1) := by decide +kernel
theorem dL_law_852 : decode cL_law 852 = .ok (.ldc2_w 92, 3) := by decide +kernel
theorem dL_law_855 : decode cL_law 855 = .ok (.land, 1) := by decide +kernel
theorem dL_law_856 : decode cL_law 856 = .ok (.lor, 1) := by decide +kernel
theorem dL_law_857 : decode cL_law 857 = .ok (.invokevirtual 125, 3) := by decide +kernel
theorem dL_law_860 : decode cL_law 860 = .ok (.aload_n 2, 1) := by decide +kernel
theorem dL_law_861 : decode cL_law 861 = .ok (.aload_n 0, 1) := by decide +kernel
theorem dL_law_862 : decode cL_law 862 = .ok (.iload_n 3, 1) := by decide +kernel
theorem dL_law_863 : decode cL_law 863 = .ok (.iconst 1, 1) := by decide +kernel
theorem dL_law_864 : decode cL_law 864 = .ok (.iadd, 1) := by decide +kernel
theorem dL_law_865 : decode cL_law 865 = .ok (.iaload, 1) := by decide +kernel
theorem dL_law_866 : decode cL_law 866 = .ok (.i2l, 1) := by decide +kernel
theorem dL_law_867 : decode cL_law 867 = .ok (.bipush 32, 2) := by decide +kernel
theorem dL_law_869 : decode cL_law 869 = .ok (.lshl, 1) := by decide +kernel
theorem dL_law_870 : decode cL_law 870 = .ok (.aload_n 0, 1) := by decide +kernel
theorem dL_law_871 : decode cL_law 871 = .ok (.iload_n 3, 1) := by decide +kernel
theorem dL_law_872 : decode cL_law 872 = .ok (.iconst 2, 1) := by decide +kernel
theorem dL_law_873 : decode cL_law 873 = .ok (.iadd, 1) := by decide +kernel
theorem dL_law_874 : decode cL_law 874 = .ok (.iaload, 1) := by decide +kernel
theorem dL_law_875 : decode cL_law 875 = .ok (.i2l, 1) := by decide +kernel
theorem dL_law_876 : decode cL_law 876 = .ok (.ldc2_w 92, 3) := by decide +kernel
theorem dL_law_879 : decode cL_law 879 = .ok (.land, 1) := by decide +kernel
theorem dL_law_880 : decode cL_law 880 = .ok (.lor, 1) := by decide +kernel
theorem dL_law_881 : decode cL_law 881 = .ok (.invokevirtual 129, 3) := by decide +kernel
theorem dL_law_884 : decode cL_law 884 = .ok (.lcmp, 1) := by decide +kernel
theorem dL_law_885 : decode cL_law 885 = .ok (.ifCond .eq 97, 3) := by decide +kernel
theorem dL_law_888 : decode cL_law 888 = .ok (.iconst 0, 1) := by decide +kernel
theorem dL_law_889 : decode cL_law 889 = .ok (.ireturn, 1) := by decide +kernel
theorem dL_law_890 : decode cL_law 890 = .ok (.aload_n 1, 1) := by decide +kernel
theorem dL_law_891 : decode cL_law 891 = .ok (.aload_n 0, 1) := by decide +kernel
theorem dL_law_892 : decode cL_law 892 = .ok (.iload_n 3, 1) := by decide +kernel
theorem dL_law_893 : decode cL_law 893 = .ok (.iconst 1, 1) := by decide +kernel
theorem dL_law_894 : decode cL_law 894 = .ok (.iadd, 1) := by decide +kernel
theorem dL_law_895 : decode cL_law 895 = .ok (.iaload, 1) := by decide +kernel
theorem dL_law_896 : decode cL_law 896 = .ok (.invokevirtual 130, 3) := by decide +kernel
theorem dL_law_899 : decode cL_law 899 = .ok (.aload_n 2, 1) := by decide +kernel
theorem dL_law_900 : decode cL_law 900 = .ok (.aload_n 0, 1) := by decide +kernel
theorem dL_law_901 : decode cL_law 901 = .ok (.iload_n 3, 1) := by decide +kernel
theorem dL_law_902 : decode cL_law 902 = .ok (.iconst 1, 1) := by decide +kernel
theorem dL_law_903 : decode cL_law 903 = .ok (.iadd, 1) := by decide +kernel
theorem dL_law_904 : decode cL_law 904 = .ok (.iaload, 1) := by decide +kernel
theorem dL_law_905 : decode cL_law 905 = .ok (.invokevirtual 133, 3) := by decide +kernel
theorem dL_law_908 : decode cL_law 908 = .ok (.if_icmp .eq 74, 3) := by decide +kernel
theorem dL_law_911 : decode cL_law 911 = .ok (.iconst 0, 1) := by decide +kernel
theorem dL_law_912 : decode cL_law 912 = .ok (.ireturn, 1) := by decide +kernel
theorem dL_law_913 : decode cL_law 913 = .ok (.aload_n 1, 1) := by decide +kernel
theorem dL_law_914 : decode cL_law 914 = .ok (.aload_n 0, 1) := by decide +kernel
theorem dL_law_915 : decode cL_law 915 = .ok (.iload_n 3, 1) := by decide +kernel
theorem dL_law_916 : decode cL_law 916 = .ok (.iconst 1, 1) := by decide +kernel
theorem dL_law_917 : decode cL_law 917 = .ok (.iadd, 1) := by decide +kernel
theorem dL_law_918 : decode cL_law 918 = .ok (.iaload, 1) := by decide +kernel
theorem dL_law_919 : decode cL_law 919 = .ok (.invokevirtual 134, 3) := by decide +kernel
theorem dL_law_922 : decode cL_law 922 = .ok (.aload_n 2, 1) := by decide +kernel
theorem dL_law_923 : decode cL_law 923 = .ok (.aload_n 0, 1) := by decide +kernel
theorem dL_law_924 : decode cL_law 924 = .ok (.iload_n 3, 1) := by decide +kernel
theorem dL_law_925 : decode cL_law 925 = .ok (.iconst 1, 1) := by decide +kernel
theorem dL_law_926 : decode cL_law 926 = .ok (.iadd, 1) := by decide +kernel
theorem dL_law_927 : decode cL_law 927 = .ok (.iaload, 1) := by decide +kernel
theorem dL_law_928 : decode cL_law 928 = .ok (.invokevirtual 137, 3) := by decide +kernel
theorem dL_law_931 : decode cL_law 931 = .ok (.if_icmp .eq 51, 3) := by decide +kernel
theorem dL_law_934 : decode cL_law 934 = .ok (.iconst 0, 1) := by decide +kernel
theorem dL_law_935 : decode cL_law 935 = .ok (.ireturn, 1) := by decide +kernel
theorem dL_law_936 : decode cL_law 936 = .ok (.aload_n 1, 1) := by decide +kernel
theorem dL_law_937 : decode cL_law 937 = .ok (.aload_n 0, 1) := by decide +kernel
theorem dL_law_938 : decode cL_law 938 = .ok (.iload_n 3, 1) := by decide +kernel
theorem dL_law_939 : decode cL_law 939 = .ok (.iconst 1, 1) := by decide +kernel
theorem dL_law_940 : decode cL_law 940 = .ok (.iadd, 1) := by decide +kernel
theorem dL_law_941 : decode cL_law 941 = .ok (.iaload, 1) := by decide +kernel
theorem dL_law_942 : decode cL_law 942 = .ok (.invokevirtual 138, 3) := by decide +kernel
theorem dL_law_945 : decode cL_law 945 = .ok (.aload_n 2, 1) := by decide +kernel
theorem dL_law_946 : decode cL_law 946 = .ok (.aload_n 0, 1) := by decide +kernel
theorem dL_law_947 : decode cL_law 947 = .ok (.iload_n 3, 1) := by decide +kernel
theorem dL_law_948 : decode cL_law 948 = .ok (.iconst 1, 1) := by decide +kernel
theorem dL_law_949 : decode cL_law 949 = .ok (.iadd, 1) := by decide +kernel
theorem dL_law_950 : decode cL_law 950 = .ok (.iaload, 1) := by decide +kernel
theorem dL_law_951 : decode cL_law 951 = .ok (.invokevirtual 141, 3) := by decide +kernel
theorem dL_law_954 : decode cL_law 954 = .ok (.if_icmp .eq 28, 3) := by decide +kernel
theorem dL_law_957 : decode cL_law 957 = .ok (.iconst 0, 1) := by decide +kernel
theorem dL_law_958 : decode cL_law 958 = .ok (.ireturn, 1) := by decide +kernel
theorem dL_law_959 : decode cL_law 959 = .ok (.aload_n 1, 1) := by decide +kernel
theorem dL_law_960 : decode cL_law 960 = .ok (.aload_n 0, 1) := by decide +kernel
theorem dL_law_961 : decode cL_law 961 = .ok (.iload_n 3, 1) := by decide +kernel
theorem dL_law_962 : decode cL_law 962 = .ok (.iconst 1, 1) := by decide +kernel
theorem dL_law_963 : decode cL_law 963 = .ok (.iadd, 1) := by decide +kernel
theorem dL_law_964 : decode cL_law 964 = .ok (.iaload, 1) := by decide +kernel
theorem dL_law_965 : decode cL_law 965 = .ok (.invokevirtual 142, 3) := by decide +kernel
theorem dL_law_968 : decode cL_law 968 = .ok (.aload_n 2, 1) := by decide +kernel
theorem dL_law_969 : decode cL_law 969 = .ok (.aload_n 0, 1) := by decide +kernel
theorem dL_law_970 : decode cL_law 970 = .ok (.iload_n 3, 1) := by decide +kernel
theorem dL_law_971 : decode cL_law 971 = .ok (.iconst 1, 1) := by decide +kernel
theorem dL_law_972 : decode cL_law 972 = .ok (.iadd, 1) := by decide +kernel
theorem dL_law_973 : decode cL_law 973 = .ok (.iaload, 1) := by decide +kernel
theorem dL_law_974 : decode cL_law 974 = .ok (.invokevirtual 145, 3) := by decide +kernel
theorem dL_law_977 : decode cL_law 977 = .ok (.if_icmp .eq 5, 3) := by decide +kernel
theorem dL_law_980 : decode cL_law 980 = .ok (.iconst 0, 1) := by decide +kernel
theorem dL_law_981 : decode cL_law 981 = .ok (.ireturn, 1) := by decide +kernel
theorem dL_law_982 : decode cL_law 982 = .ok (.iinc 3 4, 3) := by decide +kernel
theorem dL_law_985 : decode cL_law 985 = .ok (.goto (-967), 3) := by decide +kernel
theorem dL_law_988 : decode cL_law 988 = .ok (.iconst 1, 1) := by decide +kernel
theorem dL_law_989 : decode cL_law 989 = .ok (.ireturn, 1) := by decide +kernel
end
section
/-! the cells of a run, in the order in which they are made: 0 is the class, 46 the reference -/
abbrev KK : Nat := 75
def cTagL : List Nat := [9, 7, 20, 8, 20, 20, 20, 20, 20, 20, 20, 20, 20, 20, 21, 20, 1, 20, 1, 20, 6, 1, 20, 6, 1, 20, 0, 20, 20, 4, 20, 20, 1, 20, 1, 20, 3, 20, 20, 2, 5, 20, 20, 20, 20, 20, 10, 20, 20, 20, 20, 20, 20, 20, 20, 20, 20, 22, 20, 22, 20, 20, 20, 20, 20, 20, 20, 20, 20, 20, 20, 20, 20, 22, 20]
def cTag (k : Nat) : Nat := cTagL.getD k 99
def cLenL : List Nat := [0, 0, 48, 0, 3, 3, 5, 5, 5, 5, 5, 5, 5, 5, 50, 50, 0, 5, 0, 5, 0, 0, 5, 0, 0, 5, 0, 16, 16, 0, 5, 6, 0, 5, 0, 5, 0, 6, 6, 0, 0, 15, 15, 15, 15, 5, 0, 3, 3, 30, 6, 30, 5, 48, 80, 5, 5, 32, 10, 50, 50, 50, 3, 15, 15, 15, 15, 15, 15, 15, 5, 6, 6, 2, 10]
def cLen (k : Nat) : Nat := cLenL.getD k 0
def cRefL : List (List Nat) := [[1, 3, 16, 18, 20, 23, 26, 29, 36, 39, 40, 45, 0], [2, 0], [], [0, 0, 4, 5, 6, 7, 8, 9, 10, 11, 12, 13, 14, 15], [], [], [], [], [], [], [], [], [], [], [], [], [3, 17], [], [3, 19], [], [21, 0], [3, 22], [], [24, 0], [3, 25], [], [27, 28, 0], [], [], [3, 32, 34, 30, 31, 0], [], [], [3, 33], [], [3, 35], [], [37, 38, 0], [], [], [3, 0, 0, 0, 0, 0, 0, 0, 0, 0, 0], [3, 41, 42, 43, 44, 0, 0], [], [], [], [], [], [0, 0, 47, 48, 49, 50, 51, 52, 53, 0, 0, 0, 0, 0, 0, 0, 54, 55, 56, 57, 0, 0, 0, 0, 58, 59, 60, 61, 62, 0, 63, 64, 65, 66, 67, 68, 69, 70, 0, 71, 72, 0, 73, 74], [], [], [], [], [], [], [], [], [], [], [], [], [], [], [], [], [], [], [], [], [], [], [], [], [], [], [], []]
def cRef (k j : Nat) : Nat := (cRefL.getD k []).getD j 0
def fkL : List (List Nat) := [[2, 2, 0], [2, 2], [2, 0, 0, 0, 0, 0, 0, 0, 0, 0, 0], [2, 2, 0], [2, 2, 2, 2, 2, 0], [2, 2, 2, 2, 2, 0, 0], [2, 0], [2, 0], [0, 0, 2, 2, 2, 2, 2, 2, 2, 2, 2, 2, 2, 2], [2, 2, 2, 2, 2, 2, 2, 2, 2, 2, 2, 2, 1], [0, 0, 2, 2, 2, 2, 2, 2, 2, 0, 0, 0, 0, 0, 0, 0, 2, 2, 2, 2, 0, 0, 0, 0, 2, 2, 2, 2, 2, 0, 2, 2, 2, 2, 2, 2, 2, 2, 0, 2, 2, 1, 2, 2]]
def fk (c : Nat) : List Nat := fkL.getD c []
theorem cTag_lt {k c : Nat} (h : cTag k = c) (hc : c < 99) : k < KK := by
  rcases Nat.lt_or_ge k KK with q | q
  · exact q
  · have e : cTag k = 99 := by unfold cTag; rw [List.getD_eq_getElem?_getD, List.getElem?_eq_none (by exact q)]; rfl
    omega
def lwt : List Cond := lw_tbl.filter goodWord
theorem lw_in (i : Nat) {w : Cond} (h : tables_1[i]? = some w) (hg : goodWord w = true := by rfl) : w ∈ lwt := List.mem_filter.mpr ⟨List.mem_append_right _ (List.mem_of_getElem? h), hg⟩
theorem lw_ip (i : Nat) {w : Cond} (h : (k2_sels lw_privs)[i]? = some w) (hg : goodWord w = true := by rfl) : w ∈ lwt := List.mem_filter.mpr ⟨List.mem_append_left _ (List.mem_of_getElem? h), hg⟩
def isNest : Cond → Bool
  | .fieldLinkNest .. => true
  | .methodLinkNest .. => true
  | _ => false
def nwt : List Cond := lw_tbl.filter isNest
theorem nw_in (i : Nat) {w : Cond} (h : tables_1[i]? = some w) (hg : isNest w = true := by rfl) : w ∈ nwt := List.mem_filter.mpr ⟨List.mem_append_right _ (List.mem_of_getElem? h), hg⟩
theorem lw_good : ∀ w ∈ lwt, goodWord w = true := fun _ h => (List.mem_filter.mp h).2
theorem tin_0 : ∀ w ∈ u_ws RX0 TX0 3, w ∈ lwt := by
  intro w hw
  have hg : ∀ w ∈ u_ws RX0 TX0 3, goodWord w = true := List.all_eq_true.mp (by decide +kernel)
  have h0 := hw
  have e : u_ws RX0 TX0 3 = [145, 147, 149].filterMap (fun i => tables_1[i]?) := by decide +kernel
  rw [e] at hw
  obtain ⟨i, -, hi⟩ := List.mem_filterMap.mp hw
  exact lw_in i hi (hg w h0)
theorem tin_1 : ∀ w ∈ u_ws RX1 TX1 2, w ∈ lwt := by
  intro w hw
  have hg : ∀ w ∈ u_ws RX1 TX1 2, goodWord w = true := List.all_eq_true.mp (by decide +kernel)
  have h0 := hw
  have e : u_ws RX1 TX1 2 = [113, 115].filterMap (fun i => tables_1[i]?) := by decide +kernel
  rw [e] at hw
  obtain ⟨i, -, hi⟩ := List.mem_filterMap.mp hw
  exact lw_in i hi (hg w h0)
theorem tin_2 : ∀ w ∈ u_ws RX2 TX2 11, w ∈ lwt := by
  intro w hw
  have hg : ∀ w ∈ u_ws RX2 TX2 11, goodWord w = true := List.all_eq_true.mp (by decide +kernel)
  have h0 := hw
  have e : u_ws RX2 TX2 11 = [218, 220, 222, 224, 226, 228, 230, 232, 234, 236, 238].filterMap (fun i => tables_1[i]?) := by decide +kernel
  rw [e] at hw
  obtain ⟨i, -, hi⟩ := List.mem_filterMap.mp hw
  exact lw_in i hi (hg w h0)
theorem tin_3 : ∀ w ∈ u_ws RX3 TX3 3, w ∈ lwt := by
  intro w hw
  have hg : ∀ w ∈ u_ws RX3 TX3 3, goodWord w = true := List.all_eq_true.mp (by decide +kernel)
  have h0 := hw
  have e : u_ws RX3 TX3 3 = [190, 192, 194].filterMap (fun i => tables_1[i]?) := by decide +kernel
  rw [e] at hw
  obtain ⟨i, -, hi⟩ := List.mem_filterMap.mp hw
  exact lw_in i hi (hg w h0)
theorem tin_4 : ∀ w ∈ u_ws RX4 TX4 6, w ∈ lwt := by
  intro w hw
  have hg : ∀ w ∈ u_ws RX4 TX4 6, goodWord w = true := List.all_eq_true.mp (by decide +kernel)
  have h0 := hw
  have e : u_ws RX4 TX4 6 = [167, 169, 171, 173, 175, 177].filterMap (fun i => tables_1[i]?) := by decide +kernel
  rw [e] at hw
  obtain ⟨i, -, hi⟩ := List.mem_filterMap.mp hw
  exact lw_in i hi (hg w h0)
theorem tin_5 : ∀ w ∈ u_ws RX5 TX5 7, w ∈ lwt := by
  intro w hw
  have hg : ∀ w ∈ u_ws RX5 TX5 7, goodWord w = true := List.all_eq_true.mp (by decide +kernel)
  have h0 := hw
  have e : u_ws RX5 TX5 7 = [254, 256, 258, 260, 262, 264, 266].filterMap (fun i => tables_1[i]?) := by decide +kernel
  rw [e] at hw
  obtain ⟨i, -, hi⟩ := List.mem_filterMap.mp hw
  exact lw_in i hi (hg w h0)
theorem tin_6 : ∀ w ∈ u_ws RX6 TX6 2, w ∈ lwt := by
  intro w hw
  have hg : ∀ w ∈ u_ws RX6 TX6 2, goodWord w = true := List.all_eq_true.mp (by decide +kernel)
  have h0 := hw
  have e : u_ws RX6 TX6 2 = [130, 132].filterMap (fun i => tables_1[i]?) := by decide +kernel
  rw [e] at hw
  obtain ⟨i, -, hi⟩ := List.mem_filterMap.mp hw
  exact lw_in i hi (hg w h0)
theorem tin_7 : ∀ w ∈ u_ws RX7 TX7 2, w ∈ lwt := by
  intro w hw
  have hg : ∀ w ∈ u_ws RX7 TX7 2, goodWord w = true := List.all_eq_true.mp (by decide +kernel)
  have h0 := hw
  have e : u_ws RX7 TX7 2 = [31, 33].filterMap (fun i => tables_1[i]?) := by decide +kernel
  rw [e] at hw
  obtain ⟨i, -, hi⟩ := List.mem_filterMap.mp hw
  exact lw_in i hi (hg w h0)
theorem tin_8 : ∀ w ∈ u_ws RX8 TX8 14, w ∈ lwt := by
  intro w hw
  have hg : ∀ w ∈ u_ws RX8 TX8 14, goodWord w = true := List.all_eq_true.mp (by decide +kernel)
  have h0 := hw
  have e : u_ws RX8 TX8 14 = [75, 77, 79, 81, 83, 85, 87, 89, 91, 93, 95, 97, 99, 101].filterMap (fun i => tables_1[i]?) := by decide +kernel
  rw [e] at hw
  obtain ⟨i, -, hi⟩ := List.mem_filterMap.mp hw
  exact lw_in i hi (hg w h0)
theorem tin_9 : ∀ w ∈ u_ws RX9 TX9 13, w ∈ lwt := by
  intro w hw
  have hg : ∀ w ∈ u_ws RX9 TX9 13, goodWord w = true := List.all_eq_true.mp (by decide +kernel)
  have h0 := hw
  have e : u_ws RX9 TX9 13 = [282, 284, 286, 288, 290, 292, 294, 296, 298, 300, 302, 304, 306].filterMap (fun i => tables_1[i]?) := by decide +kernel
  rw [e] at hw
  obtain ⟨i, -, hi⟩ := List.mem_filterMap.mp hw
  exact lw_in i hi (hg w h0)
theorem tin_10 : ∀ w ∈ u_ws RX10 TX10 44, w ∈ lwt := by
  intro w hw
  have hg : ∀ w ∈ u_ws RX10 TX10 44, goodWord w = true := List.all_eq_true.mp (by decide +kernel)
  have h0 := hw
  have e : u_ws RX10 TX10 44 = [838, 840, 842, 844, 846, 848, 850, 852, 854, 856, 858, 860, 862, 864, 866, 868, 870, 872, 874, 876, 878, 880, 882, 884, 886, 888, 890, 892, 894, 896, 898, 900, 902, 904, 906, 908, 910, 912, 914, 916, 918, 920, 922, 924].filterMap (fun i => tables_1[i]?) := by decide +kernel
  rw [e] at hw
  obtain ⟨i, -, hi⟩ := List.mem_filterMap.mp hw
  exact lw_in i hi (hg w h0)
def LKw (own : String) (idx : Nat) (T : u_T) (j : Nat) : Prop := Cond.fieldLink own idx (T j).1 (T j).2.1 (T j).2.2.1 ∈ lwt ∨ ∃ host, Cond.fieldLinkNest own idx (T j).1 (T j).2.1 (T j).2.2.1 host ∈ nwt
def LK (own : String) (idx ci j : Nat) : Prop := ∃ (C : String) (T : u_T) (N : Nat), vwCl[ci]? = some (C, T, N) ∧ j < N ∧ (∀ w ∈ u_ws C T N, w ∈ lwt) ∧ LKw own idx T j
def LPt (own : String) (idx ci j : Nat) (ty : FieldType) : Prop := ∃ (C : String) (T : u_T) (N : Nat) (ty0 : Nat → FieldType), vwCl[ci]? = some (C, T, N) ∧ j < N ∧ (∀ w ∈ u_ws C T N, w ∈ lwt) ∧ LKw own idx T j ∧ (∀ k, k < N → parseFieldDescriptor (T k).2.2.1 = some (ty0 k)) ∧ (∀ a, a < N → ∀ b, b < N → a ≠ b → (T a).2.1 ≠ (T b).2.1) ∧ (T j).2.2.2 = false ∧ parseFieldDescriptor (T j).2.2.1 = some ty
abbrev Mth : Type := MethodName × ByteArray × Nat × Option FieldType
def LMb (M : Mth) (n : Nat) : Prop := Cond.code M.1 M.2.1 M.2.2.1 M.2.2.2 ∈ lwt ∧ Cond.initialized M.1.cls ∈ lwt ∧ (M.1.cls ≠ "java/lang/invoke/MethodHandle" ∧ M.1.cls ≠ "java/lang/invoke/VarHandle" ∧ (parseMethodDescriptor M.1.desc).map (fun d => d.parameters.length) = some n)
def LMV (own : String) (idx : Nat) (M : Mth) (n : Nat) : Prop := LMb M n ∧ Cond.methodLink own idx M.1 ∈ lwt ∧ Cond.instanceMethod M.1 ∈ lwt ∧ Cond.selects M.1.cls M.1 M.1 ∈ lwt
def LMS (own : String) (idx : Nat) (M : Mth) (n : Nat) : Prop := LMb M n ∧ Cond.methodLink own idx M.1 ∈ lwt ∧ Cond.static M.1 ∈ lwt
def LMN (own : String) (idx : Nat) (M : Mth) (n : Nat) : Prop := LMb M n ∧ (∃ host, Cond.methodLinkNest own idx M.1 host ∈ nwt) ∧ Cond.static M.1 ∈ lwt
def LC (own : String) (idx : Nat) (v : Int32) : Prop := Cond.constant own idx v ∈ lwt
def LCL (own : String) (idx : Nat) (v : Int64) : Prop := Cond.constantLong own idx v ∈ lwt
abbrev M_X9_init : Mth := (yX9_init, cX9_init, 1, none)
theorem lb_X9_init : LMb M_X9_init 0 := ⟨lw_in 17 (by decide +kernel), lw_in 1 (by decide +kernel), by decide +kernel, by decide +kernel, by decide +kernel⟩
abbrev M_X9_write : Mth := (yX9_write, cX9_write, 2, (some .int))
theorem lb_X9_write : LMb M_X9_write 1 := ⟨lw_in 312 (by decide +kernel), lw_in 1 (by decide +kernel), by decide +kernel, by decide +kernel, by decide +kernel⟩
abbrev M_X9_wipe : Mth := (yX9_wipe, cX9_wipe, 1, (some .int))
theorem lb_X9_wipe : LMb M_X9_wipe 0 := ⟨lw_in 320 (by decide +kernel), lw_in 1 (by decide +kernel), by decide +kernel, by decide +kernel, by decide +kernel⟩
abbrev M_X9_fault : Mth := (yX9_fault, cX9_fault, 1, (some .int))
theorem lb_X9_fault : LMb M_X9_fault 0 := ⟨lw_in 328 (by decide +kernel), lw_in 1 (by decide +kernel), by decide +kernel, by decide +kernel, by decide +kernel⟩
abbrev M_X9_tower : Mth := (yX9_tower, cX9_tower, 1, (some .int))
theorem lb_X9_tower : LMb M_X9_tower 0 := ⟨lw_in 363 (by decide +kernel), lw_in 1 (by decide +kernel), by decide +kernel, by decide +kernel, by decide +kernel⟩
abbrev M_X9_bell : Mth := (yX9_bell, cX9_bell, 3, (some .int))
theorem lb_X9_bell : LMb M_X9_bell 2 := ⟨lw_in 411 (by decide +kernel), lw_in 1 (by decide +kernel), by decide +kernel, by decide +kernel, by decide +kernel⟩
abbrev M_X9_bidder : Mth := (yX9_bidder, cX9_bidder, 3, (some .int))
theorem lb_X9_bidder : LMb M_X9_bidder 2 := ⟨lw_in 439 (by decide +kernel), lw_in 1 (by decide +kernel), by decide +kernel, by decide +kernel, by decide +kernel⟩
abbrev M_X9_rings : Mth := (yX9_rings, cX9_rings, 2, (some .int))
theorem lb_X9_rings : LMb M_X9_rings 1 := ⟨lw_in 448 (by decide +kernel), lw_in 1 (by decide +kernel), by decide +kernel, by decide +kernel, by decide +kernel⟩
abbrev M_X9_clashes : Mth := (yX9_clashes, cX9_clashes, 3, (some .int))
theorem lb_X9_clashes : LMb M_X9_clashes 2 := ⟨lw_in 458 (by decide +kernel), lw_in 1 (by decide +kernel), by decide +kernel, by decide +kernel, by decide +kernel⟩
abbrev M_X9_let : Mth := (yX9_let, cX9_let, 3, (some .int))
theorem lb_X9_let : LMb M_X9_let 2 := ⟨lw_in 483 (by decide +kernel), lw_in 1 (by decide +kernel), by decide +kernel, by decide +kernel, by decide +kernel⟩
abbrev M_X9_revoke : Mth := (yX9_revoke, cX9_revoke, 2, (some .int))
theorem lb_X9_revoke : LMb M_X9_revoke 1 := ⟨lw_in 527 (by decide +kernel), lw_in 1 (by decide +kernel), by decide +kernel, by decide +kernel, by decide +kernel⟩
abbrev M_X9_move : Mth := (yX9_move, cX9_move, 4, (some .int))
theorem lb_X9_move : LMb M_X9_move 2 := ⟨lw_in 531 (by decide +kernel), lw_in 1 (by decide +kernel), by decide +kernel, by decide +kernel, by decide +kernel⟩
abbrev M_X9_undo : Mth := (yX9_undo, cX9_undo, 1, (some .int))
theorem lb_X9_undo : LMb M_X9_undo 0 := ⟨lw_in 535 (by decide +kernel), lw_in 1 (by decide +kernel), by decide +kernel, by decide +kernel, by decide +kernel⟩
abbrev M_X9_act : Mth := (yX9_act, cX9_act, 3, none)
theorem lb_X9_act : LMb M_X9_act 2 := ⟨lw_in 497 (by decide +kernel), lw_in 1 (by decide +kernel), by decide +kernel, by decide +kernel, by decide +kernel⟩
abbrev M_X9_best : Mth := (yX9_best, cX9_best, 2, (some .int))
theorem lb_X9_best : LMb M_X9_best 1 := ⟨lw_in 544 (by decide +kernel), lw_in 1 (by decide +kernel), by decide +kernel, by decide +kernel, by decide +kernel⟩
abbrev M_X9_bestOf : Mth := (yX9_bestOf, cX9_bestOf, 2, (some .int))
theorem lb_X9_bestOf : LMb M_X9_bestOf 1 := ⟨lw_in 578 (by decide +kernel), lw_in 1 (by decide +kernel), by decide +kernel, by decide +kernel, by decide +kernel⟩
abbrev M_X9_beside : Mth := (yX9_beside, cX9_beside, 1, (some .int))
theorem lb_X9_beside : LMb M_X9_beside 0 := ⟨lw_in 582 (by decide +kernel), lw_in 1 (by decide +kernel), by decide +kernel, by decide +kernel, by decide +kernel⟩
abbrev M_X9_price : Mth := (yX9_price, cX9_price, 4, (some .int))
theorem lb_X9_price : LMb M_X9_price 1 := ⟨lw_in 594 (by decide +kernel), lw_in 1 (by decide +kernel), by decide +kernel, by decide +kernel, by decide +kernel⟩
abbrev M_X9_many : Mth := (yX9_many, cX9_many, 1, (some .int))
theorem lb_X9_many : LMb M_X9_many 0 := ⟨lw_in 598 (by decide +kernel), lw_in 1 (by decide +kernel), by decide +kernel, by decide +kernel, by decide +kernel⟩
abbrev M_X9_room : Mth := (yX9_room, cX9_room, 4, (some .int))
theorem lb_X9_room : LMb M_X9_room 2 := ⟨lw_in 606 (by decide +kernel), lw_in 1 (by decide +kernel), by decide +kernel, by decide +kernel, by decide +kernel⟩
abbrev M_X9_hands : Mth := (yX9_hands, cX9_hands, 1, (some .int))
theorem lb_X9_hands : LMb M_X9_hands 0 := ⟨lw_in 615 (by decide +kernel), lw_in 1 (by decide +kernel), by decide +kernel, by decide +kernel, by decide +kernel⟩
abbrev M_X9_judge : Mth := (yX9_judge, cX9_judge, 7, (some .int))
theorem lb_X9_judge : LMb M_X9_judge 2 := ⟨lw_in 641 (by decide +kernel), lw_in 1 (by decide +kernel), by decide +kernel, by decide +kernel, by decide +kernel⟩
abbrev M_X9_firstThatCanNotBe : Mth := (yX9_firstThatCanNotBe, cX9_firstThatCanNotBe, 3, (some .int))
theorem lb_X9_firstThatCanNotBe : LMb M_X9_firstThatCanNotBe 1 := ⟨lw_in 646 (by decide +kernel), lw_in 1 (by decide +kernel), by decide +kernel, by decide +kernel, by decide +kernel⟩
abbrev M_X9_hear : Mth := (yX9_hear, cX9_hear, 3, (some .int))
theorem lb_X9_hear : LMb M_X9_hear 2 := ⟨lw_in 657 (by decide +kernel), lw_in 1 (by decide +kernel), by decide +kernel, by decide +kernel, by decide +kernel⟩
abbrev M_X9_unhear : Mth := (yX9_unhear, cX9_unhear, 1, (some .int))
theorem lb_X9_unhear : LMb M_X9_unhear 0 := ⟨lw_in 669 (by decide +kernel), lw_in 1 (by decide +kernel), by decide +kernel, by decide +kernel, by decide +kernel⟩
abbrev M_X9_fit : Mth := (yX9_fit, cX9_fit, 2, (some .int))
theorem lb_X9_fit : LMb M_X9_fit 1 := ⟨lw_in 677 (by decide +kernel), lw_in 1 (by decide +kernel), by decide +kernel, by decide +kernel, by decide +kernel⟩
abbrev M_X9_likely : Mth := (yX9_likely, cX9_likely, 5, (some .int))
theorem lb_X9_likely : LMb M_X9_likely 2 := ⟨lw_in 722 (by decide +kernel), lw_in 1 (by decide +kernel), by decide +kernel, by decide +kernel, by decide +kernel⟩
abbrev M_X9_unwanted : Mth := (yX9_unwanted, cX9_unwanted, 1, (some .int))
theorem lb_X9_unwanted : LMb M_X9_unwanted 0 := ⟨lw_in 730 (by decide +kernel), lw_in 1 (by decide +kernel), by decide +kernel, by decide +kernel, by decide +kernel⟩
abbrev M_X9_sealed : Mth := (yX9_sealed, cX9_sealed, 8, (some .int))
theorem lb_X9_sealed : LMb M_X9_sealed 3 := ⟨lw_in 741 (by decide +kernel), lw_in 1 (by decide +kernel), by decide +kernel, by decide +kernel, by decide +kernel⟩
abbrev M_X9_seed : Mth := (yX9_seed, cX9_seed, 5, (some .long))
theorem lb_X9_seed : LMb M_X9_seed 1 := ⟨lw_in 757 (by decide +kernel), lw_in 1 (by decide +kernel), by decide +kernel, by decide +kernel, by decide +kernel⟩
abbrev M_X9_day : Mth := (yX9_day, cX9_day, 4, (some .int))
theorem lb_X9_day : LMb M_X9_day 1 := ⟨lw_in 761 (by decide +kernel), lw_in 1 (by decide +kernel), by decide +kernel, by decide +kernel, by decide +kernel⟩
abbrev M_X9_keep : Mth := (yX9_keep, cX9_keep, 3, (some .int))
theorem lb_X9_keep : LMb M_X9_keep 1 := ⟨lw_in 768 (by decide +kernel), lw_in 1 (by decide +kernel), by decide +kernel, by decide +kernel, by decide +kernel⟩
abbrev M_X9_again : Mth := (yX9_again, cX9_again, 3, (some .int))
theorem lb_X9_again : LMb M_X9_again 1 := ⟨lw_in 781 (by decide +kernel), lw_in 1 (by decide +kernel), by decide +kernel, by decide +kernel, by decide +kernel⟩
abbrev M_X9_count : Mth := (yX9_count, cX9_count, 2, (some .int))
theorem lb_X9_count : LMb M_X9_count 1 := ⟨lw_in 785 (by decide +kernel), lw_in 1 (by decide +kernel), by decide +kernel, by decide +kernel, by decide +kernel⟩
abbrev M_X9_slotOf : Mth := (yX9_slotOf, cX9_slotOf, 2, (some (.object "BellSeconds$Slot")))
theorem lb_X9_slotOf : LMb M_X9_slotOf 1 := ⟨lw_in 772 (by decide +kernel), lw_in 1 (by decide +kernel), by decide +kernel, by decide +kernel, by decide +kernel⟩
abbrev M_X9_isSecond : Mth := (yX9_isSecond, cX9_isSecond, 1, (some .boolean))
theorem lb_X9_isSecond : LMb M_X9_isSecond 1 := ⟨lw_in 451 (by decide +kernel), lw_in 1 (by decide +kernel), by decide +kernel, by decide +kernel, by decide +kernel⟩
abbrev M_X9_isBid : Mth := (yX9_isBid, cX9_isBid, 1, (some .boolean))
theorem lb_X9_isBid : LMb M_X9_isBid 1 := ⟨lw_in 744 (by decide +kernel), lw_in 1 (by decide +kernel), by decide +kernel, by decide +kernel, by decide +kernel⟩
abbrev M_X9_at : Mth := (yX9_at, cX9_at, 2, (some .int))
theorem lb_X9_at : LMb M_X9_at 2 := ⟨lw_in 339 (by decide +kernel), lw_in 1 (by decide +kernel), by decide +kernel, by decide +kernel, by decide +kernel⟩
abbrev M_X9_stretch : Mth := (yX9_stretch, cX9_stretch, 2, (some .int))
theorem lb_X9_stretch : LMb M_X9_stretch 2 := ⟨lw_in 393 (by decide +kernel), lw_in 1 (by decide +kernel), by decide +kernel, by decide +kernel, by decide +kernel⟩
abbrev M_X9_secondsOf : Mth := (yX9_secondsOf, cX9_secondsOf, 2, (some .int))
theorem lb_X9_secondsOf : LMb M_X9_secondsOf 2 := ⟨lw_in 435 (by decide +kernel), lw_in 1 (by decide +kernel), by decide +kernel, by decide +kernel, by decide +kernel⟩
abbrev M_X9_ofAnyBell : Mth := (yX9_ofAnyBell, cX9_ofAnyBell, 1, (some .int))
theorem lb_X9_ofAnyBell : LMb M_X9_ofAnyBell 1 := ⟨lw_in 737 (by decide +kernel), lw_in 1 (by decide +kernel), by decide +kernel, by decide +kernel, by decide +kernel⟩
abbrev M_X9_bellsAt : Mth := (yX9_bellsAt, cX9_bellsAt, 4, (some .int))
theorem lb_X9_bellsAt : LMb M_X9_bellsAt 2 := ⟨lw_in 454 (by decide +kernel), lw_in 1 (by decide +kernel), by decide +kernel, by decide +kernel, by decide +kernel⟩
abbrev M_X9_commonDivisor : Mth := (yX9_commonDivisor, cX9_commonDivisor, 6, (some .int))
theorem lb_X9_commonDivisor : LMb M_X9_commonDivisor 2 := ⟨lw_in 726 (by decide +kernel), lw_in 1 (by decide +kernel), by decide +kernel, by decide +kernel, by decide +kernel⟩
abbrev M_X9_rests : Mth := (yX9_rests, cX9_rests, 5, (some .boolean))
theorem lb_X9_rests : LMb M_X9_rests 4 := ⟨lw_in 747 (by decide +kernel), lw_in 1 (by decide +kernel), by decide +kernel, by decide +kernel, by decide +kernel⟩
abbrev M_X9_gainOfOne : Mth := (yX9_gainOfOne, cX9_gainOfOne, 3, (some .int))
theorem lb_X9_gainOfOne : LMb M_X9_gainOfOne 3 := ⟨lw_in 750 (by decide +kernel), lw_in 1 (by decide +kernel), by decide +kernel, by decide +kernel, by decide +kernel⟩
abbrev M_X9_gainOfOther : Mth := (yX9_gainOfOther, cX9_gainOfOther, 3, (some .int))
theorem lb_X9_gainOfOther : LMb M_X9_gainOfOther 3 := ⟨lw_in 753 (by decide +kernel), lw_in 1 (by decide +kernel), by decide +kernel, by decide +kernel, by decide +kernel⟩
abbrev M_X10_init : Mth := (yX10_init, cX10_init, 2, none)
theorem lb_X10_init : LMb M_X10_init 0 := ⟨lw_in 792 (by decide +kernel), lw_in 11 (by decide +kernel), by decide +kernel, by decide +kernel, by decide +kernel⟩
abbrev M_X10_in : Mth := (yX10_in, cX10_in, 6, (some .boolean))
theorem lb_X10_in : LMb M_X10_in 3 := ⟨lw_in 935 (by decide +kernel), lw_in 11 (by decide +kernel), by decide +kernel, by decide +kernel, by decide +kernel⟩
abbrev M_X10_has : Mth := (yX10_has, cX10_has, 2, (some .boolean))
theorem lb_X10_has : LMb M_X10_has 2 := ⟨lw_in 1015 (by decide +kernel), lw_in 11 (by decide +kernel), by decide +kernel, by decide +kernel, by decide +kernel⟩
abbrev M_X10_ones : Mth := (yX10_ones, cX10_ones, 3, (some .int))
theorem lb_X10_ones : LMb M_X10_ones 1 := ⟨lw_in 1118 (by decide +kernel), lw_in 11 (by decide +kernel), by decide +kernel, by decide +kernel, by decide +kernel⟩
abbrev M_X10_write : Mth := (yX10_write, cX10_write, 2, (some .int))
theorem lb_X10_write : LMb M_X10_write 1 := ⟨lw_in 931 (by decide +kernel), lw_in 11 (by decide +kernel), by decide +kernel, by decide +kernel, by decide +kernel⟩
abbrev M_X10_wipe : Mth := (yX10_wipe, cX10_wipe, 2, (some .int))
theorem lb_X10_wipe : LMb M_X10_wipe 0 := ⟨lw_in 939 (by decide +kernel), lw_in 11 (by decide +kernel), by decide +kernel, by decide +kernel, by decide +kernel⟩
abbrev M_X10_figure : Mth := (yX10_figure, cX10_figure, 4, (some .int))
theorem lb_X10_figure : LMb M_X10_figure 2 := ⟨lw_in 955 (by decide +kernel), lw_in 11 (by decide +kernel), by decide +kernel, by decide +kernel, by decide +kernel⟩
abbrev M_X10_readText : Mth := (yX10_readText, cX10_readText, 1, (some .int))
theorem lb_X10_readText : LMb M_X10_readText 0 := ⟨lw_in 947 (by decide +kernel), lw_in 11 (by decide +kernel), by decide +kernel, by decide +kernel, by decide +kernel⟩
abbrev M_X10_readPart : Mth := (yX10_readPart, cX10_readPart, 3, none)
theorem lb_X10_readPart : LMb M_X10_readPart 1 := ⟨lw_in 951 (by decide +kernel), lw_in 11 (by decide +kernel), by decide +kernel, by decide +kernel, by decide +kernel⟩
abbrev M_X10_readSpan : Mth := (yX10_readSpan, cX10_readSpan, 2, none)
theorem lb_X10_readSpan : LMb M_X10_readSpan 1 := ⟨lw_in 959 (by decide +kernel), lw_in 11 (by decide +kernel), by decide +kernel, by decide +kernel, by decide +kernel⟩
abbrev M_X10_fault : Mth := (yX10_fault, cX10_fault, 1, (some .int))
theorem lb_X10_fault : LMb M_X10_fault 0 := ⟨lw_in 943 (by decide +kernel), lw_in 11 (by decide +kernel), by decide +kernel, by decide +kernel, by decide +kernel⟩
abbrev M_X10_tower : Mth := (yX10_tower, cX10_tower, 2, (some .int))
theorem lb_X10_tower : LMb M_X10_tower 0 := ⟨lw_in 963 (by decide +kernel), lw_in 11 (by decide +kernel), by decide +kernel, by decide +kernel, by decide +kernel⟩
abbrev M_X10_isBell : Mth := (yX10_isBell, cX10_isBell, 2, (some .boolean))
theorem lb_X10_isBell : LMb M_X10_isBell 1 := ⟨lw_in 971 (by decide +kernel), lw_in 11 (by decide +kernel), by decide +kernel, by decide +kernel, by decide +kernel⟩
abbrev M_X10_isBidder : Mth := (yX10_isBidder, cX10_isBidder, 2, (some .boolean))
theorem lb_X10_isBidder : LMb M_X10_isBidder 1 := ⟨lw_in 998 (by decide +kernel), lw_in 11 (by decide +kernel), by decide +kernel, by decide +kernel, by decide +kernel⟩
abbrev M_X10_isQuiet : Mth := (yX10_isQuiet, cX10_isQuiet, 2, (some .boolean))
theorem lb_X10_isQuiet : LMb M_X10_isQuiet 1 := ⟨lw_in 979 (by decide +kernel), lw_in 11 (by decide +kernel), by decide +kernel, by decide +kernel, by decide +kernel⟩
abbrev M_X10_strokeAt : Mth := (yX10_strokeAt, cX10_strokeAt, 4, (some .int))
theorem lb_X10_strokeAt : LMb M_X10_strokeAt 3 := ⟨lw_in 990 (by decide +kernel), lw_in 11 (by decide +kernel), by decide +kernel, by decide +kernel, by decide +kernel⟩
abbrev M_X10_mayBegin : Mth := (yX10_mayBegin, cX10_mayBegin, 5, (some .boolean))
theorem lb_X10_mayBegin : LMb M_X10_mayBegin 2 := ⟨lw_in 1007 (by decide +kernel), lw_in 11 (by decide +kernel), by decide +kernel, by decide +kernel, by decide +kernel⟩
abbrev M_X10_span : Mth := (yX10_span, cX10_span, 2, (some .int))
theorem lb_X10_span : LMb M_X10_span 2 := ⟨lw_in 986 (by decide +kernel), lw_in 11 (by decide +kernel), by decide +kernel, by decide +kernel, by decide +kernel⟩
abbrev M_X10_seconds : Mth := (yX10_seconds, cX10_seconds, 7, (some .int))
theorem lb_X10_seconds : LMb M_X10_seconds 3 := ⟨lw_in 983 (by decide +kernel), lw_in 11 (by decide +kernel), by decide +kernel, by decide +kernel, by decide +kernel⟩
abbrev M_X10_clash : Mth := (yX10_clash, cX10_clash, 5, (some .boolean))
theorem lb_X10_clash : LMb M_X10_clash 4 := ⟨lw_in 1027 (by decide +kernel), lw_in 11 (by decide +kernel), by decide +kernel, by decide +kernel, by decide +kernel⟩
abbrev M_X10_clashesOf : Mth := (yX10_clashesOf, cX10_clashesOf, 5, (some .int))
theorem lb_X10_clashesOf : LMb M_X10_clashesOf 2 := ⟨lw_in 1023 (by decide +kernel), lw_in 11 (by decide +kernel), by decide +kernel, by decide +kernel, by decide +kernel⟩
abbrev M_X10_coinsOf : Mth := (yX10_coinsOf, cX10_coinsOf, 4, (some .int))
theorem lb_X10_coinsOf : LMb M_X10_coinsOf 1 := ⟨lw_in 1047 (by decide +kernel), lw_in 11 (by decide +kernel), by decide +kernel, by decide +kernel, by decide +kernel⟩
abbrev M_X10_letNow : Mth := (yX10_letNow, cX10_letNow, 3, (some .int))
theorem lb_X10_letNow : LMb M_X10_letNow 0 := ⟨lw_in 1043 (by decide +kernel), lw_in 11 (by decide +kernel), by decide +kernel, by decide +kernel, by decide +kernel⟩
abbrev M_X10_ringing : Mth := (yX10_ringing, cX10_ringing, 5, (some .int))
theorem lb_X10_ringing : LMb M_X10_ringing 1 := ⟨lw_in 975 (by decide +kernel), lw_in 11 (by decide +kernel), by decide +kernel, by decide +kernel, by decide +kernel⟩
abbrev M_X10_bell : Mth := (yX10_bell, cX10_bell, 3, (some .int))
theorem lb_X10_bell : LMb M_X10_bell 2 := ⟨lw_in 967 (by decide +kernel), lw_in 11 (by decide +kernel), by decide +kernel, by decide +kernel, by decide +kernel⟩
abbrev M_X10_begins : Mth := (yX10_begins, cX10_begins, 4, (some .int))
theorem lb_X10_begins : LMb M_X10_begins 1 := ⟨lw_in 1003 (by decide +kernel), lw_in 11 (by decide +kernel), by decide +kernel, by decide +kernel, by decide +kernel⟩
abbrev M_X10_bidder : Mth := (yX10_bidder, cX10_bidder, 3, (some .int))
theorem lb_X10_bidder : LMb M_X10_bidder 2 := ⟨lw_in 994 (by decide +kernel), lw_in 11 (by decide +kernel), by decide +kernel, by decide +kernel, by decide +kernel⟩
abbrev M_X10_rings : Mth := (yX10_rings, cX10_rings, 4, (some .int))
theorem lb_X10_rings : LMb M_X10_rings 1 := ⟨lw_in 1011 (by decide +kernel), lw_in 11 (by decide +kernel), by decide +kernel, by decide +kernel, by decide +kernel⟩
abbrev M_X10_clashes : Mth := (yX10_clashes, cX10_clashes, 3, (some .int))
theorem lb_X10_clashes : LMb M_X10_clashes 2 := ⟨lw_in 1019 (by decide +kernel), lw_in 11 (by decide +kernel), by decide +kernel, by decide +kernel, by decide +kernel⟩
abbrev M_X10_keepAct : Mth := (yX10_keepAct, cX10_keepAct, 2, none)
theorem lb_X10_keepAct : LMb M_X10_keepAct 0 := ⟨lw_in 1039 (by decide +kernel), lw_in 11 (by decide +kernel), by decide +kernel, by decide +kernel, by decide +kernel⟩
abbrev M_X10_canBe : Mth := (yX10_canBe, cX10_canBe, 3, (some .boolean))
theorem lb_X10_canBe : LMb M_X10_canBe 2 := ⟨lw_in 1035 (by decide +kernel), lw_in 11 (by decide +kernel), by decide +kernel, by decide +kernel, by decide +kernel⟩
abbrev M_X10_let : Mth := (yX10_let, cX10_let, 3, (some .int))
theorem lb_X10_let : LMb M_X10_let 2 := ⟨lw_in 1031 (by decide +kernel), lw_in 11 (by decide +kernel), by decide +kernel, by decide +kernel, by decide +kernel⟩
abbrev M_X10_revoke : Mth := (yX10_revoke, cX10_revoke, 2, (some .int))
theorem lb_X10_revoke : LMb M_X10_revoke 1 := ⟨lw_in 1051 (by decide +kernel), lw_in 11 (by decide +kernel), by decide +kernel, by decide +kernel, by decide +kernel⟩
abbrev M_X10_move : Mth := (yX10_move, cX10_move, 4, (some .int))
theorem lb_X10_move : LMb M_X10_move 2 := ⟨lw_in 1055 (by decide +kernel), lw_in 11 (by decide +kernel), by decide +kernel, by decide +kernel, by decide +kernel⟩
abbrev M_X10_undo : Mth := (yX10_undo, cX10_undo, 2, (some .int))
theorem lb_X10_undo : LMb M_X10_undo 0 := ⟨lw_in 1059 (by decide +kernel), lw_in 11 (by decide +kernel), by decide +kernel, by decide +kernel, by decide +kernel⟩
abbrev M_X10_mayHave : Mth := (yX10_mayHave, cX10_mayHave, 6, (some .boolean))
theorem lb_X10_mayHave : LMb M_X10_mayHave 2 := ⟨lw_in 1091 (by decide +kernel), lw_in 11 (by decide +kernel), by decide +kernel, by decide +kernel, by decide +kernel⟩
abbrev M_X10_clashAt : Mth := (yX10_clashAt, cX10_clashAt, 5, (some .boolean))
theorem lb_X10_clashAt : LMb M_X10_clashAt 4 := ⟨lw_in 1095 (by decide +kernel), lw_in 11 (by decide +kernel), by decide +kernel, by decide +kernel, by decide +kernel⟩
abbrev M_X10_layTables : Mth := (yX10_layTables, cX10_layTables, 3, none)
theorem lb_X10_layTables : LMb M_X10_layTables 0 := ⟨lw_in 1071 (by decide +kernel), lw_in 11 (by decide +kernel), by decide +kernel, by decide +kernel, by decide +kernel⟩
abbrev M_X10_layBells : Mth := (yX10_layBells, cX10_layBells, 2, none)
theorem lb_X10_layBells : LMb M_X10_layBells 0 := ⟨lw_in 1083 (by decide +kernel), lw_in 11 (by decide +kernel), by decide +kernel, by decide +kernel, by decide +kernel⟩
abbrev M_X10_dayLet : Mth := (yX10_dayLet, cX10_dayLet, 3, (some .int))
theorem lb_X10_dayLet : LMb M_X10_dayLet 0 := ⟨lw_in 1079 (by decide +kernel), lw_in 11 (by decide +kernel), by decide +kernel, by decide +kernel, by decide +kernel⟩
abbrev M_X10_lookAt : Mth := (yX10_lookAt, cX10_lookAt, 4, none)
theorem lb_X10_lookAt : LMb M_X10_lookAt 0 := ⟨lw_in 1075 (by decide +kernel), lw_in 11 (by decide +kernel), by decide +kernel, by decide +kernel, by decide +kernel⟩
abbrev M_X10_goThrough : Mth := (yX10_goThrough, cX10_goThrough, 3, none)
theorem lb_X10_goThrough : LMb M_X10_goThrough 1 := ⟨lw_in 1067 (by decide +kernel), lw_in 11 (by decide +kernel), by decide +kernel, by decide +kernel, by decide +kernel⟩
abbrev M_X10_bestOfSet : Mth := (yX10_bestOfSet, cX10_bestOfSet, 4, (some .int))
theorem lb_X10_bestOfSet : LMb M_X10_bestOfSet 1 := ⟨lw_in 1099 (by decide +kernel), lw_in 11 (by decide +kernel), by decide +kernel, by decide +kernel, by decide +kernel⟩
abbrev M_X10_best : Mth := (yX10_best, cX10_best, 2, (some .int))
theorem lb_X10_best : LMb M_X10_best 1 := ⟨lw_in 1063 (by decide +kernel), lw_in 11 (by decide +kernel), by decide +kernel, by decide +kernel, by decide +kernel⟩
abbrev M_X10_bestOf : Mth := (yX10_bestOf, cX10_bestOf, 2, (some .int))
theorem lb_X10_bestOf : LMb M_X10_bestOf 1 := ⟨lw_in 1103 (by decide +kernel), lw_in 11 (by decide +kernel), by decide +kernel, by decide +kernel, by decide +kernel⟩
abbrev M_X10_beside : Mth := (yX10_beside, cX10_beside, 1, (some .int))
theorem lb_X10_beside : LMb M_X10_beside 0 := ⟨lw_in 1107 (by decide +kernel), lw_in 11 (by decide +kernel), by decide +kernel, by decide +kernel, by decide +kernel⟩
abbrev M_X10_price : Mth := (yX10_price, cX10_price, 2, (some .int))
theorem lb_X10_price : LMb M_X10_price 1 := ⟨lw_in 1111 (by decide +kernel), lw_in 11 (by decide +kernel), by decide +kernel, by decide +kernel, by decide +kernel⟩
abbrev M_X10_many : Mth := (yX10_many, cX10_many, 3, (some .int))
theorem lb_X10_many : LMb M_X10_many 0 := ⟨lw_in 1115 (by decide +kernel), lw_in 11 (by decide +kernel), by decide +kernel, by decide +kernel, by decide +kernel⟩
abbrev M_X10_room : Mth := (yX10_room, cX10_room, 7, (some .int))
theorem lb_X10_room : LMb M_X10_room 2 := ⟨lw_in 1122 (by decide +kernel), lw_in 11 (by decide +kernel), by decide +kernel, by decide +kernel, by decide +kernel⟩
abbrev M_X10_layStrokes : Mth := (yX10_layStrokes, cX10_layStrokes, 4, none)
theorem lb_X10_layStrokes : LMb M_X10_layStrokes 0 := ⟨lw_in 1130 (by decide +kernel), lw_in 11 (by decide +kernel), by decide +kernel, by decide +kernel, by decide +kernel⟩
abbrev M_X10_reaches : Mth := (yX10_reaches, cX10_reaches, 4, (some .boolean))
theorem lb_X10_reaches : LMb M_X10_reaches 2 := ⟨lw_in 1138 (by decide +kernel), lw_in 11 (by decide +kernel), by decide +kernel, by decide +kernel, by decide +kernel⟩
abbrev M_X10_grow : Mth := (yX10_grow, cX10_grow, 5, (some .boolean))
theorem lb_X10_grow : LMb M_X10_grow 1 := ⟨lw_in 1134 (by decide +kernel), lw_in 11 (by decide +kernel), by decide +kernel, by decide +kernel, by decide +kernel⟩
abbrev M_X10_turn : Mth := (yX10_turn, cX10_turn, 5, none)
theorem lb_X10_turn : LMb M_X10_turn 1 := ⟨lw_in 1142 (by decide +kernel), lw_in 11 (by decide +kernel), by decide +kernel, by decide +kernel, by decide +kernel⟩
abbrev M_X10_hands : Mth := (yX10_hands, cX10_hands, 3, (some .int))
theorem lb_X10_hands : LMb M_X10_hands 0 := ⟨lw_in 1126 (by decide +kernel), lw_in 11 (by decide +kernel), by decide +kernel, by decide +kernel, by decide +kernel⟩
abbrev M_X10_tenTo : Mth := (yX10_tenTo, cX10_tenTo, 4, (some .long))
theorem lb_X10_tenTo : LMb M_X10_tenTo 1 := ⟨lw_in 1149 (by decide +kernel), lw_in 11 (by decide +kernel), by decide +kernel, by decide +kernel, by decide +kernel⟩
abbrev M_X10_hold : Mth := (yX10_hold, cX10_hold, 3, none)
theorem lb_X10_hold : LMb M_X10_hold 1 := ⟨lw_in 1154 (by decide +kernel), lw_in 11 (by decide +kernel), by decide +kernel, by decide +kernel, by decide +kernel⟩
abbrev M_X10_judge : Mth := (yX10_judge, cX10_judge, 8, (some .int))
theorem lb_X10_judge : LMb M_X10_judge 2 := ⟨lw_in 1146 (by decide +kernel), lw_in 11 (by decide +kernel), by decide +kernel, by decide +kernel, by decide +kernel⟩
abbrev M_X10_hear : Mth := (yX10_hear, cX10_hear, 3, (some .int))
theorem lb_X10_hear : LMb M_X10_hear 2 := ⟨lw_in 1159 (by decide +kernel), lw_in 11 (by decide +kernel), by decide +kernel, by decide +kernel, by decide +kernel⟩
abbrev M_X10_unhear : Mth := (yX10_unhear, cX10_unhear, 2, (some .int))
theorem lb_X10_unhear : LMb M_X10_unhear 0 := ⟨lw_in 1163 (by decide +kernel), lw_in 11 (by decide +kernel), by decide +kernel, by decide +kernel, by decide +kernel⟩
abbrev M_X10_isHeard : Mth := (yX10_isHeard, cX10_isHeard, 4, (some .boolean))
theorem lb_X10_isHeard : LMb M_X10_isHeard 0 := ⟨lw_in 1087 (by decide +kernel), lw_in 11 (by decide +kernel), by decide +kernel, by decide +kernel, by decide +kernel⟩
abbrev M_X10_fit : Mth := (yX10_fit, cX10_fit, 2, (some .int))
theorem lb_X10_fit : LMb M_X10_fit 1 := ⟨lw_in 1167 (by decide +kernel), lw_in 11 (by decide +kernel), by decide +kernel, by decide +kernel, by decide +kernel⟩
abbrev M_X10_common : Mth := (yX10_common, cX10_common, 5, (some .int))
theorem lb_X10_common : LMb M_X10_common 2 := ⟨lw_in 1175 (by decide +kernel), lw_in 11 (by decide +kernel), by decide +kernel, by decide +kernel, by decide +kernel⟩
abbrev M_X10_likely : Mth := (yX10_likely, cX10_likely, 4, (some .int))
theorem lb_X10_likely : LMb M_X10_likely 2 := ⟨lw_in 1172 (by decide +kernel), lw_in 11 (by decide +kernel), by decide +kernel, by decide +kernel, by decide +kernel⟩
abbrev M_X10_unwanted : Mth := (yX10_unwanted, cX10_unwanted, 4, (some .int))
theorem lb_X10_unwanted : LMb M_X10_unwanted 0 := ⟨lw_in 1179 (by decide +kernel), lw_in 11 (by decide +kernel), by decide +kernel, by decide +kernel, by decide +kernel⟩
abbrev M_X10_gain : Mth := (yX10_gain, cX10_gain, 4, (some .int))
theorem lb_X10_gain : LMb M_X10_gain 4 := ⟨lw_in 1186 (by decide +kernel), lw_in 11 (by decide +kernel), by decide +kernel, by decide +kernel, by decide +kernel⟩
abbrev M_X10_sealed : Mth := (yX10_sealed, cX10_sealed, 11, (some .int))
theorem lb_X10_sealed : LMb M_X10_sealed 3 := ⟨lw_in 1183 (by decide +kernel), lw_in 11 (by decide +kernel), by decide +kernel, by decide +kernel, by decide +kernel⟩
abbrev M_X10_seed : Mth := (yX10_seed, cX10_seed, 5, (some .long))
theorem lb_X10_seed : LMb M_X10_seed 1 := ⟨lw_in 1190 (by decide +kernel), lw_in 11 (by decide +kernel), by decide +kernel, by decide +kernel, by decide +kernel⟩
abbrev M_X10_day : Mth := (yX10_day, cX10_day, 4, (some .int))
theorem lb_X10_day : LMb M_X10_day 1 := ⟨lw_in 1194 (by decide +kernel), lw_in 11 (by decide +kernel), by decide +kernel, by decide +kernel, by decide +kernel⟩
abbrev M_X10_keep : Mth := (yX10_keep, cX10_keep, 3, (some .int))
theorem lb_X10_keep : LMb M_X10_keep 1 := ⟨lw_in 1202 (by decide +kernel), lw_in 11 (by decide +kernel), by decide +kernel, by decide +kernel, by decide +kernel⟩
abbrev M_X10_again : Mth := (yX10_again, cX10_again, 3, (some .int))
theorem lb_X10_again : LMb M_X10_again 1 := ⟨lw_in 1206 (by decide +kernel), lw_in 11 (by decide +kernel), by decide +kernel, by decide +kernel, by decide +kernel⟩
abbrev M_X10_count : Mth := (yX10_count, cX10_count, 2, (some .int))
theorem lb_X10_count : LMb M_X10_count 1 := ⟨lw_in 1210 (by decide +kernel), lw_in 11 (by decide +kernel), by decide +kernel, by decide +kernel, by decide +kernel⟩
abbrev M_X0_init : Mth := (yX0_init, cX0_init, 1, none)
theorem lb_X0_init : LMb M_X0_init 0 := ⟨lw_in 139 (by decide +kernel), lw_in 6 (by decide +kernel), by decide +kernel, by decide +kernel, by decide +kernel⟩
abbrev M_X0_clear : Mth := (yX0_clear, cX0_clear, 1, none)
theorem lb_X0_clear : LMb M_X0_clear 0 := ⟨lw_in 403 (by decide +kernel), lw_in 6 (by decide +kernel), by decide +kernel, by decide +kernel, by decide +kernel⟩
abbrev M_X0_append : Mth := (yX0_append, cX0_append, 3, none)
theorem lb_X0_append : LMb M_X0_append 2 := ⟨lw_in 502 (by decide +kernel), lw_in 6 (by decide +kernel), by decide +kernel, by decide +kernel, by decide +kernel⟩
abbrev M_X0_forgetFirst : Mth := (yX0_forgetFirst, cX0_forgetFirst, 2, none)
theorem lb_X0_forgetFirst : LMb M_X0_forgetFirst 0 := ⟨lw_in 506 (by decide +kernel), lw_in 6 (by decide +kernel), by decide +kernel, by decide +kernel, by decide +kernel⟩
abbrev M_X0_takeBack : Mth := (yX0_takeBack, cX0_takeBack, 2, none)
theorem lb_X0_takeBack : LMb M_X0_takeBack 1 := ⟨lw_in 539 (by decide +kernel), lw_in 6 (by decide +kernel), by decide +kernel, by decide +kernel, by decide +kernel⟩
abbrev M_X1_init : Mth := (yX1_init, cX1_init, 2, none)
theorem lb_X1_init : LMb M_X1_init 1 := ⟨lw_in 109 (by decide +kernel), lw_in 4 (by decide +kernel), by decide +kernel, by decide +kernel, by decide +kernel⟩
abbrev M_X1_clear : Mth := (yX1_clear, cX1_clear, 2, none)
theorem lb_X1_clear : LMb M_X1_clear 0 := ⟨lw_in 399 (by decide +kernel), lw_in 4 (by decide +kernel), by decide +kernel, by decide +kernel, by decide +kernel⟩
abbrev M_X1_copy : Mth := (yX1_copy, cX1_copy, 3, none)
theorem lb_X1_copy : LMb M_X1_copy 1 := ⟨lw_in 569 (by decide +kernel), lw_in 4 (by decide +kernel), by decide +kernel, by decide +kernel, by decide +kernel⟩
abbrev M_X1_tell : Mth := (yX1_tell, cX1_tell, 3, none)
theorem lb_X1_tell : LMb M_X1_tell 2 := ⟨lw_in 510 (by decide +kernel), lw_in 4 (by decide +kernel), by decide +kernel, by decide +kernel, by decide +kernel⟩
abbrev M_X1_toldOf : Mth := (yX1_toldOf, cX1_toldOf, 2, (some .int))
theorem lb_X1_toldOf : LMb M_X1_toldOf 1 := ⟨lw_in 428 (by decide +kernel), lw_in 4 (by decide +kernel), by decide +kernel, by decide +kernel, by decide +kernel⟩
abbrev M_X1_isLet : Mth := (yX1_isLet, cX1_isLet, 2, (some .boolean))
theorem lb_X1_isLet : LMb M_X1_isLet 1 := ⟨lw_in 487 (by decide +kernel), lw_in 4 (by decide +kernel), by decide +kernel, by decide +kernel, by decide +kernel⟩
abbrev M_X1_secondOf : Mth := (yX1_secondOf, cX1_secondOf, 3, (some .int))
theorem lb_X1_secondOf : LMb M_X1_secondOf 1 := ⟨lw_in 424 (by decide +kernel), lw_in 4 (by decide +kernel), by decide +kernel, by decide +kernel, by decide +kernel⟩
abbrev M_X1_everyoneLet : Mth := (yX1_everyoneLet, cX1_everyoneLet, 3, (some .int))
theorem lb_X1_everyoneLet : LMb M_X1_everyoneLet 0 := ⟨lw_in 518 (by decide +kernel), lw_in 4 (by decide +kernel), by decide +kernel, by decide +kernel, by decide +kernel⟩
abbrev M_X1_worth : Mth := (yX1_worth, cX1_worth, 1, (some .int))
theorem lb_X1_worth : LMb M_X1_worth 0 := ⟨lw_in 514 (by decide +kernel), lw_in 4 (by decide +kernel), by decide +kernel, by decide +kernel, by decide +kernel⟩
abbrev M_X1_worthOf : Mth := (yX1_worthOf, cX1_worthOf, 4, (some .int))
theorem lb_X1_worthOf : LMb M_X1_worthOf 1 := ⟨lw_in 523 (by decide +kernel), lw_in 4 (by decide +kernel), by decide +kernel, by decide +kernel, by decide +kernel⟩
abbrev M_X1_ringing : Mth := (yX1_ringing, cX1_ringing, 3, (some .int))
theorem lb_X1_ringing : LMb M_X1_ringing 0 := ⟨lw_in 420 (by decide +kernel), lw_in 4 (by decide +kernel), by decide +kernel, by decide +kernel, by decide +kernel⟩
abbrev M_X1_clashing : Mth := (yX1_clashing, cX1_clashing, 5, (some .int))
theorem lb_X1_clashing : LMb M_X1_clashing 2 := ⟨lw_in 466 (by decide +kernel), lw_in 4 (by decide +kernel), by decide +kernel, by decide +kernel, by decide +kernel⟩
abbrev M_X1_fits : Mth := (yX1_fits, cX1_fits, 3, (some .boolean))
theorem lb_X1_fits : LMb M_X1_fits 2 := ⟨lw_in 491 (by decide +kernel), lw_in 4 (by decide +kernel), by decide +kernel, by decide +kernel, by decide +kernel⟩
abbrev M_X1_letIfCan : Mth := (yX1_letIfCan, cX1_letIfCan, 4, (some .boolean))
theorem lb_X1_letIfCan : LMb M_X1_letIfCan 2 := ⟨lw_in 651 (by decide +kernel), lw_in 4 (by decide +kernel), by decide +kernel, by decide +kernel, by decide +kernel⟩
abbrev M_X1_cheapestBegin : Mth := (yX1_cheapestBegin, cX1_cheapestBegin, 6, (some .int))
theorem lb_X1_cheapestBegin : LMb M_X1_cheapestBegin 1 := ⟨lw_in 610 (by decide +kernel), lw_in 4 (by decide +kernel), by decide +kernel, by decide +kernel, by decide +kernel⟩
abbrev M_X2_init : Mth := (yX2_init, cX2_init, 2, none)
theorem lb_X2_init : LMb M_X2_init 1 := ⟨lw_in 201 (by decide +kernel), lw_in 9 (by decide +kernel), by decide +kernel, by decide +kernel, by decide +kernel⟩
abbrev M_X2_tally : Mth := (yX2_tally, cX2_tally, 5, none)
theorem lb_X2_tally : LMb M_X2_tally 2 := ⟨lw_in 681 (by decide +kernel), lw_in 9 (by decide +kernel), by decide +kernel, by decide +kernel, by decide +kernel⟩
abbrev M_X2_areQuiets : Mth := (yX2_areQuiets, cX2_areQuiets, 3, (some .boolean))
theorem lb_X2_areQuiets : LMb M_X2_areQuiets 1 := ⟨lw_in 689 (by decide +kernel), lw_in 9 (by decide +kernel), by decide +kernel, by decide +kernel, by decide +kernel⟩
abbrev M_X2_tallyBeside : Mth := (yX2_tallyBeside, cX2_tallyBeside, 9, none)
theorem lb_X2_tallyBeside : LMb M_X2_tallyBeside 2 := ⟨lw_in 698 (by decide +kernel), lw_in 9 (by decide +kernel), by decide +kernel, by decide +kernel, by decide +kernel⟩
abbrev M_X2_tallyBell : Mth := (yX2_tallyBell, cX2_tallyBell, 3, none)
theorem lb_X2_tallyBell : LMb M_X2_tallyBell 2 := ⟨lw_in 703 (by decide +kernel), lw_in 9 (by decide +kernel), by decide +kernel, by decide +kernel, by decide +kernel⟩
abbrev M_X2_walk : Mth := (yX2_walk, cX2_walk, 9, none)
theorem lb_X2_walk : LMb M_X2_walk 6 := ⟨lw_in 707 (by decide +kernel), lw_in 9 (by decide +kernel), by decide +kernel, by decide +kernel, by decide +kernel⟩
abbrev M_X2_tallyDay : Mth := (yX2_tallyDay, cX2_tallyDay, 5, none)
theorem lb_X2_tallyDay : LMb M_X2_tallyDay 3 := ⟨lw_in 711 (by decide +kernel), lw_in 9 (by decide +kernel), by decide +kernel, by decide +kernel, by decide +kernel⟩
abbrev M_X3_init : Mth := (yX3_init, cX3_init, 1, none)
theorem lb_X3_init : LMb M_X3_init 0 := ⟨lw_in 184 (by decide +kernel), lw_in 8 (by decide +kernel), by decide +kernel, by decide +kernel, by decide +kernel⟩
abbrev M_X3_append : Mth := (yX3_append, cX3_append, 3, (some .int))
theorem lb_X3_append : LMb M_X3_append 2 := ⟨lw_in 665 (by decide +kernel), lw_in 8 (by decide +kernel), by decide +kernel, by decide +kernel, by decide +kernel⟩
abbrev M_X3_clear : Mth := (yX3_clear, cX3_clear, 2, (some .int))
theorem lb_X3_clear : LMb M_X3_clear 0 := ⟨lw_in 673 (by decide +kernel), lw_in 8 (by decide +kernel), by decide +kernel, by decide +kernel, by decide +kernel⟩
abbrev M_X3_told : Mth := (yX3_told, cX3_told, 7, (some .int))
theorem lb_X3_told : LMb M_X3_told 2 := ⟨lw_in 685 (by decide +kernel), lw_in 8 (by decide +kernel), by decide +kernel, by decide +kernel, by decide +kernel⟩
abbrev M_X4_init : Mth := (yX4_init, cX4_init, 2, none)
theorem lb_X4_init : LMb M_X4_init 1 := ⟨lw_in 156 (by decide +kernel), lw_in 7 (by decide +kernel), by decide +kernel, by decide +kernel, by decide +kernel⟩
abbrev M_X4_mostWorth : Mth := (yX4_mostWorth, cX4_mostWorth, 2, (some .int))
theorem lb_X4_mostWorth : LMb M_X4_mostWorth 1 := ⟨lw_in 552 (by decide +kernel), lw_in 7 (by decide +kernel), by decide +kernel, by decide +kernel, by decide +kernel⟩
abbrev M_X4_mostAtOnce : Mth := (yX4_mostAtOnce, cX4_mostAtOnce, 1, (some .int))
theorem lb_X4_mostAtOnce : LMb M_X4_mostAtOnce 0 := ⟨lw_in 602 (by decide +kernel), lw_in 7 (by decide +kernel), by decide +kernel, by decide +kernel, by decide +kernel⟩
abbrev M_X4_mostBeside : Mth := (yX4_mostBeside, cX4_mostBeside, 6, (some .int))
theorem lb_X4_mostBeside : LMb M_X4_mostBeside 1 := ⟨lw_in 586 (by decide +kernel), lw_in 7 (by decide +kernel), by decide +kernel, by decide +kernel, by decide +kernel⟩
abbrev M_X4_weigh : Mth := (yX4_weigh, cX4_weigh, 5, none)
theorem lb_X4_weigh : LMb M_X4_weigh 2 := ⟨lw_in 556 (by decide +kernel), lw_in 7 (by decide +kernel), by decide +kernel, by decide +kernel, by decide +kernel⟩
abbrev M_X4_search : Mth := (yX4_search, cX4_search, 5, (some .int))
theorem lb_X4_search : LMb M_X4_search 3 := ⟨lw_in 561 (by decide +kernel), lw_in 7 (by decide +kernel), by decide +kernel, by decide +kernel, by decide +kernel⟩
abbrev M_X4_walk : Mth := (yX4_walk, cX4_walk, 8, none)
theorem lb_X4_walk : LMb M_X4_walk 5 := ⟨lw_in 565 (by decide +kernel), lw_in 7 (by decide +kernel), by decide +kernel, by decide +kernel, by decide +kernel⟩
abbrev M_X5_init : Mth := (yX5_init, cX5_init, 2, none)
theorem lb_X5_init : LMb M_X5_init 1 := ⟨lw_in 245 (by decide +kernel), lw_in 10 (by decide +kernel), by decide +kernel, by decide +kernel, by decide +kernel⟩
abbrev M_X5_fewest : Mth := (yX5_fewest, cX5_fewest, 4, (some .int))
theorem lb_X5_fewest : LMb M_X5_fewest 1 := ⟨lw_in 619 (by decide +kernel), lw_in 10 (by decide +kernel), by decide +kernel, by decide +kernel, by decide +kernel⟩
abbrev M_X5_addStrokes : Mth := (yX5_addStrokes, cX5_addStrokes, 7, none)
theorem lb_X5_addStrokes : LMb M_X5_addStrokes 2 := ⟨lw_in 625 (by decide +kernel), lw_in 10 (by decide +kernel), by decide +kernel, by decide +kernel, by decide +kernel⟩
abbrev M_X5_goesOn : Mth := (yX5_goesOn, cX5_goesOn, 4, (some .boolean))
theorem lb_X5_goesOn : LMb M_X5_goesOn 2 := ⟨lw_in 630 (by decide +kernel), lw_in 10 (by decide +kernel), by decide +kernel, by decide +kernel, by decide +kernel⟩
abbrev M_X5_isInTime : Mth := (yX5_isInTime, cX5_isInTime, 3, (some .boolean))
theorem lb_X5_isInTime : LMb M_X5_isInTime 2 := ⟨lw_in 634 (by decide +kernel), lw_in 10 (by decide +kernel), by decide +kernel, by decide +kernel, by decide +kernel⟩
abbrev M_X6_init : Mth := (yX6_init, cX6_init, 2, none)
theorem lb_X6_init : LMb M_X6_init 1 := ⟨lw_in 122 (by decide +kernel), lw_in 5 (by decide +kernel), by decide +kernel, by decide +kernel, by decide +kernel⟩
abbrev M_X6_fill : Mth := (yX6_fill, cX6_fill, 2, none)
theorem lb_X6_fill : LMb M_X6_fill 1 := ⟨lw_in 776 (by decide +kernel), lw_in 5 (by decide +kernel), by decide +kernel, by decide +kernel, by decide +kernel⟩
abbrev M_X6_forget : Mth := (yX6_forget, cX6_forget, 1, none)
theorem lb_X6_forget : LMb M_X6_forget 0 := ⟨lw_in 407 (by decide +kernel), lw_in 5 (by decide +kernel), by decide +kernel, by decide +kernel, by decide +kernel⟩
abbrev M_X7_init : Mth := (yX7_init, cX7_init, 1, none)
theorem lb_X7_init : LMb M_X7_init 0 := ⟨lw_in 25 (by decide +kernel), lw_in 2 (by decide +kernel), by decide +kernel, by decide +kernel, by decide +kernel⟩
abbrev M_X7_append : Mth := (yX7_append, cX7_append, 2, (some .int))
theorem lb_X7_append : LMb M_X7_append 1 := ⟨lw_in 316 (by decide +kernel), lw_in 2 (by decide +kernel), by decide +kernel, by decide +kernel, by decide +kernel⟩
abbrev M_X7_clear : Mth := (yX7_clear, cX7_clear, 2, (some .int))
theorem lb_X7_clear : LMb M_X7_clear 0 := ⟨lw_in 324 (by decide +kernel), lw_in 2 (by decide +kernel), by decide +kernel, by decide +kernel, by decide +kernel⟩
abbrev M_X7_letterAt : Mth := (yX7_letterAt, cX7_letterAt, 2, (some .int))
theorem lb_X7_letterAt : LMb M_X7_letterAt 1 := ⟨lw_in 336 (by decide +kernel), lw_in 2 (by decide +kernel), by decide +kernel, by decide +kernel, by decide +kernel⟩
abbrev M_X7_figureAt : Mth := (yX7_figureAt, cX7_figureAt, 2, (some .int))
theorem lb_X7_figureAt : LMb M_X7_figureAt 1 := ⟨lw_in 353 (by decide +kernel), lw_in 2 (by decide +kernel), by decide +kernel, by decide +kernel, by decide +kernel⟩
abbrev M_X7_firstFault : Mth := (yX7_firstFault, cX7_firstFault, 8, (some .int))
theorem lb_X7_firstFault : LMb M_X7_firstFault 0 := ⟨lw_in 332 (by decide +kernel), lw_in 2 (by decide +kernel), by decide +kernel, by decide +kernel, by decide +kernel⟩
abbrev M_X7_faultInPart : Mth := (yX7_faultInPart, cX7_faultInPart, 7, (some .int))
theorem lb_X7_faultInPart : LMb M_X7_faultInPart 3 := ⟨lw_in 349 (by decide +kernel), lw_in 2 (by decide +kernel), by decide +kernel, by decide +kernel, by decide +kernel⟩
abbrev M_X7_mayBeTold : Mth := (yX7_mayBeTold, cX7_mayBeTold, 3, (some .boolean))
theorem lb_X7_mayBeTold : LMb M_X7_mayBeTold 3 := ⟨lw_in 342 (by decide +kernel), lw_in 2 (by decide +kernel), by decide +kernel, by decide +kernel, by decide +kernel⟩
abbrev M_X7_sizeOf : Mth := (yX7_sizeOf, cX7_sizeOf, 1, (some .int))
theorem lb_X7_sizeOf : LMb M_X7_sizeOf 1 := ⟨lw_in 345 (by decide +kernel), lw_in 2 (by decide +kernel), by decide +kernel, by decide +kernel, by decide +kernel⟩
abbrev M_X7_least : Mth := (yX7_least, cX7_least, 3, (some .int))
theorem lb_X7_least : LMb M_X7_least 3 := ⟨lw_in 356 (by decide +kernel), lw_in 2 (by decide +kernel), by decide +kernel, by decide +kernel, by decide +kernel⟩
abbrev M_X7_most : Mth := (yX7_most, cX7_most, 3, (some .int))
theorem lb_X7_most : LMb M_X7_most 3 := ⟨lw_in 359 (by decide +kernel), lw_in 2 (by decide +kernel), by decide +kernel, by decide +kernel, by decide +kernel⟩
abbrev M_X8_init : Mth := (yX8_init, cX8_init, 1, none)
theorem lb_X8_init : LMb M_X8_init 0 := ⟨lw_in 41 (by decide +kernel), lw_in 3 (by decide +kernel), by decide +kernel, by decide +kernel, by decide +kernel⟩
abbrev M_X8_hasBell : Mth := (yX8_hasBell, cX8_hasBell, 2, (some .boolean))
theorem lb_X8_hasBell : LMb M_X8_hasBell 1 := ⟨lw_in 415 (by decide +kernel), lw_in 3 (by decide +kernel), by decide +kernel, by decide +kernel, by decide +kernel⟩
abbrev M_X8_hasBidder : Mth := (yX8_hasBidder, cX8_hasBidder, 2, (some .boolean))
theorem lb_X8_hasBidder : LMb M_X8_hasBidder 1 := ⟨lw_in 443 (by decide +kernel), lw_in 3 (by decide +kernel), by decide +kernel, by decide +kernel, by decide +kernel⟩
abbrev M_X8_everyBell : Mth := (yX8_everyBell, cX8_everyBell, 1, (some .int))
theorem lb_X8_everyBell : LMb M_X8_everyBell 0 := ⟨lw_in 661 (by decide +kernel), lw_in 3 (by decide +kernel), by decide +kernel, by decide +kernel, by decide +kernel⟩
abbrev M_X8_everyone : Mth := (yX8_everyone, cX8_everyone, 1, (some .int))
theorem lb_X8_everyone : LMb M_X8_everyone 0 := ⟨lw_in 548 (by decide +kernel), lw_in 3 (by decide +kernel), by decide +kernel, by decide +kernel, by decide +kernel⟩
abbrev M_X8_mayBegin : Mth := (yX8_mayBegin, cX8_mayBegin, 3, (some .boolean))
theorem lb_X8_mayBegin : LMb M_X8_mayBegin 2 := ⟨lw_in 462 (by decide +kernel), lw_in 3 (by decide +kernel), by decide +kernel, by decide +kernel, by decide +kernel⟩
abbrev M_X8_isQuiet : Mth := (yX8_isQuiet, cX8_isQuiet, 2, (some .boolean))
theorem lb_X8_isQuiet : LMb M_X8_isQuiet 1 := ⟨lw_in 693 (by decide +kernel), lw_in 3 (by decide +kernel), by decide +kernel, by decide +kernel, by decide +kernel⟩
abbrev M_X8_isPealOf : Mth := (yX8_isPealOf, cX8_isPealOf, 3, (some .boolean))
theorem lb_X8_isPealOf : LMb M_X8_isPealOf 2 := ⟨lw_in 715 (by decide +kernel), lw_in 3 (by decide +kernel), by decide +kernel, by decide +kernel, by decide +kernel⟩
abbrev M_X8_takes : Mth := (yX8_takes, cX8_takes, 4, (some .long))
theorem lb_X8_takes : LMb M_X8_takes 2 := ⟨lw_in 474 (by decide +kernel), lw_in 3 (by decide +kernel), by decide +kernel, by decide +kernel, by decide +kernel⟩
abbrev M_X8_ringing : Mth := (yX8_ringing, cX8_ringing, 4, (some .int))
theorem lb_X8_ringing : LMb M_X8_ringing 2 := ⟨lw_in 432 (by decide +kernel), lw_in 3 (by decide +kernel), by decide +kernel, by decide +kernel, by decide +kernel⟩
abbrev M_X8_wants : Mth := (yX8_wants, cX8_wants, 2, (some .int))
theorem lb_X8_wants : LMb M_X8_wants 1 := ⟨lw_in 479 (by decide +kernel), lw_in 3 (by decide +kernel), by decide +kernel, by decide +kernel, by decide +kernel⟩
abbrev M_X8_wantedSeconds : Mth := (yX8_wantedSeconds, cX8_wantedSeconds, 4, (some .int))
theorem lb_X8_wantedSeconds : LMb M_X8_wantedSeconds 0 := ⟨lw_in 734 (by decide +kernel), lw_in 3 (by decide +kernel), by decide +kernel, by decide +kernel, by decide +kernel⟩
abbrev M_X8_build : Mth := (yX8_build, cX8_build, 5, none)
theorem lb_X8_build : LMb M_X8_build 1 := ⟨lw_in 367 (by decide +kernel), lw_in 3 (by decide +kernel), by decide +kernel, by decide +kernel, by decide +kernel⟩
abbrev M_X8_clear : Mth := (yX8_clear, cX8_clear, 3, none)
theorem lb_X8_clear : LMb M_X8_clear 0 := ⟨lw_in 371 (by decide +kernel), lw_in 3 (by decide +kernel), by decide +kernel, by decide +kernel, by decide +kernel⟩
abbrev M_X8_addBell : Mth := (yX8_addBell, cX8_addBell, 3, none)
theorem lb_X8_addBell : LMb M_X8_addBell 2 := ⟨lw_in 381 (by decide +kernel), lw_in 3 (by decide +kernel), by decide +kernel, by decide +kernel, by decide +kernel⟩
abbrev M_X8_addBidder : Mth := (yX8_addBidder, cX8_addBidder, 7, none)
theorem lb_X8_addBidder : LMb M_X8_addBidder 3 := ⟨lw_in 385 (by decide +kernel), lw_in 3 (by decide +kernel), by decide +kernel, by decide +kernel, by decide +kernel⟩
abbrev M_X8_layPeal : Mth := (yX8_layPeal, cX8_layPeal, 14, none)
theorem lb_X8_layPeal : LMb M_X8_layPeal 1 := ⟨lw_in 389 (by decide +kernel), lw_in 3 (by decide +kernel), by decide +kernel, by decide +kernel, by decide +kernel⟩
abbrev M_X8_layPlace : Mth := (yX8_layPlace, cX8_layPlace, 6, none)
theorem lb_X8_layPlace : LMb M_X8_layPlace 4 := ⟨lw_in 375 (by decide +kernel), lw_in 3 (by decide +kernel), by decide +kernel, by decide +kernel, by decide +kernel⟩
abbrev M_X8_clash : Mth := (yX8_clash, cX8_clash, 5, (some .boolean))
theorem lb_X8_clash : LMb M_X8_clash 4 := ⟨lw_in 470 (by decide +kernel), lw_in 3 (by decide +kernel), by decide +kernel, by decide +kernel, by decide +kernel⟩
abbrev M_J9_abs_0f7a4 : Mth := (yJ9_abs_0f7a4, cJ9_abs_0f7a4, 1, (some .int))
theorem lb_J9_abs_0f7a4 : LMb M_J9_abs_0f7a4 1 := ⟨lw_in 637 (by decide +kernel), lw_in 12 (by decide +kernel), by decide +kernel, by decide +kernel, by decide +kernel⟩
theorem lw_X9_10 : LKw RX9 10 TX9 0 := Or.inl (lw_in 269 (by decide +kernel))
theorem lk_X9_10 : LK RX9 10 9 0 := ⟨_, _, _, rfl, by decide, tin_9, lw_X9_10⟩
theorem lw_X9_19 : LKw RX9 19 TX9 1 := Or.inl (lw_in 270 (by decide +kernel))
theorem lk_X9_19 : LK RX9 19 9 1 := ⟨_, _, _, rfl, by decide, tin_9, lw_X9_19⟩
theorem lw_X9_28 : LKw RX9 28 TX9 2 := Or.inl (lw_in 271 (by decide +kernel))
theorem lk_X9_28 : LK RX9 28 9 2 := ⟨_, _, _, rfl, by decide, tin_9, lw_X9_28⟩
theorem lw_X9_32 : LKw RX9 32 TX9 3 := Or.inl (lw_in 272 (by decide +kernel))
theorem lk_X9_32 : LK RX9 32 9 3 := ⟨_, _, _, rfl, by decide, tin_9, lw_X9_32⟩
theorem lw_X9_38 : LKw RX9 38 TX9 4 := Or.inl (lw_in 273 (by decide +kernel))
theorem lk_X9_38 : LK RX9 38 9 4 := ⟨_, _, _, rfl, by decide, tin_9, lw_X9_38⟩
theorem lw_X9_42 : LKw RX9 42 TX9 5 := Or.inl (lw_in 274 (by decide +kernel))
theorem lk_X9_42 : LK RX9 42 9 5 := ⟨_, _, _, rfl, by decide, tin_9, lw_X9_42⟩
theorem lw_X9_48 : LKw RX9 48 TX9 6 := Or.inl (lw_in 275 (by decide +kernel))
theorem lk_X9_48 : LK RX9 48 9 6 := ⟨_, _, _, rfl, by decide, tin_9, lw_X9_48⟩
theorem lw_X9_55 : LKw RX9 55 TX9 7 := Or.inl (lw_in 276 (by decide +kernel))
theorem lk_X9_55 : LK RX9 55 9 7 := ⟨_, _, _, rfl, by decide, tin_9, lw_X9_55⟩
theorem lw_X9_62 : LKw RX9 62 TX9 8 := Or.inl (lw_in 277 (by decide +kernel))
theorem lk_X9_62 : LK RX9 62 9 8 := ⟨_, _, _, rfl, by decide, tin_9, lw_X9_62⟩
theorem lw_X9_69 : LKw RX9 69 TX9 9 := Or.inl (lw_in 278 (by decide +kernel))
theorem lk_X9_69 : LK RX9 69 9 9 := ⟨_, _, _, rfl, by decide, tin_9, lw_X9_69⟩
theorem lw_X9_76 : LKw RX9 76 TX9 10 := Or.inl (lw_in 279 (by decide +kernel))
theorem lk_X9_76 : LK RX9 76 9 10 := ⟨_, _, _, rfl, by decide, tin_9, lw_X9_76⟩
theorem lw_X9_80 : LKw RX9 80 TX9 11 := Or.inl (lw_in 280 (by decide +kernel))
theorem lk_X9_80 : LK RX9 80 9 11 := ⟨_, _, _, rfl, by decide, tin_9, lw_X9_80⟩
theorem lw_X9_84 : LKw RX9 84 TX9 12 := Or.inl (lw_in 281 (by decide +kernel))
theorem lk_X9_84 : LK RX9 84 9 12 := ⟨_, _, _, rfl, by decide, tin_9, lw_X9_84⟩
theorem lp_X9_84 : LPt RX9 84 9 12 .long := ⟨_, _, _, tyX9, rfl, by decide, tin_9, lw_X9_84, tyX9_ok, nmX9, rfl, by decide +kernel⟩
theorem lm_X9_88 : LMV RX9 88 M_X7_append 1 := ⟨lb_X7_append, lw_in 313 (by decide +kernel), lw_in 314 (by decide +kernel), lw_in 315 (by decide +kernel)⟩
theorem lm_X9_92 : LMV RX9 92 M_X7_clear 0 := ⟨lb_X7_clear, lw_in 321 (by decide +kernel), lw_in 322 (by decide +kernel), lw_in 323 (by decide +kernel)⟩
theorem lm_X9_96 : LMV RX9 96 M_X7_firstFault 0 := ⟨lb_X7_firstFault, lw_in 329 (by decide +kernel), lw_in 330 (by decide +kernel), lw_in 331 (by decide +kernel)⟩
theorem lm_X9_99 : LMV RX9 99 M_X8_build 1 := ⟨lb_X8_build, lw_in 364 (by decide +kernel), lw_in 365 (by decide +kernel), lw_in 366 (by decide +kernel)⟩
theorem lm_X9_103 : LMV RX9 103 M_X1_clear 0 := ⟨lb_X1_clear, lw_in 396 (by decide +kernel), lw_in 397 (by decide +kernel), lw_in 398 (by decide +kernel)⟩
theorem lm_X9_105 : LMV RX9 105 M_X0_clear 0 := ⟨lb_X0_clear, lw_in 400 (by decide +kernel), lw_in 401 (by decide +kernel), lw_in 402 (by decide +kernel)⟩
theorem lm_X9_106 : LMV RX9 106 M_X6_forget 0 := ⟨lb_X6_forget, lw_in 404 (by decide +kernel), lw_in 405 (by decide +kernel), lw_in 406 (by decide +kernel)⟩
theorem lw_X9_109 : LKw RX9 109 TX8 0 := Or.inr ⟨"BellSeconds", nw_in 45 (by decide +kernel)⟩
theorem lk_X9_109 : LK RX9 109 8 0 := ⟨_, _, _, rfl, by decide, tin_8, lw_X9_109⟩
theorem lw_X9_113 : LKw RX9 113 TX8 1 := Or.inr ⟨"BellSeconds", nw_in 47 (by decide +kernel)⟩
theorem lk_X9_113 : LK RX9 113 8 1 := ⟨_, _, _, rfl, by decide, tin_8, lw_X9_113⟩
theorem lm_X9_116 : LMV RX9 116 M_X8_hasBell 1 := ⟨lb_X8_hasBell, lw_in 412 (by decide +kernel), lw_in 413 (by decide +kernel), lw_in 414 (by decide +kernel)⟩
theorem lw_X9_120 : LKw RX9 120 TX8 2 := Or.inr ⟨"BellSeconds", nw_in 50 (by decide +kernel)⟩
theorem lk_X9_120 : LK RX9 120 8 2 := ⟨_, _, _, rfl, by decide, tin_8, lw_X9_120⟩
theorem lm_X9_123 : LMS RX9 123 M_X9_at 2 := ⟨lb_X9_at, lw_in 416 (by decide +kernel), lw_in 338 (by decide +kernel)⟩
theorem lw_X9_127 : LKw RX9 127 TX8 3 := Or.inr ⟨"BellSeconds", nw_in 52 (by decide +kernel)⟩
theorem lk_X9_127 : LK RX9 127 8 3 := ⟨_, _, _, rfl, by decide, tin_8, lw_X9_127⟩
theorem lm_X9_130 : LMV RX9 130 M_X1_ringing 0 := ⟨lb_X1_ringing, lw_in 417 (by decide +kernel), lw_in 418 (by decide +kernel), lw_in 419 (by decide +kernel)⟩
theorem lm_X9_133 : LMS RX9 133 M_X9_secondsOf 2 := ⟨lb_X9_secondsOf, lw_in 433 (by decide +kernel), lw_in 434 (by decide +kernel)⟩
theorem lm_X9_137 : LMV RX9 137 M_X8_hasBidder 1 := ⟨lb_X8_hasBidder, lw_in 440 (by decide +kernel), lw_in 441 (by decide +kernel), lw_in 442 (by decide +kernel)⟩
theorem lw_X9_140 : LKw RX9 140 TX8 4 := Or.inr ⟨"BellSeconds", nw_in 55 (by decide +kernel)⟩
theorem lk_X9_140 : LK RX9 140 8 4 := ⟨_, _, _, rfl, by decide, tin_8, lw_X9_140⟩
theorem lw_X9_143 : LKw RX9 143 TX8 5 := Or.inr ⟨"BellSeconds", nw_in 58 (by decide +kernel)⟩
theorem lk_X9_143 : LK RX9 143 8 5 := ⟨_, _, _, rfl, by decide, tin_8, lw_X9_143⟩
theorem lw_X9_146 : LKw RX9 146 TX8 6 := Or.inr ⟨"BellSeconds", nw_in 61 (by decide +kernel)⟩
theorem lk_X9_146 : LK RX9 146 8 6 := ⟨_, _, _, rfl, by decide, tin_8, lw_X9_146⟩
theorem lw_X9_149 : LKw RX9 149 TX8 7 := Or.inr ⟨"BellSeconds", nw_in 63 (by decide +kernel)⟩
theorem lk_X9_149 : LK RX9 149 8 7 := ⟨_, _, _, rfl, by decide, tin_8, lw_X9_149⟩
theorem lw_X9_152 : LKw RX9 152 TX8 8 := Or.inr ⟨"BellSeconds", nw_in 65 (by decide +kernel)⟩
theorem lk_X9_152 : LK RX9 152 8 8 := ⟨_, _, _, rfl, by decide, tin_8, lw_X9_152⟩
theorem lw_X9_155 : LKw RX9 155 TX8 9 := Or.inr ⟨"BellSeconds", nw_in 68 (by decide +kernel)⟩
theorem lk_X9_155 : LK RX9 155 8 9 := ⟨_, _, _, rfl, by decide, tin_8, lw_X9_155⟩
theorem lm_X9_158 : LMV RX9 158 M_X1_secondOf 1 := ⟨lb_X1_secondOf, lw_in 444 (by decide +kernel), lw_in 422 (by decide +kernel), lw_in 423 (by decide +kernel)⟩
theorem lw_X9_161 : LKw RX9 161 TX8 10 := Or.inr ⟨"BellSeconds", nw_in 71 (by decide +kernel)⟩
theorem lk_X9_161 : LK RX9 161 8 10 := ⟨_, _, _, rfl, by decide, tin_8, lw_X9_161⟩
theorem lm_X9_164 : LMS RX9 164 M_X9_isSecond 1 := ⟨lb_X9_isSecond, lw_in 449 (by decide +kernel), lw_in 450 (by decide +kernel)⟩
theorem lm_X9_167 : LMS RX9 167 M_X9_bellsAt 2 := ⟨lb_X9_bellsAt, lw_in 452 (by decide +kernel), lw_in 453 (by decide +kernel)⟩
theorem lm_X9_170 : LMV RX9 170 M_X8_mayBegin 2 := ⟨lb_X8_mayBegin, lw_in 459 (by decide +kernel), lw_in 460 (by decide +kernel), lw_in 461 (by decide +kernel)⟩
theorem lm_X9_174 : LMV RX9 174 M_X1_clashing 2 := ⟨lb_X1_clashing, lw_in 463 (by decide +kernel), lw_in 464 (by decide +kernel), lw_in 465 (by decide +kernel)⟩
theorem lm_X9_177 : LMV RX9 177 M_X1_isLet 1 := ⟨lb_X1_isLet, lw_in 484 (by decide +kernel), lw_in 485 (by decide +kernel), lw_in 486 (by decide +kernel)⟩
theorem lm_X9_180 : LMV RX9 180 M_X1_fits 2 := ⟨lb_X1_fits, lw_in 488 (by decide +kernel), lw_in 489 (by decide +kernel), lw_in 490 (by decide +kernel)⟩
theorem lm_X9_183 : LMV RX9 183 M_X9_act 2 := ⟨lb_X9_act, lw_in 494 (by decide +kernel), lw_in 496 (by decide +kernel), lw_ip 6 (by decide +kernel)⟩
theorem lm_X9_187 : LMV RX9 187 M_X1_worth 0 := ⟨lb_X1_worth, lw_in 511 (by decide +kernel), lw_in 512 (by decide +kernel), lw_in 513 (by decide +kernel)⟩
theorem lw_X9_190 : LKw RX9 190 TX0 2 := Or.inr ⟨"BellSeconds", nw_in 144 (by decide +kernel)⟩
theorem lk_X9_190 : LK RX9 190 0 2 := ⟨_, _, _, rfl, by decide, tin_0, lw_X9_190⟩
theorem lm_X9_193 : LMV RX9 193 M_X0_takeBack 1 := ⟨lb_X0_takeBack, lw_in 536 (by decide +kernel), lw_in 537 (by decide +kernel), lw_in 538 (by decide +kernel)⟩
theorem lm_X9_197 : LMV RX9 197 M_X1_toldOf 1 := ⟨lb_X1_toldOf, lw_in 498 (by decide +kernel), lw_in 426 (by decide +kernel), lw_in 427 (by decide +kernel)⟩
theorem lm_X9_200 : LMV RX9 200 M_X0_append 2 := ⟨lb_X0_append, lw_in 499 (by decide +kernel), lw_in 500 (by decide +kernel), lw_in 501 (by decide +kernel)⟩
theorem lm_X9_202 : LMV RX9 202 M_X1_tell 2 := ⟨lb_X1_tell, lw_in 507 (by decide +kernel), lw_in 508 (by decide +kernel), lw_in 509 (by decide +kernel)⟩
theorem lm_X9_205 : LMV RX9 205 M_X8_everyone 0 := ⟨lb_X8_everyone, lw_in 545 (by decide +kernel), lw_in 546 (by decide +kernel), lw_in 547 (by decide +kernel)⟩
theorem lm_X9_208 : LMV RX9 208 M_X4_mostWorth 1 := ⟨lb_X4_mostWorth, lw_in 549 (by decide +kernel), lw_in 550 (by decide +kernel), lw_in 551 (by decide +kernel)⟩
theorem lw_X9_211 : LKw RX9 211 TX4 2 := Or.inr ⟨"BellSeconds", nw_in 163 (by decide +kernel)⟩
theorem lk_X9_211 : LK RX9 211 4 2 := ⟨_, _, _, rfl, by decide, tin_4, lw_X9_211⟩
theorem lm_X9_214 : LMV RX9 214 M_X4_mostBeside 1 := ⟨lb_X4_mostBeside, lw_in 583 (by decide +kernel), lw_in 584 (by decide +kernel), lw_in 585 (by decide +kernel)⟩
theorem lm_X9_218 : LMV RX9 218 M_X4_mostAtOnce 0 := ⟨lb_X4_mostAtOnce, lw_in 599 (by decide +kernel), lw_in 600 (by decide +kernel), lw_in 601 (by decide +kernel)⟩
theorem lm_X9_221 : LMV RX9 221 M_X1_cheapestBegin 1 := ⟨lb_X1_cheapestBegin, lw_in 607 (by decide +kernel), lw_in 608 (by decide +kernel), lw_in 609 (by decide +kernel)⟩
theorem lm_X9_224 : LMV RX9 224 M_X1_worthOf 1 := ⟨lb_X1_worthOf, lw_in 611 (by decide +kernel), lw_in 521 (by decide +kernel), lw_in 522 (by decide +kernel)⟩
theorem lm_X9_227 : LMV RX9 227 M_X5_fewest 1 := ⟨lb_X5_fewest, lw_in 616 (by decide +kernel), lw_in 617 (by decide +kernel), lw_in 618 (by decide +kernel)⟩
theorem lc_X9_230 : LCL RX9 230 (100) := lw_in 642 (by decide +kernel)
theorem lm_X9_232 : LMV RX9 232 M_X9_firstThatCanNotBe 1 := ⟨lb_X9_firstThatCanNotBe, lw_in 643 (by decide +kernel), lw_in 645 (by decide +kernel), lw_ip 14 (by decide +kernel)⟩
theorem lm_X9_235 : LMV RX9 235 M_X1_copy 1 := ⟨lb_X1_copy, lw_in 647 (by decide +kernel), lw_in 567 (by decide +kernel), lw_in 568 (by decide +kernel)⟩
theorem lm_X9_238 : LMV RX9 238 M_X1_letIfCan 2 := ⟨lb_X1_letIfCan, lw_in 648 (by decide +kernel), lw_in 649 (by decide +kernel), lw_in 650 (by decide +kernel)⟩
theorem lm_X9_241 : LMV RX9 241 M_X8_everyBell 0 := ⟨lb_X8_everyBell, lw_in 658 (by decide +kernel), lw_in 659 (by decide +kernel), lw_in 660 (by decide +kernel)⟩
theorem lm_X9_244 : LMV RX9 244 M_X3_append 2 := ⟨lb_X3_append, lw_in 662 (by decide +kernel), lw_in 663 (by decide +kernel), lw_in 664 (by decide +kernel)⟩
theorem lm_X9_246 : LMV RX9 246 M_X3_clear 0 := ⟨lb_X3_clear, lw_in 670 (by decide +kernel), lw_in 671 (by decide +kernel), lw_in 672 (by decide +kernel)⟩
theorem lm_X9_247 : LMV RX9 247 M_X2_tally 2 := ⟨lb_X2_tally, lw_in 678 (by decide +kernel), lw_in 679 (by decide +kernel), lw_in 680 (by decide +kernel)⟩
theorem lw_X9_251 : LKw RX9 251 TX2 1 := Or.inr ⟨"BellSeconds", nw_in 205 (by decide +kernel)⟩
theorem lk_X9_251 : LK RX9 251 2 1 := ⟨_, _, _, rfl, by decide, tin_2, lw_X9_251⟩
theorem lw_X9_254 : LKw RX9 254 TX2 3 := Or.inr ⟨"BellSeconds", nw_in 209 (by decide +kernel)⟩
theorem lk_X9_254 : LK RX9 254 2 3 := ⟨_, _, _, rfl, by decide, tin_2, lw_X9_254⟩
theorem lw_X9_257 : LKw RX9 257 TX2 4 := Or.inr ⟨"BellSeconds", nw_in 211 (by decide +kernel)⟩
theorem lk_X9_257 : LK RX9 257 2 4 := ⟨_, _, _, rfl, by decide, tin_2, lw_X9_257⟩
theorem lc_X9_260 : LC RX9 260 (1049601) := lw_in 723 (by decide +kernel)
theorem lw_X9_261 : LKw RX9 261 TX2 2 := Or.inr ⟨"BellSeconds", nw_in 207 (by decide +kernel)⟩
theorem lk_X9_261 : LK RX9 261 2 2 := ⟨_, _, _, rfl, by decide, tin_2, lw_X9_261⟩
theorem lm_X9_264 : LMS RX9 264 M_X9_commonDivisor 2 := ⟨lb_X9_commonDivisor, lw_in 724 (by decide +kernel), lw_in 725 (by decide +kernel)⟩
theorem lm_X9_267 : LMV RX9 267 M_X8_wantedSeconds 0 := ⟨lb_X8_wantedSeconds, lw_in 731 (by decide +kernel), lw_in 732 (by decide +kernel), lw_in 733 (by decide +kernel)⟩
theorem lm_X9_270 : LMS RX9 270 M_X9_isBid 1 := ⟨lb_X9_isBid, lw_in 742 (by decide +kernel), lw_in 743 (by decide +kernel)⟩
theorem lm_X9_273 : LMS RX9 273 M_X9_rests 4 := ⟨lb_X9_rests, lw_in 745 (by decide +kernel), lw_in 746 (by decide +kernel)⟩
theorem lc_X9_277 : LCL RX9 277 (6364136223846793005) := lw_in 762 (by decide +kernel)
theorem lc_X9_279 : LCL RX9 279 (1442695040888963407) := lw_in 763 (by decide +kernel)
theorem lc_X9_281 : LCL RX9 281 (50) := lw_in 764 (by decide +kernel)
theorem lm_X9_283 : LMV RX9 283 M_X9_slotOf 1 := ⟨lb_X9_slotOf, lw_in 769 (by decide +kernel), lw_in 771 (by decide +kernel), lw_ip 20 (by decide +kernel)⟩
theorem lm_X9_287 : LMV RX9 287 M_X6_fill 1 := ⟨lb_X6_fill, lw_in 773 (by decide +kernel), lw_in 774 (by decide +kernel), lw_in 775 (by decide +kernel)⟩
theorem lw_X9_290 : LKw RX9 290 TX6 1 := Or.inr ⟨"BellSeconds", nw_in 129 (by decide +kernel)⟩
theorem lk_X9_290 : LK RX9 290 6 1 := ⟨_, _, _, rfl, by decide, tin_6, lw_X9_290⟩
theorem lw_X9_294 : LKw RX9 294 TX6 0 := Or.inr ⟨"BellSeconds", nw_in 127 (by decide +kernel)⟩
theorem lk_X9_294 : LK RX9 294 6 0 := ⟨_, _, _, rfl, by decide, tin_6, lw_X9_294⟩
theorem lw_X9_297 : LKw RX9 297 TX7 1 := Or.inr ⟨"BellSeconds", nw_in 30 (by decide +kernel)⟩
theorem lk_X9_297 : LK RX9 297 7 1 := ⟨_, _, _, rfl, by decide, tin_7, lw_X9_297⟩
theorem lm_X9_300 : LMV RX9 300 M_X1_everyoneLet 0 := ⟨lb_X1_everyoneLet, lw_in 786 (by decide +kernel), lw_in 516 (by decide +kernel), lw_in 517 (by decide +kernel)⟩
theorem lm_X9_303 : LMS RX9 303 M_X9_ofAnyBell 1 := ⟨lb_X9_ofAnyBell, lw_in 787 (by decide +kernel), lw_in 736 (by decide +kernel)⟩
theorem lw_X9_306 : LKw RX9 306 TX3 2 := Or.inr ⟨"BellSeconds", nw_in 189 (by decide +kernel)⟩
theorem lk_X9_306 : LK RX9 306 3 2 := ⟨_, _, _, rfl, by decide, tin_3, lw_X9_306⟩
theorem lm_X9_307 : LMS RX9 307 M_X9_gainOfOne 3 := ⟨lb_X9_gainOfOne, lw_in 748 (by decide +kernel), lw_in 749 (by decide +kernel)⟩
theorem lm_X9_311 : LMS RX9 311 M_X9_gainOfOther 3 := ⟨lb_X9_gainOfOther, lw_in 751 (by decide +kernel), lw_in 752 (by decide +kernel)⟩
theorem lw_X10_7 : LKw RX10 7 TX10 2 := Or.inl (lw_in 796 (by decide +kernel))
theorem lk_X10_7 : LK RX10 7 10 2 := ⟨_, _, _, rfl, by decide, tin_10, lw_X10_7⟩
theorem lw_X10_13 : LKw RX10 13 TX10 3 := Or.inl (lw_in 797 (by decide +kernel))
theorem lk_X10_13 : LK RX10 13 10 3 := ⟨_, _, _, rfl, by decide, tin_10, lw_X10_13⟩
theorem lw_X10_16 : LKw RX10 16 TX10 4 := Or.inl (lw_in 798 (by decide +kernel))
theorem lk_X10_16 : LK RX10 16 10 4 := ⟨_, _, _, rfl, by decide, tin_10, lw_X10_16⟩
theorem lw_X10_19 : LKw RX10 19 TX10 5 := Or.inl (lw_in 799 (by decide +kernel))
theorem lk_X10_19 : LK RX10 19 10 5 := ⟨_, _, _, rfl, by decide, tin_10, lw_X10_19⟩
theorem lw_X10_22 : LKw RX10 22 TX10 6 := Or.inl (lw_in 800 (by decide +kernel))
theorem lk_X10_22 : LK RX10 22 10 6 := ⟨_, _, _, rfl, by decide, tin_10, lw_X10_22⟩
theorem lw_X10_25 : LKw RX10 25 TX10 7 := Or.inl (lw_in 801 (by decide +kernel))
theorem lk_X10_25 : LK RX10 25 10 7 := ⟨_, _, _, rfl, by decide, tin_10, lw_X10_25⟩
theorem lw_X10_28 : LKw RX10 28 TX10 8 := Or.inl (lw_in 802 (by decide +kernel))
theorem lk_X10_28 : LK RX10 28 10 8 := ⟨_, _, _, rfl, by decide, tin_10, lw_X10_28⟩
theorem lw_X10_31 : LKw RX10 31 TX10 16 := Or.inl (lw_in 810 (by decide +kernel))
theorem lk_X10_31 : LK RX10 31 10 16 := ⟨_, _, _, rfl, by decide, tin_10, lw_X10_31⟩
theorem lw_X10_34 : LKw RX10 34 TX10 17 := Or.inl (lw_in 811 (by decide +kernel))
theorem lk_X10_34 : LK RX10 34 10 17 := ⟨_, _, _, rfl, by decide, tin_10, lw_X10_34⟩
theorem lw_X10_37 : LKw RX10 37 TX10 18 := Or.inl (lw_in 812 (by decide +kernel))
theorem lk_X10_37 : LK RX10 37 10 18 := ⟨_, _, _, rfl, by decide, tin_10, lw_X10_37⟩
theorem lw_X10_40 : LKw RX10 40 TX10 19 := Or.inl (lw_in 813 (by decide +kernel))
theorem lk_X10_40 : LK RX10 40 10 19 := ⟨_, _, _, rfl, by decide, tin_10, lw_X10_40⟩
theorem lw_X10_44 : LKw RX10 44 TX10 24 := Or.inl (lw_in 818 (by decide +kernel))
theorem lk_X10_44 : LK RX10 44 10 24 := ⟨_, _, _, rfl, by decide, tin_10, lw_X10_44⟩
theorem lw_X10_47 : LKw RX10 47 TX10 25 := Or.inl (lw_in 819 (by decide +kernel))
theorem lk_X10_47 : LK RX10 47 10 25 := ⟨_, _, _, rfl, by decide, tin_10, lw_X10_47⟩
theorem lw_X10_50 : LKw RX10 50 TX10 26 := Or.inl (lw_in 820 (by decide +kernel))
theorem lk_X10_50 : LK RX10 50 10 26 := ⟨_, _, _, rfl, by decide, tin_10, lw_X10_50⟩
theorem lw_X10_53 : LKw RX10 53 TX10 27 := Or.inl (lw_in 821 (by decide +kernel))
theorem lk_X10_53 : LK RX10 53 10 27 := ⟨_, _, _, rfl, by decide, tin_10, lw_X10_53⟩
theorem lw_X10_56 : LKw RX10 56 TX10 28 := Or.inl (lw_in 822 (by decide +kernel))
theorem lk_X10_56 : LK RX10 56 10 28 := ⟨_, _, _, rfl, by decide, tin_10, lw_X10_56⟩
theorem lw_X10_59 : LKw RX10 59 TX10 30 := Or.inl (lw_in 824 (by decide +kernel))
theorem lk_X10_59 : LK RX10 59 10 30 := ⟨_, _, _, rfl, by decide, tin_10, lw_X10_59⟩
theorem lw_X10_62 : LKw RX10 62 TX10 31 := Or.inl (lw_in 825 (by decide +kernel))
theorem lk_X10_62 : LK RX10 62 10 31 := ⟨_, _, _, rfl, by decide, tin_10, lw_X10_62⟩
theorem lw_X10_65 : LKw RX10 65 TX10 32 := Or.inl (lw_in 826 (by decide +kernel))
theorem lk_X10_65 : LK RX10 65 10 32 := ⟨_, _, _, rfl, by decide, tin_10, lw_X10_65⟩
theorem lw_X10_68 : LKw RX10 68 TX10 33 := Or.inl (lw_in 827 (by decide +kernel))
theorem lk_X10_68 : LK RX10 68 10 33 := ⟨_, _, _, rfl, by decide, tin_10, lw_X10_68⟩
theorem lw_X10_71 : LKw RX10 71 TX10 34 := Or.inl (lw_in 828 (by decide +kernel))
theorem lk_X10_71 : LK RX10 71 10 34 := ⟨_, _, _, rfl, by decide, tin_10, lw_X10_71⟩
theorem lw_X10_74 : LKw RX10 74 TX10 35 := Or.inl (lw_in 829 (by decide +kernel))
theorem lk_X10_74 : LK RX10 74 10 35 := ⟨_, _, _, rfl, by decide, tin_10, lw_X10_74⟩
theorem lw_X10_77 : LKw RX10 77 TX10 36 := Or.inl (lw_in 830 (by decide +kernel))
theorem lk_X10_77 : LK RX10 77 10 36 := ⟨_, _, _, rfl, by decide, tin_10, lw_X10_77⟩
theorem lw_X10_80 : LKw RX10 80 TX10 37 := Or.inl (lw_in 831 (by decide +kernel))
theorem lk_X10_80 : LK RX10 80 10 37 := ⟨_, _, _, rfl, by decide, tin_10, lw_X10_80⟩
theorem lw_X10_83 : LKw RX10 83 TX10 39 := Or.inl (lw_in 833 (by decide +kernel))
theorem lk_X10_83 : LK RX10 83 10 39 := ⟨_, _, _, rfl, by decide, tin_10, lw_X10_83⟩
theorem lw_X10_86 : LKw RX10 86 TX10 40 := Or.inl (lw_in 834 (by decide +kernel))
theorem lk_X10_86 : LK RX10 86 10 40 := ⟨_, _, _, rfl, by decide, tin_10, lw_X10_86⟩
theorem lw_X10_89 : LKw RX10 89 TX10 42 := Or.inl (lw_in 836 (by decide +kernel))
theorem lk_X10_89 : LK RX10 89 10 42 := ⟨_, _, _, rfl, by decide, tin_10, lw_X10_89⟩
theorem lw_X10_92 : LKw RX10 92 TX10 43 := Or.inl (lw_in 837 (by decide +kernel))
theorem lk_X10_92 : LK RX10 92 10 43 := ⟨_, _, _, rfl, by decide, tin_10, lw_X10_92⟩
theorem lc_X10_95 : LCL RX10 95 (255) := lw_in 932 (by decide +kernel)
theorem lm_X10_97 : LMS RX10 97 M_X10_in 3 := ⟨lb_X10_in, lw_in 933 (by decide +kernel), lw_in 934 (by decide +kernel)⟩
theorem lw_X10_101 : LKw RX10 101 TX10 9 := Or.inl (lw_in 803 (by decide +kernel))
theorem lk_X10_101 : LK RX10 101 10 9 := ⟨_, _, _, rfl, by decide, tin_10, lw_X10_101⟩
theorem lp_X10_101 : LPt RX10 101 10 9 .int := ⟨_, _, _, tyX10, rfl, by decide, tin_10, lw_X10_101, tyX10_ok, nmX10, rfl, by decide +kernel⟩
theorem lw_X10_105 : LKw RX10 105 TX10 11 := Or.inl (lw_in 805 (by decide +kernel))
theorem lk_X10_105 : LK RX10 105 10 11 := ⟨_, _, _, rfl, by decide, tin_10, lw_X10_105⟩
theorem lw_X10_108 : LKw RX10 108 TX10 10 := Or.inl (lw_in 804 (by decide +kernel))
theorem lk_X10_108 : LK RX10 108 10 10 := ⟨_, _, _, rfl, by decide, tin_10, lw_X10_108⟩
theorem lp_X10_105 : LPt RX10 105 10 11 .int := ⟨_, _, _, tyX10, rfl, by decide, tin_10, lw_X10_105, tyX10_ok, nmX10, rfl, by decide +kernel⟩
theorem lp_X10_108 : LPt RX10 108 10 10 .int := ⟨_, _, _, tyX10, rfl, by decide, tin_10, lw_X10_108, tyX10_ok, nmX10, rfl, by decide +kernel⟩
theorem lw_X10_111 : LKw RX10 111 TX10 12 := Or.inl (lw_in 806 (by decide +kernel))
theorem lk_X10_111 : LK RX10 111 10 12 := ⟨_, _, _, rfl, by decide, tin_10, lw_X10_111⟩
theorem lp_X10_111 : LPt RX10 111 10 12 .int := ⟨_, _, _, tyX10, rfl, by decide, tin_10, lw_X10_111, tyX10_ok, nmX10, rfl, by decide +kernel⟩
theorem lw_X10_114 : LKw RX10 114 TX10 13 := Or.inl (lw_in 807 (by decide +kernel))
theorem lk_X10_114 : LK RX10 114 10 13 := ⟨_, _, _, rfl, by decide, tin_10, lw_X10_114⟩
theorem lp_X10_114 : LPt RX10 114 10 13 .int := ⟨_, _, _, tyX10, rfl, by decide, tin_10, lw_X10_114, tyX10_ok, nmX10, rfl, by decide +kernel⟩
theorem lm_X10_117 : LMV RX10 117 M_X10_readPart 1 := ⟨lb_X10_readPart, lw_in 948 (by decide +kernel), lw_in 950 (by decide +kernel), lw_ip 22 (by decide +kernel)⟩
theorem lm_X10_121 : LMV RX10 121 M_X10_figure 2 := ⟨lb_X10_figure, lw_in 952 (by decide +kernel), lw_in 954 (by decide +kernel), lw_ip 23 (by decide +kernel)⟩
theorem lm_X10_125 : LMV RX10 125 M_X10_readSpan 1 := ⟨lb_X10_readSpan, lw_in 956 (by decide +kernel), lw_in 958 (by decide +kernel), lw_ip 24 (by decide +kernel)⟩
theorem lm_X10_128 : LMV RX10 128 M_X10_readText 0 := ⟨lb_X10_readText, lw_in 944 (by decide +kernel), lw_in 946 (by decide +kernel), lw_ip 21 (by decide +kernel)⟩
theorem lw_X10_132 : LKw RX10 132 TX10 0 := Or.inl (lw_in 794 (by decide +kernel))
theorem lk_X10_132 : LK RX10 132 10 0 := ⟨_, _, _, rfl, by decide, tin_10, lw_X10_132⟩
theorem lp_X10_132 : LPt RX10 132 10 0 .int := ⟨_, _, _, tyX10, rfl, by decide, tin_10, lw_X10_132, tyX10_ok, nmX10, rfl, by decide +kernel⟩
theorem lw_X10_135 : LKw RX10 135 TX10 1 := Or.inl (lw_in 795 (by decide +kernel))
theorem lk_X10_135 : LK RX10 135 10 1 := ⟨_, _, _, rfl, by decide, tin_10, lw_X10_135⟩
theorem lp_X10_135 : LPt RX10 135 10 1 .int := ⟨_, _, _, tyX10, rfl, by decide, tin_10, lw_X10_135, tyX10_ok, nmX10, rfl, by decide +kernel⟩
theorem lw_X10_138 : LKw RX10 138 TX10 14 := Or.inl (lw_in 808 (by decide +kernel))
theorem lk_X10_138 : LK RX10 138 10 14 := ⟨_, _, _, rfl, by decide, tin_10, lw_X10_138⟩
theorem lp_X10_138 : LPt RX10 138 10 14 .int := ⟨_, _, _, tyX10, rfl, by decide, tin_10, lw_X10_138, tyX10_ok, nmX10, rfl, by decide +kernel⟩
theorem lm_X10_141 : LMV RX10 141 M_X10_isQuiet 1 := ⟨lb_X10_isQuiet, lw_in 976 (by decide +kernel), lw_in 978 (by decide +kernel), lw_ip 27 (by decide +kernel)⟩
theorem lm_X10_145 : LMV RX10 145 M_X10_strokeAt 3 := ⟨lb_X10_strokeAt, lw_in 987 (by decide +kernel), lw_in 989 (by decide +kernel), lw_ip 29 (by decide +kernel)⟩
theorem lm_X10_149 : LMS RX10 149 M_X10_span 2 := ⟨lb_X10_span, lw_in 984 (by decide +kernel), lw_in 985 (by decide +kernel)⟩
theorem lm_X10_152 : LMV RX10 152 M_X10_seconds 3 := ⟨lb_X10_seconds, lw_in 980 (by decide +kernel), lw_in 982 (by decide +kernel), lw_ip 28 (by decide +kernel)⟩
theorem lm_X10_156 : LMV RX10 156 M_X10_clash 4 := ⟨lb_X10_clash, lw_in 1024 (by decide +kernel), lw_in 1026 (by decide +kernel), lw_ip 34 (by decide +kernel)⟩
theorem lm_X10_160 : LMS RX10 160 M_X10_has 2 := ⟨lb_X10_has, lw_in 1013 (by decide +kernel), lw_in 1014 (by decide +kernel)⟩
theorem lm_X10_164 : LMV RX10 164 M_X10_isBell 1 := ⟨lb_X10_isBell, lw_in 968 (by decide +kernel), lw_in 970 (by decide +kernel), lw_ip 25 (by decide +kernel)⟩
theorem lm_X10_167 : LMV RX10 167 M_X10_ringing 1 := ⟨lb_X10_ringing, lw_in 972 (by decide +kernel), lw_in 974 (by decide +kernel), lw_ip 26 (by decide +kernel)⟩
theorem lm_X10_171 : LMV RX10 171 M_X10_mayBegin 2 := ⟨lb_X10_mayBegin, lw_in 1004 (by decide +kernel), lw_in 1006 (by decide +kernel), lw_ip 32 (by decide +kernel)⟩
theorem lm_X10_174 : LMV RX10 174 M_X10_isBidder 1 := ⟨lb_X10_isBidder, lw_in 995 (by decide +kernel), lw_in 997 (by decide +kernel), lw_ip 30 (by decide +kernel)⟩
theorem lc_X10_177 : LCL RX10 177 (5) := lw_in 999 (by decide +kernel)
theorem lm_X10_179 : LMV RX10 179 M_X10_begins 1 := ⟨lb_X10_begins, lw_in 1000 (by decide +kernel), lw_in 1002 (by decide +kernel), lw_ip 31 (by decide +kernel)⟩
theorem lc_X10_182 : LCL RX10 182 (9) := lw_in 1012 (by decide +kernel)
theorem lm_X10_184 : LMV RX10 184 M_X10_clashesOf 2 := ⟨lb_X10_clashesOf, lw_in 1020 (by decide +kernel), lw_in 1022 (by decide +kernel), lw_ip 33 (by decide +kernel)⟩
theorem lw_X10_187 : LKw RX10 187 TX10 15 := Or.inl (lw_in 809 (by decide +kernel))
theorem lk_X10_187 : LK RX10 187 10 15 := ⟨_, _, _, rfl, by decide, tin_10, lw_X10_187⟩
theorem lp_X10_187 : LPt RX10 187 10 15 .int := ⟨_, _, _, tyX10, rfl, by decide, tin_10, lw_X10_187, tyX10_ok, nmX10, rfl, by decide +kernel⟩
theorem lm_X10_190 : LMV RX10 190 M_X10_canBe 2 := ⟨lb_X10_canBe, lw_in 1032 (by decide +kernel), lw_in 1034 (by decide +kernel), lw_ip 35 (by decide +kernel)⟩
theorem lm_X10_193 : LMV RX10 193 M_X10_keepAct 0 := ⟨lb_X10_keepAct, lw_in 1036 (by decide +kernel), lw_in 1038 (by decide +kernel), lw_ip 36 (by decide +kernel)⟩
theorem lm_X10_196 : LMV RX10 196 M_X10_letNow 0 := ⟨lb_X10_letNow, lw_in 1040 (by decide +kernel), lw_in 1042 (by decide +kernel), lw_ip 37 (by decide +kernel)⟩
theorem lm_X10_199 : LMV RX10 199 M_X10_coinsOf 1 := ⟨lb_X10_coinsOf, lw_in 1044 (by decide +kernel), lw_in 1046 (by decide +kernel), lw_ip 38 (by decide +kernel)⟩
theorem lm_X10_202 : LMV RX10 202 M_X10_clashAt 4 := ⟨lb_X10_clashAt, lw_in 1092 (by decide +kernel), lw_in 1094 (by decide +kernel), lw_ip 46 (by decide +kernel)⟩
theorem lm_X10_205 : LMV RX10 205 M_X10_dayLet 0 := ⟨lb_X10_dayLet, lw_in 1076 (by decide +kernel), lw_in 1078 (by decide +kernel), lw_ip 42 (by decide +kernel)⟩
theorem lw_X10_208 : LKw RX10 208 TX10 20 := Or.inl (lw_in 814 (by decide +kernel))
theorem lk_X10_208 : LK RX10 208 10 20 := ⟨_, _, _, rfl, by decide, tin_10, lw_X10_208⟩
theorem lp_X10_208 : LPt RX10 208 10 20 .int := ⟨_, _, _, tyX10, rfl, by decide, tin_10, lw_X10_208, tyX10_ok, nmX10, rfl, by decide +kernel⟩
theorem lm_X10_211 : LMV RX10 211 M_X10_layBells 0 := ⟨lb_X10_layBells, lw_in 1080 (by decide +kernel), lw_in 1082 (by decide +kernel), lw_ip 43 (by decide +kernel)⟩
theorem lm_X10_214 : LMV RX10 214 M_X10_isHeard 0 := ⟨lb_X10_isHeard, lw_in 1084 (by decide +kernel), lw_in 1086 (by decide +kernel), lw_ip 44 (by decide +kernel)⟩
theorem lw_X10_218 : LKw RX10 218 TX10 21 := Or.inl (lw_in 815 (by decide +kernel))
theorem lk_X10_218 : LK RX10 218 10 21 := ⟨_, _, _, rfl, by decide, tin_10, lw_X10_218⟩
theorem lp_X10_218 : LPt RX10 218 10 21 .int := ⟨_, _, _, tyX10, rfl, by decide, tin_10, lw_X10_218, tyX10_ok, nmX10, rfl, by decide +kernel⟩
theorem lw_X10_221 : LKw RX10 221 TX10 22 := Or.inl (lw_in 816 (by decide +kernel))
theorem lk_X10_221 : LK RX10 221 10 22 := ⟨_, _, _, rfl, by decide, tin_10, lw_X10_221⟩
theorem lp_X10_221 : LPt RX10 221 10 22 .int := ⟨_, _, _, tyX10, rfl, by decide, tin_10, lw_X10_221, tyX10_ok, nmX10, rfl, by decide +kernel⟩
theorem lw_X10_224 : LKw RX10 224 TX10 23 := Or.inl (lw_in 817 (by decide +kernel))
theorem lk_X10_224 : LK RX10 224 10 23 := ⟨_, _, _, rfl, by decide, tin_10, lw_X10_224⟩
theorem lp_X10_224 : LPt RX10 224 10 23 .int := ⟨_, _, _, tyX10, rfl, by decide, tin_10, lw_X10_224, tyX10_ok, nmX10, rfl, by decide +kernel⟩
theorem lm_X10_227 : LMV RX10 227 M_X10_layTables 0 := ⟨lb_X10_layTables, lw_in 1068 (by decide +kernel), lw_in 1070 (by decide +kernel), lw_ip 40 (by decide +kernel)⟩
theorem lm_X10_230 : LMV RX10 230 M_X10_lookAt 0 := ⟨lb_X10_lookAt, lw_in 1072 (by decide +kernel), lw_in 1074 (by decide +kernel), lw_ip 41 (by decide +kernel)⟩
theorem lm_X10_233 : LMV RX10 233 M_X10_mayHave 2 := ⟨lb_X10_mayHave, lw_in 1088 (by decide +kernel), lw_in 1090 (by decide +kernel), lw_ip 45 (by decide +kernel)⟩
theorem lm_X10_237 : LMV RX10 237 M_X10_goThrough 1 := ⟨lb_X10_goThrough, lw_in 1064 (by decide +kernel), lw_in 1066 (by decide +kernel), lw_ip 39 (by decide +kernel)⟩
theorem lm_X10_241 : LMV RX10 241 M_X10_bestOfSet 1 := ⟨lb_X10_bestOfSet, lw_in 1096 (by decide +kernel), lw_in 1098 (by decide +kernel), lw_ip 47 (by decide +kernel)⟩
theorem lm_X10_244 : LMS RX10 244 M_X10_ones 1 := ⟨lb_X10_ones, lw_in 1116 (by decide +kernel), lw_in 1117 (by decide +kernel)⟩
theorem lw_X10_247 : LKw RX10 247 TX10 29 := Or.inl (lw_in 823 (by decide +kernel))
theorem lk_X10_247 : LK RX10 247 10 29 := ⟨_, _, _, rfl, by decide, tin_10, lw_X10_247⟩
theorem lp_X10_247 : LPt RX10 247 10 29 .int := ⟨_, _, _, tyX10, rfl, by decide, tin_10, lw_X10_247, tyX10_ok, nmX10, rfl, by decide +kernel⟩
theorem lm_X10_250 : LMV RX10 250 M_X10_reaches 2 := ⟨lb_X10_reaches, lw_in 1135 (by decide +kernel), lw_in 1137 (by decide +kernel), lw_ip 50 (by decide +kernel)⟩
theorem lm_X10_253 : LMV RX10 253 M_X10_turn 1 := ⟨lb_X10_turn, lw_in 1139 (by decide +kernel), lw_in 1141 (by decide +kernel), lw_ip 51 (by decide +kernel)⟩
theorem lm_X10_256 : LMV RX10 256 M_X10_layStrokes 0 := ⟨lb_X10_layStrokes, lw_in 1127 (by decide +kernel), lw_in 1129 (by decide +kernel), lw_ip 48 (by decide +kernel)⟩
theorem lm_X10_259 : LMV RX10 259 M_X10_grow 1 := ⟨lb_X10_grow, lw_in 1131 (by decide +kernel), lw_in 1133 (by decide +kernel), lw_ip 49 (by decide +kernel)⟩
theorem lc_X10_262 : LCL RX10 262 (10) := lw_in 1150 (by decide +kernel)
theorem lm_X10_264 : LMS RX10 264 M_X10_tenTo 1 := ⟨lb_X10_tenTo, lw_in 1147 (by decide +kernel), lw_in 1148 (by decide +kernel)⟩
theorem lm_X10_268 : LMV RX10 268 M_X10_hold 1 := ⟨lb_X10_hold, lw_in 1151 (by decide +kernel), lw_in 1153 (by decide +kernel), lw_ip 52 (by decide +kernel)⟩
theorem lc_X10_271 : LCL RX10 271 (100) := lw_in 1155 (by decide +kernel)
theorem lw_X10_273 : LKw RX10 273 TX10 38 := Or.inl (lw_in 832 (by decide +kernel))
theorem lk_X10_273 : LK RX10 273 10 38 := ⟨_, _, _, rfl, by decide, tin_10, lw_X10_273⟩
theorem lp_X10_273 : LPt RX10 273 10 38 .int := ⟨_, _, _, tyX10, rfl, by decide, tin_10, lw_X10_273, tyX10_ok, nmX10, rfl, by decide +kernel⟩
theorem lc_X10_276 : LCL RX10 276 (2) := lw_in 1168 (by decide +kernel)
theorem lm_X10_278 : LMS RX10 278 M_X10_common 2 := ⟨lb_X10_common, lw_in 1173 (by decide +kernel), lw_in 1174 (by decide +kernel)⟩
theorem lm_X10_281 : LMS RX10 281 M_X10_gain 4 := ⟨lb_X10_gain, lw_in 1184 (by decide +kernel), lw_in 1185 (by decide +kernel)⟩
theorem lw_X10_285 : LKw RX10 285 TX10 41 := Or.inl (lw_in 835 (by decide +kernel))
theorem lk_X10_285 : LK RX10 285 10 41 := ⟨_, _, _, rfl, by decide, tin_10, lw_X10_285⟩
theorem lp_X10_285 : LPt RX10 285 10 41 .long := ⟨_, _, _, tyX10, rfl, by decide, tin_10, lw_X10_285, tyX10_ok, nmX10, rfl, by decide +kernel⟩
theorem lc_X10_289 : LCL RX10 289 (20) := lw_in 1195 (by decide +kernel)
theorem lc_X10_291 : LCL RX10 291 (6364136223846793005) := lw_in 1196 (by decide +kernel)
theorem lc_X10_293 : LCL RX10 293 (1442695040888963407) := lw_in 1197 (by decide +kernel)
theorem lc_X10_295 : LCL RX10 295 (50) := lw_in 1198 (by decide +kernel)
theorem lw_X0_9 : LKw RX0 9 TX0 0 := Or.inl (lw_in 141 (by decide +kernel))
theorem lk_X0_9 : LK RX0 9 0 0 := ⟨_, _, _, rfl, by decide, tin_0, lw_X0_9⟩
theorem lw_X0_15 : LKw RX0 15 TX0 1 := Or.inl (lw_in 142 (by decide +kernel))
theorem lk_X0_15 : LK RX0 15 0 1 := ⟨_, _, _, rfl, by decide, tin_0, lw_X0_15⟩
theorem lw_X0_18 : LKw RX0 18 TX0 2 := Or.inl (lw_in 143 (by decide +kernel))
theorem lk_X0_18 : LK RX0 18 0 2 := ⟨_, _, _, rfl, by decide, tin_0, lw_X0_18⟩
theorem lp_X0_18 : LPt RX0 18 0 2 .int := ⟨_, _, _, tyX0, rfl, by decide, tin_0, lw_X0_18, tyX0_ok, nmX0, rfl, by decide +kernel⟩
theorem lm_X0_22 : LMV RX0 22 M_X0_forgetFirst 0 := ⟨lb_X0_forgetFirst, lw_in 503 (by decide +kernel), lw_in 505 (by decide +kernel), lw_ip 7 (by decide +kernel)⟩
theorem lm_X0_25 : LMV RX0 25 M_X1_tell 2 := ⟨lb_X1_tell, lw_in 540 (by decide +kernel), lw_in 508 (by decide +kernel), lw_in 509 (by decide +kernel)⟩
theorem lw_X1_9 : LKw RX1 9 TX1 1 := Or.inl (lw_in 112 (by decide +kernel))
theorem lk_X1_9 : LK RX1 9 1 1 := ⟨_, _, _, rfl, by decide, tin_1, lw_X1_9⟩
theorem lw_X1_15 : LKw RX1 15 TX1 0 := Or.inl (lw_in 111 (by decide +kernel))
theorem lk_X1_15 : LK RX1 15 1 0 := ⟨_, _, _, rfl, by decide, tin_1, lw_X1_15⟩
theorem lm_X1_19 : LMV RX1 19 M_X1_toldOf 1 := ⟨lb_X1_toldOf, lw_in 425 (by decide +kernel), lw_in 426 (by decide +kernel), lw_in 427 (by decide +kernel)⟩
theorem lm_X1_23 : LMV RX1 23 M_X1_isLet 1 := ⟨lb_X1_isLet, lw_in 519 (by decide +kernel), lw_in 485 (by decide +kernel), lw_in 486 (by decide +kernel)⟩
theorem lm_X1_27 : LMV RX1 27 M_X1_everyoneLet 0 := ⟨lb_X1_everyoneLet, lw_in 515 (by decide +kernel), lw_in 516 (by decide +kernel), lw_in 517 (by decide +kernel)⟩
theorem lm_X1_31 : LMV RX1 31 M_X1_worthOf 1 := ⟨lb_X1_worthOf, lw_in 520 (by decide +kernel), lw_in 521 (by decide +kernel), lw_in 522 (by decide +kernel)⟩
theorem lw_X1_34 : LKw RX1 34 TX8 9 := Or.inr ⟨"BellSeconds", nw_in 69 (by decide +kernel)⟩
theorem lk_X1_34 : LK RX1 34 8 9 := ⟨_, _, _, rfl, by decide, tin_8, lw_X1_34⟩
theorem lm_X1_39 : LMV RX1 39 M_X1_secondOf 1 := ⟨lb_X1_secondOf, lw_in 421 (by decide +kernel), lw_in 422 (by decide +kernel), lw_in 423 (by decide +kernel)⟩
theorem lm_X1_42 : LMV RX1 42 M_X8_ringing 2 := ⟨lb_X8_ringing, lw_in 429 (by decide +kernel), lw_in 430 (by decide +kernel), lw_in 431 (by decide +kernel)⟩
theorem lm_X1_46 : LMV RX1 46 M_X8_clash 4 := ⟨lb_X8_clash, lw_in 467 (by decide +kernel), lw_in 468 (by decide +kernel), lw_in 469 (by decide +kernel)⟩
theorem lm_X1_50 : LMV RX1 50 M_X8_mayBegin 2 := ⟨lb_X8_mayBegin, lw_in 492 (by decide +kernel), lw_in 460 (by decide +kernel), lw_in 461 (by decide +kernel)⟩
theorem lm_X1_54 : LMV RX1 54 M_X1_clashing 2 := ⟨lb_X1_clashing, lw_in 493 (by decide +kernel), lw_in 464 (by decide +kernel), lw_in 465 (by decide +kernel)⟩
theorem lm_X1_57 : LMV RX1 57 M_X1_fits 2 := ⟨lb_X1_fits, lw_in 652 (by decide +kernel), lw_in 489 (by decide +kernel), lw_in 490 (by decide +kernel)⟩
theorem lm_X1_60 : LMV RX1 60 M_X1_tell 2 := ⟨lb_X1_tell, lw_in 653 (by decide +kernel), lw_in 508 (by decide +kernel), lw_in 509 (by decide +kernel)⟩
theorem lw_X2_9 : LKw RX2 9 TX2 1 := Or.inl (lw_in 204 (by decide +kernel))
theorem lk_X2_9 : LK RX2 9 2 1 := ⟨_, _, _, rfl, by decide, tin_2, lw_X2_9⟩
theorem lp_X2_9 : LPt RX2 9 2 1 .int := ⟨_, _, _, tyX2, rfl, by decide, tin_2, lw_X2_9, tyX2_ok, nmX2, rfl, by decide +kernel⟩
theorem lw_X2_15 : LKw RX2 15 TX2 2 := Or.inl (lw_in 206 (by decide +kernel))
theorem lk_X2_15 : LK RX2 15 2 2 := ⟨_, _, _, rfl, by decide, tin_2, lw_X2_15⟩
theorem lp_X2_15 : LPt RX2 15 2 2 .int := ⟨_, _, _, tyX2, rfl, by decide, tin_2, lw_X2_15, tyX2_ok, nmX2, rfl, by decide +kernel⟩
theorem lw_X2_18 : LKw RX2 18 TX2 3 := Or.inl (lw_in 208 (by decide +kernel))
theorem lk_X2_18 : LK RX2 18 2 3 := ⟨_, _, _, rfl, by decide, tin_2, lw_X2_18⟩
theorem lp_X2_18 : LPt RX2 18 2 3 .int := ⟨_, _, _, tyX2, rfl, by decide, tin_2, lw_X2_18, tyX2_ok, nmX2, rfl, by decide +kernel⟩
theorem lw_X2_21 : LKw RX2 21 TX2 4 := Or.inl (lw_in 210 (by decide +kernel))
theorem lk_X2_21 : LK RX2 21 2 4 := ⟨_, _, _, rfl, by decide, tin_2, lw_X2_21⟩
theorem lp_X2_21 : LPt RX2 21 2 4 .int := ⟨_, _, _, tyX2, rfl, by decide, tin_2, lw_X2_21, tyX2_ok, nmX2, rfl, by decide +kernel⟩
theorem lw_X2_24 : LKw RX2 24 TX2 5 := Or.inl (lw_in 212 (by decide +kernel))
theorem lk_X2_24 : LK RX2 24 2 5 := ⟨_, _, _, rfl, by decide, tin_2, lw_X2_24⟩
theorem lp_X2_24 : LPt RX2 24 2 5 .int := ⟨_, _, _, tyX2, rfl, by decide, tin_2, lw_X2_24, tyX2_ok, nmX2, rfl, by decide +kernel⟩
theorem lw_X2_27 : LKw RX2 27 TX2 6 := Or.inl (lw_in 213 (by decide +kernel))
theorem lk_X2_27 : LK RX2 27 2 6 := ⟨_, _, _, rfl, by decide, tin_2, lw_X2_27⟩
theorem lp_X2_27 : LPt RX2 27 2 6 .int := ⟨_, _, _, tyX2, rfl, by decide, tin_2, lw_X2_27, tyX2_ok, nmX2, rfl, by decide +kernel⟩
theorem lw_X2_30 : LKw RX2 30 TX2 7 := Or.inl (lw_in 214 (by decide +kernel))
theorem lk_X2_30 : LK RX2 30 2 7 := ⟨_, _, _, rfl, by decide, tin_2, lw_X2_30⟩
theorem lp_X2_30 : LPt RX2 30 2 7 .int := ⟨_, _, _, tyX2, rfl, by decide, tin_2, lw_X2_30, tyX2_ok, nmX2, rfl, by decide +kernel⟩
theorem lw_X2_33 : LKw RX2 33 TX2 8 := Or.inl (lw_in 215 (by decide +kernel))
theorem lk_X2_33 : LK RX2 33 2 8 := ⟨_, _, _, rfl, by decide, tin_2, lw_X2_33⟩
theorem lp_X2_33 : LPt RX2 33 2 8 .int := ⟨_, _, _, tyX2, rfl, by decide, tin_2, lw_X2_33, tyX2_ok, nmX2, rfl, by decide +kernel⟩
theorem lw_X2_36 : LKw RX2 36 TX2 9 := Or.inl (lw_in 216 (by decide +kernel))
theorem lk_X2_36 : LK RX2 36 2 9 := ⟨_, _, _, rfl, by decide, tin_2, lw_X2_36⟩
theorem lp_X2_36 : LPt RX2 36 2 9 .int := ⟨_, _, _, tyX2, rfl, by decide, tin_2, lw_X2_36, tyX2_ok, nmX2, rfl, by decide +kernel⟩
theorem lw_X2_39 : LKw RX2 39 TX2 10 := Or.inl (lw_in 217 (by decide +kernel))
theorem lk_X2_39 : LK RX2 39 2 10 := ⟨_, _, _, rfl, by decide, tin_2, lw_X2_39⟩
theorem lp_X2_39 : LPt RX2 39 2 10 .int := ⟨_, _, _, tyX2, rfl, by decide, tin_2, lw_X2_39, tyX2_ok, nmX2, rfl, by decide +kernel⟩
theorem lw_X2_42 : LKw RX2 42 TX2 0 := Or.inl (lw_in 203 (by decide +kernel))
theorem lk_X2_42 : LK RX2 42 2 0 := ⟨_, _, _, rfl, by decide, tin_2, lw_X2_42⟩
theorem lw_X2_46 : LKw RX2 46 TX8 0 := Or.inr ⟨"BellSeconds", nw_in 44 (by decide +kernel)⟩
theorem lk_X2_46 : LK RX2 46 8 0 := ⟨_, _, _, rfl, by decide, tin_8, lw_X2_46⟩
theorem lm_X2_51 : LMV RX2 51 M_X3_told 2 := ⟨lb_X3_told, lw_in 682 (by decide +kernel), lw_in 683 (by decide +kernel), lw_in 684 (by decide +kernel)⟩
theorem lm_X2_57 : LMV RX2 57 M_X2_areQuiets 1 := ⟨lb_X2_areQuiets, lw_in 686 (by decide +kernel), lw_in 688 (by decide +kernel), lw_ip 15 (by decide +kernel)⟩
theorem lm_X2_61 : LMV RX2 61 M_X2_tallyBeside 2 := ⟨lb_X2_tallyBeside, lw_in 695 (by decide +kernel), lw_in 697 (by decide +kernel), lw_ip 16 (by decide +kernel)⟩
theorem lm_X2_65 : LMV RX2 65 M_X8_isQuiet 1 := ⟨lb_X8_isQuiet, lw_in 690 (by decide +kernel), lw_in 691 (by decide +kernel), lw_in 692 (by decide +kernel)⟩
theorem lm_X2_68 : LMV RX2 68 M_X8_wants 1 := ⟨lb_X8_wants, lw_in 699 (by decide +kernel), lw_in 477 (by decide +kernel), lw_in 478 (by decide +kernel)⟩
theorem lm_X2_72 : LMV RX2 72 M_X2_tallyBell 2 := ⟨lb_X2_tallyBell, lw_in 700 (by decide +kernel), lw_in 702 (by decide +kernel), lw_ip 17 (by decide +kernel)⟩
theorem lm_X2_75 : LMV RX2 75 M_X2_walk 6 := ⟨lb_X2_walk, lw_in 704 (by decide +kernel), lw_in 706 (by decide +kernel), lw_ip 18 (by decide +kernel)⟩
theorem lm_X2_79 : LMV RX2 79 M_X2_tallyDay 3 := ⟨lb_X2_tallyDay, lw_in 708 (by decide +kernel), lw_in 710 (by decide +kernel), lw_ip 19 (by decide +kernel)⟩
theorem lm_X2_83 : LMV RX2 83 M_X8_isPealOf 2 := ⟨lb_X8_isPealOf, lw_in 712 (by decide +kernel), lw_in 713 (by decide +kernel), lw_in 714 (by decide +kernel)⟩
theorem lm_X2_87 : LMV RX2 87 M_X8_mayBegin 2 := ⟨lb_X8_mayBegin, lw_in 716 (by decide +kernel), lw_in 460 (by decide +kernel), lw_in 461 (by decide +kernel)⟩
theorem lm_X2_90 : LMV RX2 90 M_X8_takes 2 := ⟨lb_X8_takes, lw_in 717 (by decide +kernel), lw_in 472 (by decide +kernel), lw_in 473 (by decide +kernel)⟩
theorem lm_X2_94 : LMV RX2 94 M_X8_ringing 2 := ⟨lb_X8_ringing, lw_in 718 (by decide +kernel), lw_in 430 (by decide +kernel), lw_in 431 (by decide +kernel)⟩
theorem lw_X3_9 : LKw RX3 9 TX3 0 := Or.inl (lw_in 186 (by decide +kernel))
theorem lk_X3_9 : LK RX3 9 3 0 := ⟨_, _, _, rfl, by decide, tin_3, lw_X3_9⟩
theorem lw_X3_15 : LKw RX3 15 TX3 1 := Or.inl (lw_in 187 (by decide +kernel))
theorem lk_X3_15 : LK RX3 15 3 1 := ⟨_, _, _, rfl, by decide, tin_3, lw_X3_15⟩
theorem lw_X3_18 : LKw RX3 18 TX3 2 := Or.inl (lw_in 188 (by decide +kernel))
theorem lk_X3_18 : LK RX3 18 3 2 := ⟨_, _, _, rfl, by decide, tin_3, lw_X3_18⟩
theorem lp_X3_18 : LPt RX3 18 3 2 .int := ⟨_, _, _, tyX3, rfl, by decide, tin_3, lw_X3_18, tyX3_ok, nmX3, rfl, by decide +kernel⟩
theorem lw_X4_9 : LKw RX4 9 TX4 3 := Or.inl (lw_in 164 (by decide +kernel))
theorem lk_X4_9 : LK RX4 9 4 3 := ⟨_, _, _, rfl, by decide, tin_4, lw_X4_9⟩
theorem lw_X4_15 : LKw RX4 15 TX4 4 := Or.inl (lw_in 165 (by decide +kernel))
theorem lk_X4_15 : LK RX4 15 4 4 := ⟨_, _, _, rfl, by decide, tin_4, lw_X4_15⟩
theorem lw_X4_18 : LKw RX4 18 TX4 5 := Or.inl (lw_in 166 (by decide +kernel))
theorem lk_X4_18 : LK RX4 18 4 5 := ⟨_, _, _, rfl, by decide, tin_4, lw_X4_18⟩
theorem lp_X4_18 : LPt RX4 18 4 5 .int := ⟨_, _, _, tyX4, rfl, by decide, tin_4, lw_X4_18, tyX4_ok, nmX4, rfl, by decide +kernel⟩
theorem lw_X4_22 : LKw RX4 22 TX4 0 := Or.inl (lw_in 160 (by decide +kernel))
theorem lk_X4_22 : LK RX4 22 4 0 := ⟨_, _, _, rfl, by decide, tin_4, lw_X4_22⟩
theorem lw_X4_31 : LKw RX4 31 TX4 1 := Or.inl (lw_in 161 (by decide +kernel))
theorem lk_X4_31 : LK RX4 31 4 1 := ⟨_, _, _, rfl, by decide, tin_4, lw_X4_31⟩
theorem lw_X4_35 : LKw RX4 35 TX4 2 := Or.inl (lw_in 162 (by decide +kernel))
theorem lk_X4_35 : LK RX4 35 4 2 := ⟨_, _, _, rfl, by decide, tin_4, lw_X4_35⟩
theorem lm_X4_38 : LMV RX4 38 M_X4_weigh 2 := ⟨lb_X4_weigh, lw_in 553 (by decide +kernel), lw_in 555 (by decide +kernel), lw_ip 8 (by decide +kernel)⟩
theorem lm_X4_42 : LMV RX4 42 M_X4_search 3 := ⟨lb_X4_search, lw_in 558 (by decide +kernel), lw_in 560 (by decide +kernel), lw_ip 9 (by decide +kernel)⟩
theorem lm_X4_46 : LMV RX4 46 M_X1_everyoneLet 0 := ⟨lb_X1_everyoneLet, lw_in 587 (by decide +kernel), lw_in 516 (by decide +kernel), lw_in 517 (by decide +kernel)⟩
theorem lm_X4_50 : LMV RX4 50 M_X1_isLet 1 := ⟨lb_X1_isLet, lw_in 588 (by decide +kernel), lw_in 485 (by decide +kernel), lw_in 486 (by decide +kernel)⟩
theorem lm_X4_54 : LMV RX4 54 M_X1_secondOf 1 := ⟨lb_X1_secondOf, lw_in 589 (by decide +kernel), lw_in 422 (by decide +kernel), lw_in 423 (by decide +kernel)⟩
theorem lm_X4_58 : LMV RX4 58 M_X8_takes 2 := ⟨lb_X8_takes, lw_in 572 (by decide +kernel), lw_in 472 (by decide +kernel), lw_in 473 (by decide +kernel)⟩
theorem lm_X4_64 : LMV RX4 64 M_X8_wants 1 := ⟨lb_X8_wants, lw_in 574 (by decide +kernel), lw_in 477 (by decide +kernel), lw_in 478 (by decide +kernel)⟩
theorem lm_X4_67 : LMV RX4 67 M_X1_ringing 0 := ⟨lb_X1_ringing, lw_in 590 (by decide +kernel), lw_in 418 (by decide +kernel), lw_in 419 (by decide +kernel)⟩
theorem lm_X4_70 : LMV RX4 70 M_X8_hasBidder 1 := ⟨lb_X8_hasBidder, lw_in 557 (by decide +kernel), lw_in 441 (by decide +kernel), lw_in 442 (by decide +kernel)⟩
theorem lw_X4_73 : LKw RX4 73 TX8 9 := Or.inr ⟨"BellSeconds", nw_in 67 (by decide +kernel)⟩
theorem lk_X4_73 : LK RX4 73 8 9 := ⟨_, _, _, rfl, by decide, tin_8, lw_X4_73⟩
theorem lm_X4_76 : LMV RX4 76 M_X4_walk 5 := ⟨lb_X4_walk, lw_in 562 (by decide +kernel), lw_in 564 (by decide +kernel), lw_ip 10 (by decide +kernel)⟩
theorem lm_X4_80 : LMV RX4 80 M_X1_copy 1 := ⟨lb_X1_copy, lw_in 566 (by decide +kernel), lw_in 567 (by decide +kernel), lw_in 568 (by decide +kernel)⟩
theorem lm_X4_84 : LMV RX4 84 M_X1_tell 2 := ⟨lb_X1_tell, lw_in 570 (by decide +kernel), lw_in 508 (by decide +kernel), lw_in 509 (by decide +kernel)⟩
theorem lm_X4_88 : LMV RX4 88 M_X8_mayBegin 2 := ⟨lb_X8_mayBegin, lw_in 571 (by decide +kernel), lw_in 460 (by decide +kernel), lw_in 461 (by decide +kernel)⟩
theorem lm_X4_92 : LMV RX4 92 M_X8_ringing 2 := ⟨lb_X8_ringing, lw_in 573 (by decide +kernel), lw_in 430 (by decide +kernel), lw_in 431 (by decide +kernel)⟩
theorem lw_X5_9 : LKw RX5 9 TX5 1 := Or.inl (lw_in 248 (by decide +kernel))
theorem lk_X5_9 : LK RX5 9 5 1 := ⟨_, _, _, rfl, by decide, tin_5, lw_X5_9⟩
theorem lw_X5_15 : LKw RX5 15 TX5 2 := Or.inl (lw_in 249 (by decide +kernel))
theorem lk_X5_15 : LK RX5 15 5 2 := ⟨_, _, _, rfl, by decide, tin_5, lw_X5_15⟩
theorem lw_X5_18 : LKw RX5 18 TX5 3 := Or.inl (lw_in 250 (by decide +kernel))
theorem lk_X5_18 : LK RX5 18 5 3 := ⟨_, _, _, rfl, by decide, tin_5, lw_X5_18⟩
theorem lw_X5_21 : LKw RX5 21 TX5 4 := Or.inl (lw_in 251 (by decide +kernel))
theorem lk_X5_21 : LK RX5 21 5 4 := ⟨_, _, _, rfl, by decide, tin_5, lw_X5_21⟩
theorem lw_X5_24 : LKw RX5 24 TX5 5 := Or.inl (lw_in 252 (by decide +kernel))
theorem lk_X5_24 : LK RX5 24 5 5 := ⟨_, _, _, rfl, by decide, tin_5, lw_X5_24⟩
theorem lp_X5_24 : LPt RX5 24 5 5 .int := ⟨_, _, _, tyX5, rfl, by decide, tin_5, lw_X5_24, tyX5_ok, nmX5, rfl, by decide +kernel⟩
theorem lw_X5_28 : LKw RX5 28 TX5 6 := Or.inl (lw_in 253 (by decide +kernel))
theorem lk_X5_28 : LK RX5 28 5 6 := ⟨_, _, _, rfl, by decide, tin_5, lw_X5_28⟩
theorem lp_X5_28 : LPt RX5 28 5 6 .int := ⟨_, _, _, tyX5, rfl, by decide, tin_5, lw_X5_28, tyX5_ok, nmX5, rfl, by decide +kernel⟩
theorem lw_X5_31 : LKw RX5 31 TX5 0 := Or.inl (lw_in 247 (by decide +kernel))
theorem lk_X5_31 : LK RX5 31 5 0 := ⟨_, _, _, rfl, by decide, tin_5, lw_X5_31⟩
theorem lm_X5_35 : LMV RX5 35 M_X1_isLet 1 := ⟨lb_X1_isLet, lw_in 620 (by decide +kernel), lw_in 485 (by decide +kernel), lw_in 486 (by decide +kernel)⟩
theorem lm_X5_41 : LMV RX5 41 M_X1_secondOf 1 := ⟨lb_X1_secondOf, lw_in 621 (by decide +kernel), lw_in 422 (by decide +kernel), lw_in 423 (by decide +kernel)⟩
theorem lm_X5_45 : LMV RX5 45 M_X5_addStrokes 2 := ⟨lb_X5_addStrokes, lw_in 622 (by decide +kernel), lw_in 624 (by decide +kernel), lw_ip 11 (by decide +kernel)⟩
theorem lm_X5_49 : LMV RX5 49 M_X5_goesOn 2 := ⟨lb_X5_goesOn, lw_in 627 (by decide +kernel), lw_in 629 (by decide +kernel), lw_ip 12 (by decide +kernel)⟩
theorem lw_X5_53 : LKw RX5 53 TX8 4 := Or.inr ⟨"BellSeconds", nw_in 54 (by decide +kernel)⟩
theorem lk_X5_53 : LK RX5 53 8 4 := ⟨_, _, _, rfl, by decide, tin_8, lw_X5_53⟩
theorem lm_X5_58 : LMN RX5 58 M_X9_at 2 := ⟨lb_X9_at, ⟨"BellSeconds", nw_in 626 (by decide +kernel)⟩, lw_in 338 (by decide +kernel)⟩
theorem lw_X5_62 : LKw RX5 62 TX8 2 := Or.inr ⟨"BellSeconds", nw_in 49 (by decide +kernel)⟩
theorem lk_X5_62 : LK RX5 62 8 2 := ⟨_, _, _, rfl, by decide, tin_8, lw_X5_62⟩
theorem lw_X5_65 : LKw RX5 65 TX8 5 := Or.inr ⟨"BellSeconds", nw_in 57 (by decide +kernel)⟩
theorem lk_X5_65 : LK RX5 65 8 5 := ⟨_, _, _, rfl, by decide, tin_8, lw_X5_65⟩
theorem lw_X5_68 : LKw RX5 68 TX8 6 := Or.inr ⟨"BellSeconds", nw_in 60 (by decide +kernel)⟩
theorem lk_X5_68 : LK RX5 68 8 6 := ⟨_, _, _, rfl, by decide, tin_8, lw_X5_68⟩
theorem lm_X5_71 : LMV RX5 71 M_X5_isInTime 2 := ⟨lb_X5_isInTime, lw_in 631 (by decide +kernel), lw_in 633 (by decide +kernel), lw_ip 13 (by decide +kernel)⟩
theorem lm_X5_74 : LMS RX5 74 M_J9_abs_0f7a4 1 := ⟨lb_J9_abs_0f7a4, lw_in 635 (by decide +kernel), lw_in 636 (by decide +kernel)⟩
theorem lw_X6_7 : LKw RX6 7 TX6 1 := Or.inl (lw_in 128 (by decide +kernel))
theorem lk_X6_7 : LK RX6 7 6 1 := ⟨_, _, _, rfl, by decide, tin_6, lw_X6_7⟩
theorem lp_X6_7 : LPt RX6 7 6 1 .boolean := ⟨_, _, _, tyX6, rfl, by decide, tin_6, lw_X6_7, tyX6_ok, nmX6, rfl, by decide +kernel⟩
theorem lw_X6_18 : LKw RX6 18 TX6 0 := Or.inl (lw_in 126 (by decide +kernel))
theorem lk_X6_18 : LK RX6 18 6 0 := ⟨_, _, _, rfl, by decide, tin_6, lw_X6_18⟩
theorem lm_X6_22 : LMV RX6 22 M_X1_copy 1 := ⟨lb_X1_copy, lw_in 777 (by decide +kernel), lw_in 567 (by decide +kernel), lw_in 568 (by decide +kernel)⟩
theorem lw_X7_9 : LKw RX7 9 TX7 0 := Or.inl (lw_in 27 (by decide +kernel))
theorem lk_X7_9 : LK RX7 9 7 0 := ⟨_, _, _, rfl, by decide, tin_7, lw_X7_9⟩
theorem lw_X7_15 : LKw RX7 15 TX7 1 := Or.inl (lw_in 28 (by decide +kernel))
theorem lk_X7_15 : LK RX7 15 7 1 := ⟨_, _, _, rfl, by decide, tin_7, lw_X7_15⟩
theorem lp_X7_15 : LPt RX7 15 7 1 .int := ⟨_, _, _, tyX7, rfl, by decide, tin_7, lw_X7_15, tyX7_ok, nmX7, rfl, by decide +kernel⟩
theorem lm_X7_19 : LMN RX7 19 M_X9_at 2 := ⟨lb_X9_at, ⟨"BellSeconds", nw_in 337 (by decide +kernel)⟩, lw_in 338 (by decide +kernel)⟩
theorem lm_X7_23 : LMV RX7 23 M_X7_letterAt 1 := ⟨lb_X7_letterAt, lw_in 333 (by decide +kernel), lw_in 334 (by decide +kernel), lw_in 335 (by decide +kernel)⟩
theorem lm_X7_27 : LMS RX7 27 M_X7_mayBeTold 3 := ⟨lb_X7_mayBeTold, lw_in 340 (by decide +kernel), lw_in 341 (by decide +kernel)⟩
theorem lm_X7_31 : LMS RX7 31 M_X7_sizeOf 1 := ⟨lb_X7_sizeOf, lw_in 343 (by decide +kernel), lw_in 344 (by decide +kernel)⟩
theorem lm_X7_34 : LMV RX7 34 M_X7_faultInPart 3 := ⟨lb_X7_faultInPart, lw_in 346 (by decide +kernel), lw_in 348 (by decide +kernel), lw_ip 0 (by decide +kernel)⟩
theorem lm_X7_38 : LMV RX7 38 M_X7_figureAt 1 := ⟨lb_X7_figureAt, lw_in 350 (by decide +kernel), lw_in 351 (by decide +kernel), lw_in 352 (by decide +kernel)⟩
theorem lm_X7_41 : LMS RX7 41 M_X7_least 3 := ⟨lb_X7_least, lw_in 354 (by decide +kernel), lw_in 355 (by decide +kernel)⟩
theorem lm_X7_44 : LMS RX7 44 M_X7_most 3 := ⟨lb_X7_most, lw_in 357 (by decide +kernel), lw_in 358 (by decide +kernel)⟩
theorem lw_X8_9 : LKw RX8 9 TX8 0 := Or.inl (lw_in 43 (by decide +kernel))
theorem lk_X8_9 : LK RX8 9 8 0 := ⟨_, _, _, rfl, by decide, tin_8, lw_X8_9⟩
theorem lp_X8_9 : LPt RX8 9 8 0 .int := ⟨_, _, _, tyX8, rfl, by decide, tin_8, lw_X8_9, tyX8_ok, nmX8, rfl, by decide +kernel⟩
theorem lw_X8_15 : LKw RX8 15 TX8 1 := Or.inl (lw_in 46 (by decide +kernel))
theorem lk_X8_15 : LK RX8 15 8 1 := ⟨_, _, _, rfl, by decide, tin_8, lw_X8_15⟩
theorem lp_X8_15 : LPt RX8 15 8 1 .int := ⟨_, _, _, tyX8, rfl, by decide, tin_8, lw_X8_15, tyX8_ok, nmX8, rfl, by decide +kernel⟩
theorem lw_X8_18 : LKw RX8 18 TX8 2 := Or.inl (lw_in 48 (by decide +kernel))
theorem lk_X8_18 : LK RX8 18 8 2 := ⟨_, _, _, rfl, by decide, tin_8, lw_X8_18⟩
theorem lw_X8_22 : LKw RX8 22 TX8 3 := Or.inl (lw_in 51 (by decide +kernel))
theorem lk_X8_22 : LK RX8 22 8 3 := ⟨_, _, _, rfl, by decide, tin_8, lw_X8_22⟩
theorem lw_X8_25 : LKw RX8 25 TX8 4 := Or.inl (lw_in 53 (by decide +kernel))
theorem lk_X8_25 : LK RX8 25 8 4 := ⟨_, _, _, rfl, by decide, tin_8, lw_X8_25⟩
theorem lw_X8_28 : LKw RX8 28 TX8 5 := Or.inl (lw_in 56 (by decide +kernel))
theorem lk_X8_28 : LK RX8 28 8 5 := ⟨_, _, _, rfl, by decide, tin_8, lw_X8_28⟩
theorem lw_X8_31 : LKw RX8 31 TX8 6 := Or.inl (lw_in 59 (by decide +kernel))
theorem lk_X8_31 : LK RX8 31 8 6 := ⟨_, _, _, rfl, by decide, tin_8, lw_X8_31⟩
theorem lw_X8_34 : LKw RX8 34 TX8 7 := Or.inl (lw_in 62 (by decide +kernel))
theorem lk_X8_34 : LK RX8 34 8 7 := ⟨_, _, _, rfl, by decide, tin_8, lw_X8_34⟩
theorem lw_X8_37 : LKw RX8 37 TX8 8 := Or.inl (lw_in 64 (by decide +kernel))
theorem lk_X8_37 : LK RX8 37 8 8 := ⟨_, _, _, rfl, by decide, tin_8, lw_X8_37⟩
theorem lw_X8_40 : LKw RX8 40 TX8 9 := Or.inl (lw_in 66 (by decide +kernel))
theorem lk_X8_40 : LK RX8 40 8 9 := ⟨_, _, _, rfl, by decide, tin_8, lw_X8_40⟩
theorem lw_X8_43 : LKw RX8 43 TX8 10 := Or.inl (lw_in 70 (by decide +kernel))
theorem lk_X8_43 : LK RX8 43 8 10 := ⟨_, _, _, rfl, by decide, tin_8, lw_X8_43⟩
theorem lw_X8_46 : LKw RX8 46 TX8 11 := Or.inl (lw_in 72 (by decide +kernel))
theorem lk_X8_46 : LK RX8 46 8 11 := ⟨_, _, _, rfl, by decide, tin_8, lw_X8_46⟩
theorem lw_X8_49 : LKw RX8 49 TX8 12 := Or.inl (lw_in 73 (by decide +kernel))
theorem lk_X8_49 : LK RX8 49 8 12 := ⟨_, _, _, rfl, by decide, tin_8, lw_X8_49⟩
theorem lw_X8_53 : LKw RX8 53 TX8 13 := Or.inl (lw_in 74 (by decide +kernel))
theorem lk_X8_53 : LK RX8 53 8 13 := ⟨_, _, _, rfl, by decide, tin_8, lw_X8_53⟩
theorem lm_X8_56 : LMV RX8 56 M_X8_hasBidder 1 := ⟨lb_X8_hasBidder, lw_in 694 (by decide +kernel), lw_in 441 (by decide +kernel), lw_in 442 (by decide +kernel)⟩
theorem lm_X8_60 : LMN RX8 60 M_X9_at 2 := ⟨lb_X9_at, ⟨"BellSeconds", nw_in 390 (by decide +kernel)⟩, lw_in 338 (by decide +kernel)⟩
theorem lm_X8_64 : LMV RX8 64 M_X8_wants 1 := ⟨lb_X8_wants, lw_in 476 (by decide +kernel), lw_in 477 (by decide +kernel), lw_in 478 (by decide +kernel)⟩
theorem lm_X8_68 : LMN RX8 68 M_X9_ofAnyBell 1 := ⟨lb_X9_ofAnyBell, ⟨"BellSeconds", nw_in 735 (by decide +kernel)⟩, lw_in 736 (by decide +kernel)⟩
theorem lm_X8_71 : LMV RX8 71 M_X8_ringing 2 := ⟨lb_X8_ringing, lw_in 475 (by decide +kernel), lw_in 430 (by decide +kernel), lw_in 431 (by decide +kernel)⟩
theorem lm_X8_75 : LMV RX8 75 M_X8_clear 0 := ⟨lb_X8_clear, lw_in 368 (by decide +kernel), lw_in 370 (by decide +kernel), lw_ip 1 (by decide +kernel)⟩
theorem lw_X8_78 : LKw RX8 78 TX7 1 := Or.inr ⟨"BellSeconds", nw_in 29 (by decide +kernel)⟩
theorem lk_X8_78 : LK RX8 78 7 1 := ⟨_, _, _, rfl, by decide, tin_7, lw_X8_78⟩
theorem lm_X8_83 : LMV RX8 83 M_X7_letterAt 1 := ⟨lb_X7_letterAt, lw_in 376 (by decide +kernel), lw_in 334 (by decide +kernel), lw_in 335 (by decide +kernel)⟩
theorem lm_X8_86 : LMV RX8 86 M_X7_figureAt 1 := ⟨lb_X7_figureAt, lw_in 377 (by decide +kernel), lw_in 351 (by decide +kernel), lw_in 352 (by decide +kernel)⟩
theorem lm_X8_89 : LMV RX8 89 M_X8_addBell 2 := ⟨lb_X8_addBell, lw_in 378 (by decide +kernel), lw_in 380 (by decide +kernel), lw_ip 3 (by decide +kernel)⟩
theorem lm_X8_93 : LMV RX8 93 M_X8_addBidder 3 := ⟨lb_X8_addBidder, lw_in 382 (by decide +kernel), lw_in 384 (by decide +kernel), lw_ip 4 (by decide +kernel)⟩
theorem lm_X8_97 : LMS RX8 97 M_X7_sizeOf 1 := ⟨lb_X7_sizeOf, lw_in 395 (by decide +kernel), lw_in 344 (by decide +kernel)⟩
theorem lm_X8_100 : LMV RX8 100 M_X8_layPlace 4 := ⟨lb_X8_layPlace, lw_in 372 (by decide +kernel), lw_in 374 (by decide +kernel), lw_ip 2 (by decide +kernel)⟩
theorem lm_X8_104 : LMV RX8 104 M_X8_layPeal 1 := ⟨lb_X8_layPeal, lw_in 386 (by decide +kernel), lw_in 388 (by decide +kernel), lw_ip 5 (by decide +kernel)⟩
theorem lm_X8_108 : LMN RX8 108 M_X9_stretch 2 := ⟨lb_X9_stretch, ⟨"BellSeconds", nw_in 391 (by decide +kernel)⟩, lw_in 392 (by decide +kernel)⟩
theorem lc_X8_111 : LC RX8 111 (1049601) := lw_in 394 (by decide +kernel)
theorem lm_X8_112 : LMV RX8 112 M_X8_takes 2 := ⟨lb_X8_takes, lw_in 471 (by decide +kernel), lw_in 472 (by decide +kernel), lw_in 473 (by decide +kernel)⟩
theorem lm_L_13 : LMV RL 13 M_X9_write 1 := ⟨lb_X9_write, lw_in 309 (by decide +kernel), lw_in 310 (by decide +kernel), lw_in 311 (by decide +kernel)⟩
theorem lm_L_17 : LMV RL 17 M_X10_write 1 := ⟨lb_X10_write, lw_in 928 (by decide +kernel), lw_in 929 (by decide +kernel), lw_in 930 (by decide +kernel)⟩
theorem lm_L_18 : LMV RL 18 M_X9_wipe 0 := ⟨lb_X9_wipe, lw_in 317 (by decide +kernel), lw_in 318 (by decide +kernel), lw_in 319 (by decide +kernel)⟩
theorem lm_L_22 : LMV RL 22 M_X10_wipe 0 := ⟨lb_X10_wipe, lw_in 936 (by decide +kernel), lw_in 937 (by decide +kernel), lw_in 938 (by decide +kernel)⟩
theorem lm_L_23 : LMV RL 23 M_X9_fault 0 := ⟨lb_X9_fault, lw_in 325 (by decide +kernel), lw_in 326 (by decide +kernel), lw_in 327 (by decide +kernel)⟩
theorem lm_L_26 : LMV RL 26 M_X10_fault 0 := ⟨lb_X10_fault, lw_in 940 (by decide +kernel), lw_in 941 (by decide +kernel), lw_in 942 (by decide +kernel)⟩
theorem lm_L_27 : LMV RL 27 M_X9_tower 0 := ⟨lb_X9_tower, lw_in 360 (by decide +kernel), lw_in 361 (by decide +kernel), lw_in 362 (by decide +kernel)⟩
theorem lm_L_30 : LMV RL 30 M_X10_tower 0 := ⟨lb_X10_tower, lw_in 960 (by decide +kernel), lw_in 961 (by decide +kernel), lw_in 962 (by decide +kernel)⟩
theorem lm_L_31 : LMV RL 31 M_X9_bell 2 := ⟨lb_X9_bell, lw_in 408 (by decide +kernel), lw_in 409 (by decide +kernel), lw_in 410 (by decide +kernel)⟩
theorem lm_L_35 : LMV RL 35 M_X10_bell 2 := ⟨lb_X10_bell, lw_in 964 (by decide +kernel), lw_in 965 (by decide +kernel), lw_in 966 (by decide +kernel)⟩
theorem lm_L_36 : LMV RL 36 M_X9_bidder 2 := ⟨lb_X9_bidder, lw_in 436 (by decide +kernel), lw_in 437 (by decide +kernel), lw_in 438 (by decide +kernel)⟩
theorem lm_L_39 : LMV RL 39 M_X10_bidder 2 := ⟨lb_X10_bidder, lw_in 991 (by decide +kernel), lw_in 992 (by decide +kernel), lw_in 993 (by decide +kernel)⟩
theorem lm_L_40 : LMV RL 40 M_X9_rings 1 := ⟨lb_X9_rings, lw_in 445 (by decide +kernel), lw_in 446 (by decide +kernel), lw_in 447 (by decide +kernel)⟩
theorem lm_L_43 : LMV RL 43 M_X10_rings 1 := ⟨lb_X10_rings, lw_in 1008 (by decide +kernel), lw_in 1009 (by decide +kernel), lw_in 1010 (by decide +kernel)⟩
theorem lm_L_44 : LMV RL 44 M_X9_clashes 2 := ⟨lb_X9_clashes, lw_in 455 (by decide +kernel), lw_in 456 (by decide +kernel), lw_in 457 (by decide +kernel)⟩
theorem lm_L_47 : LMV RL 47 M_X10_clashes 2 := ⟨lb_X10_clashes, lw_in 1016 (by decide +kernel), lw_in 1017 (by decide +kernel), lw_in 1018 (by decide +kernel)⟩
theorem lm_L_48 : LMV RL 48 M_X9_let 2 := ⟨lb_X9_let, lw_in 480 (by decide +kernel), lw_in 481 (by decide +kernel), lw_in 482 (by decide +kernel)⟩
theorem lm_L_51 : LMV RL 51 M_X10_let 2 := ⟨lb_X10_let, lw_in 1028 (by decide +kernel), lw_in 1029 (by decide +kernel), lw_in 1030 (by decide +kernel)⟩
theorem lm_L_52 : LMV RL 52 M_X9_revoke 1 := ⟨lb_X9_revoke, lw_in 524 (by decide +kernel), lw_in 525 (by decide +kernel), lw_in 526 (by decide +kernel)⟩
theorem lm_L_55 : LMV RL 55 M_X10_revoke 1 := ⟨lb_X10_revoke, lw_in 1048 (by decide +kernel), lw_in 1049 (by decide +kernel), lw_in 1050 (by decide +kernel)⟩
theorem lm_L_56 : LMV RL 56 M_X9_move 2 := ⟨lb_X9_move, lw_in 528 (by decide +kernel), lw_in 529 (by decide +kernel), lw_in 530 (by decide +kernel)⟩
theorem lm_L_59 : LMV RL 59 M_X10_move 2 := ⟨lb_X10_move, lw_in 1052 (by decide +kernel), lw_in 1053 (by decide +kernel), lw_in 1054 (by decide +kernel)⟩
theorem lm_L_60 : LMV RL 60 M_X9_undo 0 := ⟨lb_X9_undo, lw_in 532 (by decide +kernel), lw_in 533 (by decide +kernel), lw_in 534 (by decide +kernel)⟩
theorem lm_L_63 : LMV RL 63 M_X10_undo 0 := ⟨lb_X10_undo, lw_in 1056 (by decide +kernel), lw_in 1057 (by decide +kernel), lw_in 1058 (by decide +kernel)⟩
theorem lm_L_64 : LMV RL 64 M_X9_best 1 := ⟨lb_X9_best, lw_in 541 (by decide +kernel), lw_in 542 (by decide +kernel), lw_in 543 (by decide +kernel)⟩
theorem lm_L_67 : LMV RL 67 M_X10_best 1 := ⟨lb_X10_best, lw_in 1060 (by decide +kernel), lw_in 1061 (by decide +kernel), lw_in 1062 (by decide +kernel)⟩
theorem lm_L_68 : LMV RL 68 M_X9_bestOf 1 := ⟨lb_X9_bestOf, lw_in 575 (by decide +kernel), lw_in 576 (by decide +kernel), lw_in 577 (by decide +kernel)⟩
theorem lm_L_71 : LMV RL 71 M_X10_bestOf 1 := ⟨lb_X10_bestOf, lw_in 1100 (by decide +kernel), lw_in 1101 (by decide +kernel), lw_in 1102 (by decide +kernel)⟩
theorem lm_L_72 : LMV RL 72 M_X9_beside 0 := ⟨lb_X9_beside, lw_in 579 (by decide +kernel), lw_in 580 (by decide +kernel), lw_in 581 (by decide +kernel)⟩
theorem lm_L_75 : LMV RL 75 M_X10_beside 0 := ⟨lb_X10_beside, lw_in 1104 (by decide +kernel), lw_in 1105 (by decide +kernel), lw_in 1106 (by decide +kernel)⟩
theorem lm_L_76 : LMV RL 76 M_X9_price 1 := ⟨lb_X9_price, lw_in 591 (by decide +kernel), lw_in 592 (by decide +kernel), lw_in 593 (by decide +kernel)⟩
theorem lm_L_79 : LMV RL 79 M_X10_price 1 := ⟨lb_X10_price, lw_in 1108 (by decide +kernel), lw_in 1109 (by decide +kernel), lw_in 1110 (by decide +kernel)⟩
theorem lm_L_80 : LMV RL 80 M_X9_many 0 := ⟨lb_X9_many, lw_in 595 (by decide +kernel), lw_in 596 (by decide +kernel), lw_in 597 (by decide +kernel)⟩
theorem lm_L_83 : LMV RL 83 M_X10_many 0 := ⟨lb_X10_many, lw_in 1112 (by decide +kernel), lw_in 1113 (by decide +kernel), lw_in 1114 (by decide +kernel)⟩
theorem lm_L_84 : LMV RL 84 M_X9_room 2 := ⟨lb_X9_room, lw_in 603 (by decide +kernel), lw_in 604 (by decide +kernel), lw_in 605 (by decide +kernel)⟩
theorem lm_L_87 : LMV RL 87 M_X10_room 2 := ⟨lb_X10_room, lw_in 1119 (by decide +kernel), lw_in 1120 (by decide +kernel), lw_in 1121 (by decide +kernel)⟩
theorem lm_L_88 : LMV RL 88 M_X9_hands 0 := ⟨lb_X9_hands, lw_in 612 (by decide +kernel), lw_in 613 (by decide +kernel), lw_in 614 (by decide +kernel)⟩
theorem lm_L_91 : LMV RL 91 M_X10_hands 0 := ⟨lb_X10_hands, lw_in 1123 (by decide +kernel), lw_in 1124 (by decide +kernel), lw_in 1125 (by decide +kernel)⟩
theorem lc_L_92 : LCL RL 92 (4294967295) := lw_in 1211 (by decide +kernel)
theorem lm_L_94 : LMV RL 94 M_X9_judge 2 := ⟨lb_X9_judge, lw_in 638 (by decide +kernel), lw_in 639 (by decide +kernel), lw_in 640 (by decide +kernel)⟩
theorem lm_L_98 : LMV RL 98 M_X10_judge 2 := ⟨lb_X10_judge, lw_in 1143 (by decide +kernel), lw_in 1144 (by decide +kernel), lw_in 1145 (by decide +kernel)⟩
theorem lm_L_99 : LMV RL 99 M_X9_hear 2 := ⟨lb_X9_hear, lw_in 654 (by decide +kernel), lw_in 655 (by decide +kernel), lw_in 656 (by decide +kernel)⟩
theorem lm_L_102 : LMV RL 102 M_X10_hear 2 := ⟨lb_X10_hear, lw_in 1156 (by decide +kernel), lw_in 1157 (by decide +kernel), lw_in 1158 (by decide +kernel)⟩
theorem lm_L_103 : LMV RL 103 M_X9_unhear 0 := ⟨lb_X9_unhear, lw_in 666 (by decide +kernel), lw_in 667 (by decide +kernel), lw_in 668 (by decide +kernel)⟩
theorem lm_L_106 : LMV RL 106 M_X10_unhear 0 := ⟨lb_X10_unhear, lw_in 1160 (by decide +kernel), lw_in 1161 (by decide +kernel), lw_in 1162 (by decide +kernel)⟩
theorem lm_L_107 : LMV RL 107 M_X9_fit 1 := ⟨lb_X9_fit, lw_in 674 (by decide +kernel), lw_in 675 (by decide +kernel), lw_in 676 (by decide +kernel)⟩
theorem lm_L_110 : LMV RL 110 M_X10_fit 1 := ⟨lb_X10_fit, lw_in 1164 (by decide +kernel), lw_in 1165 (by decide +kernel), lw_in 1166 (by decide +kernel)⟩
theorem lm_L_111 : LMV RL 111 M_X9_likely 2 := ⟨lb_X9_likely, lw_in 719 (by decide +kernel), lw_in 720 (by decide +kernel), lw_in 721 (by decide +kernel)⟩
theorem lm_L_115 : LMV RL 115 M_X10_likely 2 := ⟨lb_X10_likely, lw_in 1169 (by decide +kernel), lw_in 1170 (by decide +kernel), lw_in 1171 (by decide +kernel)⟩
theorem lm_L_116 : LMV RL 116 M_X9_unwanted 0 := ⟨lb_X9_unwanted, lw_in 727 (by decide +kernel), lw_in 728 (by decide +kernel), lw_in 729 (by decide +kernel)⟩
theorem lm_L_119 : LMV RL 119 M_X10_unwanted 0 := ⟨lb_X10_unwanted, lw_in 1176 (by decide +kernel), lw_in 1177 (by decide +kernel), lw_in 1178 (by decide +kernel)⟩
theorem lm_L_120 : LMV RL 120 M_X9_sealed 3 := ⟨lb_X9_sealed, lw_in 738 (by decide +kernel), lw_in 739 (by decide +kernel), lw_in 740 (by decide +kernel)⟩
theorem lm_L_124 : LMV RL 124 M_X10_sealed 3 := ⟨lb_X10_sealed, lw_in 1180 (by decide +kernel), lw_in 1181 (by decide +kernel), lw_in 1182 (by decide +kernel)⟩
theorem lm_L_125 : LMV RL 125 M_X9_seed 1 := ⟨lb_X9_seed, lw_in 754 (by decide +kernel), lw_in 755 (by decide +kernel), lw_in 756 (by decide +kernel)⟩
theorem lm_L_129 : LMV RL 129 M_X10_seed 1 := ⟨lb_X10_seed, lw_in 1187 (by decide +kernel), lw_in 1188 (by decide +kernel), lw_in 1189 (by decide +kernel)⟩
theorem lm_L_130 : LMV RL 130 M_X9_day 1 := ⟨lb_X9_day, lw_in 758 (by decide +kernel), lw_in 759 (by decide +kernel), lw_in 760 (by decide +kernel)⟩
theorem lm_L_133 : LMV RL 133 M_X10_day 1 := ⟨lb_X10_day, lw_in 1191 (by decide +kernel), lw_in 1192 (by decide +kernel), lw_in 1193 (by decide +kernel)⟩
theorem lm_L_134 : LMV RL 134 M_X9_keep 1 := ⟨lb_X9_keep, lw_in 765 (by decide +kernel), lw_in 766 (by decide +kernel), lw_in 767 (by decide +kernel)⟩
theorem lm_L_137 : LMV RL 137 M_X10_keep 1 := ⟨lb_X10_keep, lw_in 1199 (by decide +kernel), lw_in 1200 (by decide +kernel), lw_in 1201 (by decide +kernel)⟩
theorem lm_L_138 : LMV RL 138 M_X9_again 1 := ⟨lb_X9_again, lw_in 778 (by decide +kernel), lw_in 779 (by decide +kernel), lw_in 780 (by decide +kernel)⟩
theorem lm_L_141 : LMV RL 141 M_X10_again 1 := ⟨lb_X10_again, lw_in 1203 (by decide +kernel), lw_in 1204 (by decide +kernel), lw_in 1205 (by decide +kernel)⟩
theorem lm_L_142 : LMV RL 142 M_X9_count 1 := ⟨lb_X9_count, lw_in 782 (by decide +kernel), lw_in 783 (by decide +kernel), lw_in 784 (by decide +kernel)⟩
theorem lm_L_145 : LMV RL 145 M_X10_count 1 := ⟨lb_X10_count, lw_in 1207 (by decide +kernel), lw_in 1208 (by decide +kernel), lw_in 1209 (by decide +kernel)⟩
end
section
/-! THE QUIET MACHINE: a memory of ints and longs over the fixed cells, and a judgement that walks a method over it -/
abbrev Mm : Type := (Nat → Nat → Int32) × (Nat → Nat → Int64)
def sI (σ : Mm) (k j : Nat) (v : Int32) : Mm := (fun a b => if a = k ∧ b = j then v else σ.1 a b, σ.2)
def sJ (σ : Mm) (k j : Nat) (v : Int64) : Mm := (σ.1, fun a b => if a = k ∧ b = j then v else σ.2 a b)
abbrev Gg : Type := va_G × (Nat → Nat) × ClassId × ClassId × ClassId
def cv (ad : Nat → Nat) (v : Value) : Value := match v with
  | .ref a => .ref (ad a)
  | x => x
theorem cv_cat (ad : Nat → Nat) (v : Value) : (cv ad v).category = v.category := by cases v <;> rfl
def cFs (G : Gg) (f : Nat → Int32) (g : Nat → Int64) (k : Nat) : List Value := (fk (cTag k)).mapIdx fun j t => if t = 0 then .int (f j) else if t = 1 then .long (g j) else .ref (G.2.1 (cRef k j))
def cEl (G : Gg) (f : Nat → Int32) (g : Nat → Int64) (k : Nat) : va_E := if cTag k = 20 then .inl (G.2.2.1, cLen k, .inl f) else if cTag k = 21 then .inl (G.2.2.2.1, cLen k, .inr (.inl g)) else if cTag k = 22 then .inl (G.2.2.2.2, cLen k, .inl f) else .inr (cTag k, cFs G f g k)
def cCell (G : Gg) (σ : Mm) (k : Nat) : Nat × va_E := (G.2.1 k, cEl G (σ.1 k) (σ.2 k) k)
def Wd (G : Gg) (σ : Mm) : va_W := (List.range KK).map (cCell G σ)
theorem Wd_len (G : Gg) (σ : Mm) : (Wd G σ).length = KK := by simp [Wd]
theorem Wd_at {G : Gg} {σ : Mm} {k : Nat} (h : k < KK) : (Wd G σ)[k]? = some (cCell G σ k) := by
  rw [Wd, List.getElem?_map, List.getElem?_range h]; rfl
theorem Wd_of {G : Gg} {σ : Mm} {k : Nat} {q : Nat × va_E} (h : (Wd G σ)[k]? = some q) : k < KK ∧ q = cCell G σ k := by
  have hk : k < KK := by have := (List.getElem?_eq_some_iff.mp h).1; rw [Wd_len] at this; exact this
  rw [Wd_at hk] at h
  exact ⟨hk, (Option.some.inj h).symm⟩
def GOK (G : Gg) : Prop := ∀ i j, i < KK → j < KK → G.2.1 i = G.2.1 j → i = j
def Ab (G : Gg) : Nat → Prop := fun q => ∃ k, k < KK ∧ q = G.2.1 k
theorem Wd_D {G : Gg} {σ : Mm} (hG : GOK G) : va_D (Ab G) (Wd G σ) := by
  refine ⟨fun i j p q hi hj hpq => ?_, fun k q hk => ?_⟩
  · obtain ⟨a1, rfl⟩ := Wd_of hi
    obtain ⟨a2, rfl⟩ := Wd_of hj
    exact hG i j a1 a2 hpq
  · obtain ⟨a1, rfl⟩ := Wd_of hk
    exact ⟨k, a1, rfl⟩
theorem Wd_put {G : Gg} {σ τ : Mm} {k : Nat} {e : va_E} (hk : k < KK) (ho : ∀ i, i ≠ k → τ.1 i = σ.1 i ∧ τ.2 i = σ.2 i) (he : cEl G (τ.1 k) (τ.2 k) k = e) : (Wd G σ).set k (G.2.1 k, e) = Wd G τ := by
  refine List.ext_getElem? (fun i => ?_)
  by_cases hi : i = k
  · subst hi
    rw [List.getElem?_set_self (by rw [Wd_len]; exact hk), Wd_at hk, cCell, he]
  · rw [List.getElem?_set_ne (Ne.symm hi)]
    by_cases hl : i < KK
    · rw [Wd_at hl, Wd_at hl, cCell, cCell, (ho i hi).1, (ho i hi).2]
    · rw [List.getElem?_eq_none (by rw [Wd_len]; omega), List.getElem?_eq_none (by rw [Wd_len]; omega)]
theorem sI_ne {σ : Mm} {k j i : Nat} {v : Int32} (h : i ≠ k) : (sI σ k j v).1 i = σ.1 i ∧ (sI σ k j v).2 i = σ.2 i := ⟨by funext b; simp [sI, h], rfl⟩
theorem sJ_ne {σ : Mm} {k j i : Nat} {v : Int64} (h : i ≠ k) : (sJ σ k j v).1 i = σ.1 i ∧ (sJ σ k j v).2 i = σ.2 i := ⟨rfl, by funext b; simp [sJ, h]⟩
theorem sI_at {σ : Mm} {k j : Nat} {v : Int32} : (sI σ k j v).1 k = upd (σ.1 k) j v := by funext b; simp [sI, upd]
theorem sJ_at {σ : Mm} {k j : Nat} {v : Int64} : (sJ σ k j v).2 k = vp_updL (σ.2 k) j v := by funext b; simp [sJ, vp_updL]
theorem cEl_I {G : Gg} {f : Nat → Int32} {g : Nat → Int64} {k : Nat} (h : cTag k = 20) : cEl G f g k = .inl (G.2.2.1, cLen k, .inl f) := by rw [cEl, if_pos h]
theorem cEl_J {G : Gg} {f : Nat → Int32} {g : Nat → Int64} {k : Nat} (h : cTag k = 21) : cEl G f g k = .inl (G.2.2.2.1, cLen k, .inr (.inl g)) := by rw [cEl, if_neg (by omega), if_pos h]
theorem cEl_Z {G : Gg} {f : Nat → Int32} {g : Nat → Int64} {k : Nat} (h : cTag k = 22) : cEl G f g k = .inl (G.2.2.2.2, cLen k, .inl f) := by rw [cEl, if_neg (by omega), if_neg (by omega), if_pos h]
theorem cEl_O {G : Gg} {f : Nat → Int32} {g : Nat → Int64} {k ci : Nat} (h : cTag k = ci) (hc : ci < 20) : cEl G f g k = .inr (ci, cFs G f g k) := by rw [cEl, if_neg (by omega), if_neg (by omega), if_neg (by omega), h]
theorem cFs_at {G : Gg} {f : Nat → Int32} {g : Nat → Int64} {k ci j t : Nat} (h : cTag k = ci) (hj : (fk ci)[j]? = some t) : (cFs G f g k)[j]? = some (if t = 0 then .int (f j) else if t = 1 then .long (g j) else .ref (G.2.1 (cRef k j))) := by
  rw [cFs, h, List.getElem?_mapIdx, hj]; rfl
theorem cFs_len {G : Gg} {f : Nat → Int32} {g : Nat → Int64} {k ci : Nat} (h : cTag k = ci) : (cFs G f g k).length = (fk ci).length := by rw [cFs, h, List.length_mapIdx]
theorem cFs_setI {G : Gg} {f : Nat → Int32} {g : Nat → Int64} {k ci j : Nat} {v : Int32} (h : cTag k = ci) (hj : (fk ci)[j]? = some 0) : (cFs G f g k).set j (.int v) = cFs G (upd f j v) g k := by
  have hl : j < (fk ci).length := (List.getElem?_eq_some_iff.mp hj).1
  refine List.ext_getElem? (fun i => ?_)
  by_cases hi : i = j
  · subst hi
    rw [List.getElem?_set_self (by rw [cFs_len h]; exact hl), cFs_at h hj]
    simp [upd]
  · rw [List.getElem?_set_ne (Ne.symm hi), cFs, cFs, List.getElem?_mapIdx, List.getElem?_mapIdx]
    cases (fk (cTag k))[i]? with
    | none => rfl
    | some t => simp [upd, hi]
theorem cFs_setJ {G : Gg} {f : Nat → Int32} {g : Nat → Int64} {k ci j : Nat} {v : Int64} (h : cTag k = ci) (hj : (fk ci)[j]? = some 1) : (cFs G f g k).set j (.long v) = cFs G f (vp_updL g j v) k := by
  have hl : j < (fk ci).length := (List.getElem?_eq_some_iff.mp hj).1
  refine List.ext_getElem? (fun i => ?_)
  by_cases hi : i = j
  · subst hi
    rw [List.getElem?_set_self (by rw [cFs_len h]; exact hl), cFs_at h hj]
    simp [vp_updL]
  · rw [List.getElem?_set_ne (Ne.symm hi), cFs, cFs, List.getElem?_mapIdx, List.getElem?_mapIdx]
    cases (fk (cTag k))[i]? with
    | none => rfl
    | some t => simp [vp_updL, hi]
def cTys (G : Gg) : List (ClassId × FieldType) := [(G.2.2.1, .int), (G.2.2.2.1, .long), (G.2.2.2.2, .boolean)]
def mWs (M : Mth) : List Cond := .code M.1 M.2.1 M.2.2.1 M.2.2.2 :: lwt
def rmD (d : Nat) : Room := { frames := d, cells := 0, slots := 0, locals := 64 * d }
def NW (U : State) : Prop := ∀ w ∈ nwt, va_Nw w U
theorem NW.warm {s U : State} (hW : s.WarmedH U.vm) (h : NW s) : NW U := by
  intro w hw
  have h1 := h w hw
  have h2 := (List.mem_filter.mp hw).2
  cases w <;> first | (simp [isNest] at h2; done) | exact va_Nw.warmF hW h1 | exact va_Nw.warmM hW h1
theorem NW.same {u U : State} (hv : u.vm = U.vm) (h : NW u) : NW U := by
  intro w hw
  have h1 := h w hw
  have h2 := (List.mem_filter.mp hw).2
  cases w <;> first | (simp [isNest] at h2; done) | exact va_Nw.same rfl hv h1
def Pq (G : Gg) (as : List Value) (σ : Mm) : Array Value → State → Prop := fun v U => v = (as.map (cv G.2.1)).toArray ∧ GOK G ∧ va_P G.1 vwCl (Wd G σ) U.heap ∧ va_K G.1 vwCl (cTys G) U ∧ NW U
def Qq (G : Gg) (r : Option Value) (τ : Mm) : Array Value → State → Outcome → State → Prop := fun _ st oc t => oc = .returned (r.map (cv G.2.1)) ∧ va_P G.1 vwCl (Wd G τ) t.heap ∧ va_F (Ab G) st t
/-- the method M, called with these values in this memory, returns r and leaves the memory τ -/
def MR (l : Launch) (G : Gg) (d : Nat) (M : Mth) (as : List Value) (σ : Mm) (r : Option Value) (τ : Mm) : Prop := Met l M.1 (mWs M) (rmD d) (Pq G as σ) (Qq G r τ) 0 0 (Ab G)
def LL (G : Gg) (L : List (Nat × Value)) : List (Nat × Value) := L.map fun q => (q.1, cv G.2.1 q.2)
def Cx (G : Gg) (M : Mth) (p : Program) (s : State) (m : MethodId) (args : Array Value) (meth : Method) (c : Code) : Prop :=
  p.tables.exec = Jvm.exec ∧ c.code = M.2.1 ∧ c.maxLocals = M.2.2.1 ∧ s.vm.findClass M.1.cls = some m.cls ∧ (∀ w ∈ lwt, w.before args s = true) ∧ meth.locks = false ∧ meth.sig.returnType = M.2.2.2 ∧ va_K G.1 vwCl (cTys G) s ∧ GOK G ∧ NW s
/-- from this place of the method M, with these locals, this stack and this memory, it returns r and leaves τ -/
def AW (l : Launch) (G : Gg) (d : Nat) (M : Mth) (r : Option Value) (τ : Mm) (pc : Nat) (L : List (Nat × Value)) (st : List Value) (σ : Mm) : Prop :=
  ∀ (p : Program) (e : Env) (s : State) (m : MethodId) (args : Array Value) (below : List Frame) (meth : Method) (c : Code) (H : Heap) (locs : List Loc) (ls : Array Slot),
    Cx G M p s m args meth c → va_P G.1 vwCl (Wd G σ) H → va_S (Ab G) s.heap H locs → lv_has ls M.2.2.1 (LL G L) →
    W p l e (rmD d) s m args below meth c H locs 0 0 (MQ below (Qq G r τ) args s 0 0 (Ab G)) (F0 m pc ls (st.map (cv G.2.1)))
theorem lvm {L : List (Nat × Value)} (n : Nat) {q : Nat × Value} (h : L[n]? = some q) : q ∈ L := List.mem_of_getElem? h
theorem LL_mem {G : Gg} {L : List (Nat × Value)} {ls : Array Slot} {n i : Nat} {v : Value} (hl : lv_has ls n (LL G L)) (h : (i, v) ∈ L) : ls[i]? = some (.val (cv G.2.1 v)) :=
  hl.2.2 (i, cv G.2.1 v) (List.mem_map.mpr ⟨(i, v), h, rfl⟩)
def stF (L : List (Nat × Value)) (i : Nat) : List (Nat × Value) := L.filter (fun q => !(q.1 == i) && !(q.1 + 1 == i && q.2.category == 2))
def stG (L : List (Nat × Value)) (i : Nat) : List (Nat × Value) := L.filter (fun q => !(q.1 == i) && (!(q.1 == i + 1) && !(q.1 + 1 == i && q.2.category == 2)))
theorem LL_stF (G : Gg) (L : List (Nat × Value)) (i : Nat) : (LL G L).filter (fun q => !(q.1 == i) && !(q.1 + 1 == i && q.2.category == 2)) = LL G (stF L i) := by
  unfold LL stF
  rw [List.filter_map]
  congr 1
  refine List.filter_congr (fun q _ => ?_)
  simp only [Function.comp, cv_cat]
theorem LL_stG (G : Gg) (L : List (Nat × Value)) (i : Nat) : (LL G L).filter (fun q => !(q.1 == i) && (!(q.1 == i + 1) && !(q.1 + 1 == i && q.2.category == 2))) = LL G (stG L i) := by
  unfold LL stG
  rw [List.filter_map]
  congr 1
  refine List.filter_congr (fun q _ => ?_)
  simp only [Function.comp, cv_cat]
theorem LL_args (G : Gg) : ∀ (vs : List Value) (i : Nat), lv_args i (vs.map (cv G.2.1)) = LL G (lv_args i vs)
  | [], _ => rfl
  | v :: vs, i => by
    show (i, cv G.2.1 v) :: lv_args (if (cv G.2.1 v).category = 2 then i + 2 else i + 1) (vs.map (cv G.2.1)) = (i, cv G.2.1 v) :: LL G (lv_args (if v.category = 2 then i + 2 else i + 1) vs)
    rw [cv_cat, LL_args G vs]
theorem lg_len (G : Gg) : ∀ vs : List Value, (lg_sl (vs.map (cv G.2.1))).length = (lg_sl vs).length
  | [] => rfl
  | v :: vs => by
    have ih := lg_len G vs
    have e1 : lg_sl ((v :: vs).map (cv G.2.1)) = (if (cv G.2.1 v).category = 2 then [.val (cv G.2.1 v), .second] else [.val (cv G.2.1 v)]) ++ lg_sl (vs.map (cv G.2.1)) := rfl
    have e2 : lg_sl (v :: vs) = (if v.category = 2 then [.val v, .second] else [.val v]) ++ lg_sl vs := rfl
    rw [e1, e2, List.length_append, List.length_append, ih, cv_cat]
    split <;> rfl
theorem MR.of {l : Launch} {G : Gg} {d : Nat} {M : Mth} {as : List Value} {σ τ : Mm} {r : Option Value} (hy : plainName M.1.cls = true) (hn : (lg_sl as).length ≤ M.2.2.1) (h : AW l G d M r τ 0 (lv_args 0 as) [] σ) : MR l G d M as σ r τ := by
  refine Met.ofW (cc := M.2.1) (maxL := M.2.2.1) (ret := M.2.2.2) hy rfl ?_
  intro p e s m args below meth c s₁ B hml hv
  obtain ⟨rfl, hG, hP, hK, hN⟩ := hv
  have hts := atoms_spec (ws := mWs M) B.pre
  have hl := lv_entry (as.map (cv G.2.1)) (n := M.2.2.1) (by rw [lg_len]; exact hn)
  rw [lg_entry_eq]
  rw [LL_args] at hl
  exact h p e s m _ below meth c s.heap [] _ ⟨B.exec, B.bytes, hml, findClass_of_methodNamed B.named, fun w hw => hts w (List.mem_cons_of_mem _ hw), B.notSynchronized, B.returns, hK, hG, hN⟩ hP va_S.rf hl
theorem Pq_blind (G : Gg) (as : List Value) (σ : Mm) : FrameBlind (Pq G as σ) := fun a U g mk q => ⟨q.1, q.2.1, q.2.2.1, va_K.moved (u := U) (U := U.calling g mk a) (Vm.Alike.refl U.vm) q.2.2.2.1, NW.same (u := U) (U := U.calling g mk a) rfl q.2.2.2.2⟩
theorem mWs_good {M : Mth} {n : Nat} (h : LMb M n) : GoodIn lwt (mWs M) := by
  intro w hw
  have hm : w ∈ lwt := by
    rcases List.mem_cons.mp hw with rfl | q
    · exact h.1
    · exact q
  exact ⟨hm, good_of_word (lw_good w hm)⟩
end
section
/-! the rules of the judgement, an instruction each -/
def jshl (x y : Int32) : Int32 := x <<< (y &&& 31)
def jshr (x y : Int32) : Int32 := x >>> (y &&& 31)
def jushr (x y : Int32) : Int32 := (x.toUInt32 >>> (y.toUInt32 &&& Int32.toUInt32 31)).toInt32
def jrem (x y : Int32) : Int32 := x - x / y * y
def jlshl (x : Int64) (y : Int32) : Int64 := x <<< (y.toInt64 &&& 63)
def jlushr (x : Int64) (y : Int32) : Int64 := (x.toUInt64 >>> (y.toInt64.toUInt64 &&& Int64.toUInt64 63)).toInt64
def jlrem (x y : Int64) : Int64 := x - x / y * y
def inB (i : Int32) (n : Nat) : Bool := decide (¬ (i < 0 ∨ n ≤ i.toNatClampNeg))
theorem inB_in {i : Int32} {n : Nat} (h : inB i n = true) : vp_in i n := of_decide_eq_true (p := ¬ (i < 0 ∨ n ≤ i.toNatClampNeg)) h
def gd {α : Type} (b : Bool) (x : Option α) : Option α := if b = true then x else none
theorem gd_s {α : Type} {b : Bool} {x : Option α} {y : α} (h : gd b x = some y) : b = true ∧ x = some y := by
  unfold gd at h
  split at h
  · exact ⟨by assumption, h⟩
  · cases h
theorem bind_s {α β : Type} {a : Option α} {f : α → Option β} {y : β} (h : a.bind f = some y) : ∃ x, a = some x ∧ f x = some y := by
  cases a with
  | none => cases h
  | some x => exact ⟨x, rfl, h⟩
abbrev FU : Nat := 1000000000
section AWR
variable {l : Launch} {G : Gg} {d : Nat} {M : Mth} {r : Option Value} {τ : Mm} {pc : Nat} {L : List (Nat × Value)} {st : List Value} {σ : Mm}
theorem AW.sub (ks : List Nat) {L' : List (Nat × Value)} (h : ks.filterMap (fun k => L[k]?) = L') (k : AW l G d M r τ pc L' st σ) : AW l G d M r τ pc L st σ := by
  intro p e s m args below meth c H locs ls hC hP hS hl
  refine k p e s m args below meth c H locs ls hC hP hS ⟨hl.1, hl.2.1, fun q hq => ?_⟩
  obtain ⟨q0, hq0, rfl⟩ := List.mem_map.mp hq
  rw [← h] at hq0
  obtain ⟨i, -, hi⟩ := List.mem_filterMap.mp hq0
  exact hl.2.2 _ (List.mem_map.mpr ⟨q0, List.mem_of_getElem? hi, rfl⟩)
theorem AW.iadd {x y : Int32} (hd : decode M.2.1 pc = .ok (.iadd, 1)) {q : Nat} (hq : pc + 1 = q) (k : AW l G d M r τ q L (.int (x + y) :: st) σ) : AW l G d M r τ pc L (.int y :: .int x :: st) σ := by
  intro p e s m args below meth c H locs ls hC hP hS hl
  subst hq
  exact lv_iadd hC.1 hC.2.1 hd (k p e s m args below meth c H locs ls hC hP hS hl)
theorem AW.isub {x y : Int32} (hd : decode M.2.1 pc = .ok (.isub, 1)) {q : Nat} (hq : pc + 1 = q) (k : AW l G d M r τ q L (.int (x - y) :: st) σ) : AW l G d M r τ pc L (.int y :: .int x :: st) σ := by
  intro p e s m args below meth c H locs ls hC hP hS hl
  subst hq
  exact lv_isub hC.1 hC.2.1 hd (k p e s m args below meth c H locs ls hC hP hS hl)
theorem AW.imul {x y : Int32} (hd : decode M.2.1 pc = .ok (.imul, 1)) {q : Nat} (hq : pc + 1 = q) (k : AW l G d M r τ q L (.int (x * y) :: st) σ) : AW l G d M r τ pc L (.int y :: .int x :: st) σ := by
  intro p e s m args below meth c H locs ls hC hP hS hl
  subst hq
  exact lv_imul hC.1 hC.2.1 hd (k p e s m args below meth c H locs ls hC hP hS hl)
theorem AW.iand {x y : Int32} (hd : decode M.2.1 pc = .ok (.iand, 1)) {q : Nat} (hq : pc + 1 = q) (k : AW l G d M r τ q L (.int (x &&& y) :: st) σ) : AW l G d M r τ pc L (.int y :: .int x :: st) σ := by
  intro p e s m args below meth c H locs ls hC hP hS hl
  subst hq
  exact lv_iand hC.1 hC.2.1 hd (k p e s m args below meth c H locs ls hC hP hS hl)
theorem AW.ior {x y : Int32} (hd : decode M.2.1 pc = .ok (.ior, 1)) {q : Nat} (hq : pc + 1 = q) (k : AW l G d M r τ q L (.int (x ||| y) :: st) σ) : AW l G d M r τ pc L (.int y :: .int x :: st) σ := by
  intro p e s m args below meth c H locs ls hC hP hS hl
  subst hq
  exact lv_ior hC.1 hC.2.1 hd (k p e s m args below meth c H locs ls hC hP hS hl)
theorem AW.ixor {x y : Int32} (hd : decode M.2.1 pc = .ok (.ixor, 1)) {q : Nat} (hq : pc + 1 = q) (k : AW l G d M r τ q L (.int (x ^^^ y) :: st) σ) : AW l G d M r τ pc L (.int y :: .int x :: st) σ := by
  intro p e s m args below meth c H locs ls hC hP hS hl
  subst hq
  exact lv_ixor hC.1 hC.2.1 hd (k p e s m args below meth c H locs ls hC hP hS hl)
theorem AW.ladd {x y : Int64} (hd : decode M.2.1 pc = .ok (.ladd, 1)) {q : Nat} (hq : pc + 1 = q) (k : AW l G d M r τ q L (.long (x + y) :: st) σ) : AW l G d M r τ pc L (.long y :: .long x :: st) σ := by
  intro p e s m args below meth c H locs ls hC hP hS hl
  subst hq
  exact lv_ladd hC.1 hC.2.1 hd (k p e s m args below meth c H locs ls hC hP hS hl)
theorem AW.lsub {x y : Int64} (hd : decode M.2.1 pc = .ok (.lsub, 1)) {q : Nat} (hq : pc + 1 = q) (k : AW l G d M r τ q L (.long (x - y) :: st) σ) : AW l G d M r τ pc L (.long y :: .long x :: st) σ := by
  intro p e s m args below meth c H locs ls hC hP hS hl
  subst hq
  exact lv_lsub hC.1 hC.2.1 hd (k p e s m args below meth c H locs ls hC hP hS hl)
theorem AW.lmul {x y : Int64} (hd : decode M.2.1 pc = .ok (.lmul, 1)) {q : Nat} (hq : pc + 1 = q) (k : AW l G d M r τ q L (.long (x * y) :: st) σ) : AW l G d M r τ pc L (.long y :: .long x :: st) σ := by
  intro p e s m args below meth c H locs ls hC hP hS hl
  subst hq
  exact lv_lmul hC.1 hC.2.1 hd (k p e s m args below meth c H locs ls hC hP hS hl)
theorem AW.land {x y : Int64} (hd : decode M.2.1 pc = .ok (.land, 1)) {q : Nat} (hq : pc + 1 = q) (k : AW l G d M r τ q L (.long (x &&& y) :: st) σ) : AW l G d M r τ pc L (.long y :: .long x :: st) σ := by
  intro p e s m args below meth c H locs ls hC hP hS hl
  subst hq
  exact lv_land hC.1 hC.2.1 hd (k p e s m args below meth c H locs ls hC hP hS hl)
theorem AW.lor {x y : Int64} (hd : decode M.2.1 pc = .ok (.lor, 1)) {q : Nat} (hq : pc + 1 = q) (k : AW l G d M r τ q L (.long (x ||| y) :: st) σ) : AW l G d M r τ pc L (.long y :: .long x :: st) σ := by
  intro p e s m args below meth c H locs ls hC hP hS hl
  subst hq
  exact lv_lor hC.1 hC.2.1 hd (k p e s m args below meth c H locs ls hC hP hS hl)
theorem AW.idiv {x y : Int32} (hd : decode M.2.1 pc = .ok (.idiv, 1)) {q : Nat} (hq : pc + 1 = q) (hne : ¬ y = 0) (k : AW l G d M r τ q L (.int (x / y) :: st) σ) : AW l G d M r τ pc L (.int y :: .int x :: st) σ := by
  intro p e s m args below meth c H locs ls hC hP hS hl
  subst hq
  exact lv_idiv hC.1 hC.2.1 hd hne (k p e s m args below meth c H locs ls hC hP hS hl)
theorem AW.irem {x y : Int32} (hd : decode M.2.1 pc = .ok (.irem, 1)) {q : Nat} (hq : pc + 1 = q) (hne : ¬ y = 0) (k : AW l G d M r τ q L (.int (jrem x y) :: st) σ) : AW l G d M r τ pc L (.int y :: .int x :: st) σ := by
  intro p e s m args below meth c H locs ls hC hP hS hl
  subst hq
  exact lv_irem hC.1 hC.2.1 hd hne (k p e s m args below meth c H locs ls hC hP hS hl)
theorem AW.ldiv {x y : Int64} (hd : decode M.2.1 pc = .ok (.ldiv, 1)) {q : Nat} (hq : pc + 1 = q) (hne : ¬ y = 0) (k : AW l G d M r τ q L (.long (x / y) :: st) σ) : AW l G d M r τ pc L (.long y :: .long x :: st) σ := by
  intro p e s m args below meth c H locs ls hC hP hS hl
  subst hq
  exact lv_ldiv hC.1 hC.2.1 hd hne (k p e s m args below meth c H locs ls hC hP hS hl)
theorem AW.lrem {x y : Int64} (hd : decode M.2.1 pc = .ok (.lrem, 1)) {q : Nat} (hq : pc + 1 = q) (hne : ¬ y = 0) (k : AW l G d M r τ q L (.long (jlrem x y) :: st) σ) : AW l G d M r τ pc L (.long y :: .long x :: st) σ := by
  intro p e s m args below meth c H locs ls hC hP hS hl
  subst hq
  exact lv_lrem hC.1 hC.2.1 hd hne (k p e s m args below meth c H locs ls hC hP hS hl)
theorem AW.ishl {x y : Int32} (hd : decode M.2.1 pc = .ok (.ishl, 1)) {q : Nat} (hq : pc + 1 = q) (k : AW l G d M r τ q L (.int (jshl x y) :: st) σ) : AW l G d M r τ pc L (.int y :: .int x :: st) σ := by
  intro p e s m args below meth c H locs ls hC hP hS hl
  subst hq
  exact lv_ishl hC.1 hC.2.1 hd (k p e s m args below meth c H locs ls hC hP hS hl)
theorem AW.ishr {x y : Int32} (hd : decode M.2.1 pc = .ok (.ishr, 1)) {q : Nat} (hq : pc + 1 = q) (k : AW l G d M r τ q L (.int (jshr x y) :: st) σ) : AW l G d M r τ pc L (.int y :: .int x :: st) σ := by
  intro p e s m args below meth c H locs ls hC hP hS hl
  subst hq
  exact lv_ishr hC.1 hC.2.1 hd (k p e s m args below meth c H locs ls hC hP hS hl)
theorem AW.iushr {x y : Int32} (hd : decode M.2.1 pc = .ok (.iushr, 1)) {q : Nat} (hq : pc + 1 = q) (k : AW l G d M r τ q L (.int (jushr x y) :: st) σ) : AW l G d M r τ pc L (.int y :: .int x :: st) σ := by
  intro p e s m args below meth c H locs ls hC hP hS hl
  subst hq
  exact lv_iushr hC.1 hC.2.1 hd rfl (k p e s m args below meth c H locs ls hC hP hS hl)
theorem AW.lshl {x : Int64} {y : Int32} (hd : decode M.2.1 pc = .ok (.lshl, 1)) {q : Nat} (hq : pc + 1 = q) (k : AW l G d M r τ q L (.long (jlshl x y) :: st) σ) : AW l G d M r τ pc L (.int y :: .long x :: st) σ := by
  intro p e s m args below meth c H locs ls hC hP hS hl
  subst hq
  exact lv_lshl hC.1 hC.2.1 hd rfl (k p e s m args below meth c H locs ls hC hP hS hl)
theorem AW.lushr {x : Int64} {y : Int32} (hd : decode M.2.1 pc = .ok (.lushr, 1)) {q : Nat} (hq : pc + 1 = q) (k : AW l G d M r τ q L (.long (jlushr x y) :: st) σ) : AW l G d M r τ pc L (.int y :: .long x :: st) σ := by
  intro p e s m args below meth c H locs ls hC hP hS hl
  subst hq
  exact lv_lushr hC.1 hC.2.1 hd rfl (k p e s m args below meth c H locs ls hC hP hS hl)
theorem AW.ineg {x : Int32} (hd : decode M.2.1 pc = .ok (.ineg, 1)) {q : Nat} (hq : pc + 1 = q) (k : AW l G d M r τ q L (.int (-x) :: st) σ) : AW l G d M r τ pc L (.int x :: st) σ := by
  intro p e s m args below meth c H locs ls hC hP hS hl
  subst hq
  exact lv_ineg hC.1 hC.2.1 hd (k p e s m args below meth c H locs ls hC hP hS hl)
theorem AW.i2l {x : Int32} (hd : decode M.2.1 pc = .ok (.i2l, 1)) {q : Nat} (hq : pc + 1 = q) (k : AW l G d M r τ q L (.long x.toInt64 :: st) σ) : AW l G d M r τ pc L (.int x :: st) σ := by
  intro p e s m args below meth c H locs ls hC hP hS hl
  subst hq
  exact lv_i2l hC.1 hC.2.1 hd rfl (k p e s m args below meth c H locs ls hC hP hS hl)
theorem AW.l2i {x : Int64} (hd : decode M.2.1 pc = .ok (.l2i, 1)) {q : Nat} (hq : pc + 1 = q) (k : AW l G d M r τ q L (.int x.toInt32 :: st) σ) : AW l G d M r τ pc L (.long x :: st) σ := by
  intro p e s m args below meth c H locs ls hC hP hS hl
  subst hq
  exact lv_l2i hC.1 hC.2.1 hd rfl (k p e s m args below meth c H locs ls hC hP hS hl)
theorem AW.lcmp {x y : Int64} (hd : decode M.2.1 pc = .ok (.lcmp, 1)) {q : Nat} (hq : pc + 1 = q) (k : AW l G d M r τ q L (.int (lg_cmp x y) :: st) σ) : AW l G d M r τ pc L (.long y :: .long x :: st) σ := by
  intro p e s m args below meth c H locs ls hC hP hS hl
  subst hq
  exact W.lcmp hC.1 hC.2.1 hd (k p e s m args below meth c H locs ls hC hP hS hl)
theorem AW.iconst {n : Int} {v : Int32} (hd : decode M.2.1 pc = .ok (.iconst n, 1)) {q : Nat} (hq : pc + 1 = q) (hv : Int32.ofInt n = v) (k : AW l G d M r τ q L (.int v :: st) σ) : AW l G d M r τ pc L (st) σ := by
  intro p e s m args below meth c H locs ls hC hP hS hl
  subst hq
  exact lv_iconst hC.1 hC.2.1 hd hv (k p e s m args below meth c H locs ls hC hP hS hl)
theorem AW.bipush {n : Int} {v : Int32} (hd : decode M.2.1 pc = .ok (.bipush n, 2)) {q : Nat} (hq : pc + 2 = q) (hv : (Int8.ofInt n).toInt32 = v) (k : AW l G d M r τ q L (.int v :: st) σ) : AW l G d M r τ pc L (st) σ := by
  intro p e s m args below meth c H locs ls hC hP hS hl
  subst hq
  exact lv_bipush hC.1 hC.2.1 hd hv (k p e s m args below meth c H locs ls hC hP hS hl)
theorem AW.sipush {n : Int} {v : Int32} (hd : decode M.2.1 pc = .ok (.sipush n, 3)) {q : Nat} (hq : pc + 3 = q) (hv : (Int16.ofInt n).toInt32 = v) (k : AW l G d M r τ q L (.int v :: st) σ) : AW l G d M r τ pc L (st) σ := by
  intro p e s m args below meth c H locs ls hC hP hS hl
  subst hq
  exact lv_sipush hC.1 hC.2.1 hd hv (k p e s m args below meth c H locs ls hC hP hS hl)
theorem AW.lconst {n : Fin 2} {v : Int64} (hd : decode M.2.1 pc = .ok (.lconst n, 1)) {q : Nat} (hq : pc + 1 = q) (hv : Int64.ofNat (n : Nat) = v) (k : AW l G d M r τ q L (.long v :: st) σ) : AW l G d M r τ pc L (st) σ := by
  intro p e s m args below meth c H locs ls hC hP hS hl
  subst hq
  exact lv_lconst hC.1 hC.2.1 hd hv (k p e s m args below meth c H locs ls hC hP hS hl)
theorem AW.null  (hd : decode M.2.1 pc = .ok (.aconst_null, 1)) {q : Nat} (hq : pc + 1 = q) (k : AW l G d M r τ q L (.null :: st) σ) : AW l G d M r τ pc L (st) σ := by
  intro p e s m args below meth c H locs ls hC hP hS hl
  subst hq
  exact lv_null hC.1 hC.2.1 hd (k p e s m args below meth c H locs ls hC hP hS hl)
theorem AW.dup {v : Value} (hd : decode M.2.1 pc = .ok (.dup, 1)) {q : Nat} (hq : pc + 1 = q) (hv : v.category = 1) (k : AW l G d M r τ q L (v :: v :: st) σ) : AW l G d M r τ pc L (v :: st) σ := by
  intro p e s m args below meth c H locs ls hC hP hS hl
  subst hq
  exact lv_dup hC.1 hC.2.1 hd (by rw [cv_cat]; exact hv) (k p e s m args below meth c H locs ls hC hP hS hl)
theorem AW.pop {v : Value} (hd : decode M.2.1 pc = .ok (.pop, 1)) {q : Nat} (hq : pc + 1 = q) (hv : v.category = 1) (k : AW l G d M r τ q L (st) σ) : AW l G d M r τ pc L (v :: st) σ := by
  intro p e s m args below meth c H locs ls hC hP hS hl
  subst hq
  exact lv_pop hC.1 hC.2.1 hd (by rw [cv_cat]; exact hv) (k p e s m args below meth c H locs ls hC hP hS hl)
theorem AW.dup2 {v u : Value} (hd : decode M.2.1 pc = .ok (.dup2, 1)) {q : Nat} (hq : pc + 1 = q) (hv : v.category = 1) (hu : u.category = 1) (k : AW l G d M r τ q L (v :: u :: v :: u :: st) σ) : AW l G d M r τ pc L (v :: u :: st) σ := by
  intro p e s m args below meth c H locs ls hC hP hS hl
  subst hq
  exact lv_dup2_11 hC.1 hC.2.1 hd (by rw [cv_cat]; exact hv) (by rw [cv_cat]; exact hu) (k p e s m args below meth c H locs ls hC hP hS hl)
theorem AW.iload_n {f : Fin 4} {x : Int32} (hd : decode M.2.1 pc = .ok (.iload_n f, 1)) {q : Nat} (hq : pc + 1 = q) (n : Nat) (hL : L[n]? = some ((f : Nat), Value.int x)) (k : AW l G d M r τ q L (.int x :: st) σ) : AW l G d M r τ pc L st σ := by
  intro p e s m args below meth c H locs ls hC hP hS hl
  subst hq
  exact lv_iload_n hC.1 hC.2.1 hd rfl (LL_mem hl (lvm n hL)) (k p e s m args below meth c H locs ls hC hP hS hl)
theorem AW.iload {i : Nat} {x : Int32} (hd : decode M.2.1 pc = .ok (.iload i, 2)) {q : Nat} (hq : pc + 2 = q) (n : Nat) (hL : L[n]? = some (i, Value.int x)) (k : AW l G d M r τ q L (.int x :: st) σ) : AW l G d M r τ pc L st σ := by
  intro p e s m args below meth c H locs ls hC hP hS hl
  subst hq
  exact lv_iload hC.1 hC.2.1 hd (LL_mem hl (lvm n hL)) (k p e s m args below meth c H locs ls hC hP hS hl)
theorem AW.istore_n {f : Fin 4} {x : Int32} {L' : List (Nat × Value)} (hd : decode M.2.1 pc = .ok (.istore_n f, 1)) {q : Nat} (hq : pc + 1 = q) (hn : (f : Nat) < M.2.2.1) (hL : ((f : Nat), Value.int x) :: stF L (f : Nat) = L') (k : AW l G d M r τ q L' st σ) : AW l G d M r τ pc L (.int x :: st) σ := by
  intro p e s m args below meth c H locs ls hC hP hS hl
  subst hq
  refine lv_istore_n (lv' := LL G L') hC.1 hC.2.1 hd rfl hl hn ?_ (fun ls' hl' => k p e s m args below meth c H locs ls' hC hP hS hl')
  rw [LL_stF, ← hL]; rfl
theorem AW.istore {i : Nat} {x : Int32} {L' : List (Nat × Value)} (hd : decode M.2.1 pc = .ok (.istore i, 2)) {q : Nat} (hq : pc + 2 = q) (hn : i < M.2.2.1) (hL : (i, Value.int x) :: stF L i = L') (k : AW l G d M r τ q L' st σ) : AW l G d M r τ pc L (.int x :: st) σ := by
  intro p e s m args below meth c H locs ls hC hP hS hl
  subst hq
  refine lv_istore (lv' := LL G L') hC.1 hC.2.1 hd hl hn ?_ (fun ls' hl' => k p e s m args below meth c H locs ls' hC hP hS hl')
  rw [LL_stF, ← hL]; rfl
theorem AW.lload_n {f : Fin 4} {x : Int64} (hd : decode M.2.1 pc = .ok (.lload_n f, 1)) {q : Nat} (hq : pc + 1 = q) (n : Nat) (hL : L[n]? = some ((f : Nat), Value.long x)) (k : AW l G d M r τ q L (.long x :: st) σ) : AW l G d M r τ pc L st σ := by
  intro p e s m args below meth c H locs ls hC hP hS hl
  subst hq
  exact lv_lload_n hC.1 hC.2.1 hd rfl (LL_mem hl (lvm n hL)) (k p e s m args below meth c H locs ls hC hP hS hl)
theorem AW.lload {i : Nat} {x : Int64} (hd : decode M.2.1 pc = .ok (.lload i, 2)) {q : Nat} (hq : pc + 2 = q) (n : Nat) (hL : L[n]? = some (i, Value.long x)) (k : AW l G d M r τ q L (.long x :: st) σ) : AW l G d M r τ pc L st σ := by
  intro p e s m args below meth c H locs ls hC hP hS hl
  subst hq
  exact lv_lload hC.1 hC.2.1 hd (LL_mem hl (lvm n hL)) (k p e s m args below meth c H locs ls hC hP hS hl)
theorem AW.lstore_n {f : Fin 4} {x : Int64} {L' : List (Nat × Value)} (hd : decode M.2.1 pc = .ok (.lstore_n f, 1)) {q : Nat} (hq : pc + 1 = q) (hn : (f : Nat) + 1 < M.2.2.1) (hL : ((f : Nat), Value.long x) :: stG L (f : Nat) = L') (k : AW l G d M r τ q L' st σ) : AW l G d M r τ pc L (.long x :: st) σ := by
  intro p e s m args below meth c H locs ls hC hP hS hl
  subst hq
  refine lv_lstore_n (lv' := LL G L') hC.1 hC.2.1 hd rfl hl hn ?_ (fun ls' hl' => k p e s m args below meth c H locs ls' hC hP hS hl')
  rw [LL_stG, ← hL]; rfl
theorem AW.lstore {i : Nat} {x : Int64} {L' : List (Nat × Value)} (hd : decode M.2.1 pc = .ok (.lstore i, 2)) {q : Nat} (hq : pc + 2 = q) (hn : i + 1 < M.2.2.1) (hL : (i, Value.long x) :: stG L i = L') (k : AW l G d M r τ q L' st σ) : AW l G d M r τ pc L (.long x :: st) σ := by
  intro p e s m args below meth c H locs ls hC hP hS hl
  subst hq
  refine lv_lstore (lv' := LL G L') hC.1 hC.2.1 hd hl hn ?_ (fun ls' hl' => k p e s m args below meth c H locs ls' hC hP hS hl')
  rw [LL_stG, ← hL]; rfl
theorem AW.aload_n {f : Fin 4} {x : Nat} (hd : decode M.2.1 pc = .ok (.aload_n f, 1)) {q : Nat} (hq : pc + 1 = q) (n : Nat) (hL : L[n]? = some ((f : Nat), Value.ref x)) (k : AW l G d M r τ q L (.ref x :: st) σ) : AW l G d M r τ pc L st σ := by
  intro p e s m args below meth c H locs ls hC hP hS hl
  subst hq
  exact lv_aload_n hC.1 hC.2.1 hd rfl (LL_mem hl (lvm n hL)) (k p e s m args below meth c H locs ls hC hP hS hl)
theorem AW.aload {i : Nat} {x : Nat} (hd : decode M.2.1 pc = .ok (.aload i, 2)) {q : Nat} (hq : pc + 2 = q) (n : Nat) (hL : L[n]? = some (i, Value.ref x)) (k : AW l G d M r τ q L (.ref x :: st) σ) : AW l G d M r τ pc L st σ := by
  intro p e s m args below meth c H locs ls hC hP hS hl
  subst hq
  exact lv_aload hC.1 hC.2.1 hd (LL_mem hl (lvm n hL)) (k p e s m args below meth c H locs ls hC hP hS hl)
theorem AW.astore_n {f : Fin 4} {x : Nat} {L' : List (Nat × Value)} (hd : decode M.2.1 pc = .ok (.astore_n f, 1)) {q : Nat} (hq : pc + 1 = q) (hn : (f : Nat) < M.2.2.1) (hL : ((f : Nat), Value.ref x) :: stF L (f : Nat) = L') (k : AW l G d M r τ q L' st σ) : AW l G d M r τ pc L (.ref x :: st) σ := by
  intro p e s m args below meth c H locs ls hC hP hS hl
  subst hq
  refine lv_astore_n (lv' := LL G L') hC.1 hC.2.1 hd rfl hl hn ?_ (fun ls' hl' => k p e s m args below meth c H locs ls' hC hP hS hl')
  rw [LL_stF, ← hL]; rfl
theorem AW.astore {i : Nat} {x : Nat} {L' : List (Nat × Value)} (hd : decode M.2.1 pc = .ok (.astore i, 2)) {q : Nat} (hq : pc + 2 = q) (hn : i < M.2.2.1) (hL : (i, Value.ref x) :: stF L i = L') (k : AW l G d M r τ q L' st σ) : AW l G d M r τ pc L (.ref x :: st) σ := by
  intro p e s m args below meth c H locs ls hC hP hS hl
  subst hq
  refine lv_astore (lv' := LL G L') hC.1 hC.2.1 hd hl hn ?_ (fun ls' hl' => k p e s m args below meth c H locs ls' hC hP hS hl')
  rw [LL_stF, ← hL]; rfl
theorem AW.iinc {i : Nat} {n : Int} {x v : Int32} {L' : List (Nat × Value)} (hd : decode M.2.1 pc = .ok (.iinc i n, 3)) {q : Nat} (hq : pc + 3 = q) (a : Nat) (ha : L[a]? = some (i, Value.int x)) (hv : x + Int32.ofInt n = v) (hn : i < M.2.2.1) (hL : (i, Value.int v) :: stF L i = L') (k : AW l G d M r τ q L' st σ) : AW l G d M r τ pc L st σ := by
  intro p e s m args below meth c H locs ls hC hP hS hl
  subst hq
  refine lv_iinc (k := a) (x := x) (v := v) (lv' := LL G L') hC.1 hC.2.1 hd hl (by rw [LL, List.getElem?_map, ha]; rfl) hv hn ?_ (fun ls' hl' => k p e s m args below meth c H locs ls' hC hP hS hl')
  rw [LL_stF, ← hL]; rfl
theorem AW.icmp_eq {x y : Int32} {off : Int} {tgt : Nat} (hd : decode M.2.1 pc = .ok (.if_icmp .eq off, 3)) (ht : (pc : Int) + off = (tgt : Int)) (kt : x = y → AW l G d M r τ tgt L st σ) (kf : ¬ x = y → AW l G d M r τ (pc + 3) L st σ) : AW l G d M r τ pc L (.int y :: .int x :: st) σ := by
  intro p e s m args below meth c H locs ls hC hP hS hl
  exact lv_icmp_eq hC.1 hC.2.1 hd ht (fun q => kt q p e s m args below meth c H locs ls hC hP hS hl) (fun q => kf q p e s m args below meth c H locs ls hC hP hS hl)
theorem AW.if_eq {x : Int32} {off : Int} {tgt : Nat} (hd : decode M.2.1 pc = .ok (.ifCond .eq off, 3)) (ht : (pc : Int) + off = (tgt : Int)) (kt : x = 0 → AW l G d M r τ tgt L st σ) (kf : ¬ x = 0 → AW l G d M r τ (pc + 3) L st σ) : AW l G d M r τ pc L (.int x :: st) σ := by
  intro p e s m args below meth c H locs ls hC hP hS hl
  exact lv_if_eq hC.1 hC.2.1 hd ht (fun q => kt q p e s m args below meth c H locs ls hC hP hS hl) (fun q => kf q p e s m args below meth c H locs ls hC hP hS hl)
theorem AW.icmp_ne {x y : Int32} {off : Int} {tgt : Nat} (hd : decode M.2.1 pc = .ok (.if_icmp .ne off, 3)) (ht : (pc : Int) + off = (tgt : Int)) (kt : ¬ x = y → AW l G d M r τ tgt L st σ) (kf : x = y → AW l G d M r τ (pc + 3) L st σ) : AW l G d M r τ pc L (.int y :: .int x :: st) σ := by
  intro p e s m args below meth c H locs ls hC hP hS hl
  exact lv_icmp_ne hC.1 hC.2.1 hd ht (fun q => kt q p e s m args below meth c H locs ls hC hP hS hl) (fun q => kf q p e s m args below meth c H locs ls hC hP hS hl)
theorem AW.if_ne {x : Int32} {off : Int} {tgt : Nat} (hd : decode M.2.1 pc = .ok (.ifCond .ne off, 3)) (ht : (pc : Int) + off = (tgt : Int)) (kt : ¬ x = 0 → AW l G d M r τ tgt L st σ) (kf : x = 0 → AW l G d M r τ (pc + 3) L st σ) : AW l G d M r τ pc L (.int x :: st) σ := by
  intro p e s m args below meth c H locs ls hC hP hS hl
  exact lv_if_ne hC.1 hC.2.1 hd ht (fun q => kt q p e s m args below meth c H locs ls hC hP hS hl) (fun q => kf q p e s m args below meth c H locs ls hC hP hS hl)
theorem AW.icmp_lt {x y : Int32} {off : Int} {tgt : Nat} (hd : decode M.2.1 pc = .ok (.if_icmp .lt off, 3)) (ht : (pc : Int) + off = (tgt : Int)) (kt : x < y → AW l G d M r τ tgt L st σ) (kf : ¬ x < y → AW l G d M r τ (pc + 3) L st σ) : AW l G d M r τ pc L (.int y :: .int x :: st) σ := by
  intro p e s m args below meth c H locs ls hC hP hS hl
  exact lv_icmp_lt hC.1 hC.2.1 hd ht (fun q => kt q p e s m args below meth c H locs ls hC hP hS hl) (fun q => kf q p e s m args below meth c H locs ls hC hP hS hl)
theorem AW.if_lt {x : Int32} {off : Int} {tgt : Nat} (hd : decode M.2.1 pc = .ok (.ifCond .lt off, 3)) (ht : (pc : Int) + off = (tgt : Int)) (kt : x < 0 → AW l G d M r τ tgt L st σ) (kf : ¬ x < 0 → AW l G d M r τ (pc + 3) L st σ) : AW l G d M r τ pc L (.int x :: st) σ := by
  intro p e s m args below meth c H locs ls hC hP hS hl
  exact lv_if_lt hC.1 hC.2.1 hd ht (fun q => kt q p e s m args below meth c H locs ls hC hP hS hl) (fun q => kf q p e s m args below meth c H locs ls hC hP hS hl)
theorem AW.icmp_ge {x y : Int32} {off : Int} {tgt : Nat} (hd : decode M.2.1 pc = .ok (.if_icmp .ge off, 3)) (ht : (pc : Int) + off = (tgt : Int)) (kt : y ≤ x → AW l G d M r τ tgt L st σ) (kf : ¬ y ≤ x → AW l G d M r τ (pc + 3) L st σ) : AW l G d M r τ pc L (.int y :: .int x :: st) σ := by
  intro p e s m args below meth c H locs ls hC hP hS hl
  exact lv_icmp_ge hC.1 hC.2.1 hd ht (fun q => kt q p e s m args below meth c H locs ls hC hP hS hl) (fun q => kf q p e s m args below meth c H locs ls hC hP hS hl)
theorem AW.if_ge {x : Int32} {off : Int} {tgt : Nat} (hd : decode M.2.1 pc = .ok (.ifCond .ge off, 3)) (ht : (pc : Int) + off = (tgt : Int)) (kt : 0 ≤ x → AW l G d M r τ tgt L st σ) (kf : ¬ 0 ≤ x → AW l G d M r τ (pc + 3) L st σ) : AW l G d M r τ pc L (.int x :: st) σ := by
  intro p e s m args below meth c H locs ls hC hP hS hl
  exact lv_if_ge hC.1 hC.2.1 hd ht (fun q => kt q p e s m args below meth c H locs ls hC hP hS hl) (fun q => kf q p e s m args below meth c H locs ls hC hP hS hl)
theorem AW.icmp_gt {x y : Int32} {off : Int} {tgt : Nat} (hd : decode M.2.1 pc = .ok (.if_icmp .gt off, 3)) (ht : (pc : Int) + off = (tgt : Int)) (kt : y < x → AW l G d M r τ tgt L st σ) (kf : ¬ y < x → AW l G d M r τ (pc + 3) L st σ) : AW l G d M r τ pc L (.int y :: .int x :: st) σ := by
  intro p e s m args below meth c H locs ls hC hP hS hl
  exact lv_icmp_gt hC.1 hC.2.1 hd ht (fun q => kt q p e s m args below meth c H locs ls hC hP hS hl) (fun q => kf q p e s m args below meth c H locs ls hC hP hS hl)
theorem AW.if_gt {x : Int32} {off : Int} {tgt : Nat} (hd : decode M.2.1 pc = .ok (.ifCond .gt off, 3)) (ht : (pc : Int) + off = (tgt : Int)) (kt : 0 < x → AW l G d M r τ tgt L st σ) (kf : ¬ 0 < x → AW l G d M r τ (pc + 3) L st σ) : AW l G d M r τ pc L (.int x :: st) σ := by
  intro p e s m args below meth c H locs ls hC hP hS hl
  exact lv_if_gt hC.1 hC.2.1 hd ht (fun q => kt q p e s m args below meth c H locs ls hC hP hS hl) (fun q => kf q p e s m args below meth c H locs ls hC hP hS hl)
theorem AW.icmp_le {x y : Int32} {off : Int} {tgt : Nat} (hd : decode M.2.1 pc = .ok (.if_icmp .le off, 3)) (ht : (pc : Int) + off = (tgt : Int)) (kt : x ≤ y → AW l G d M r τ tgt L st σ) (kf : ¬ x ≤ y → AW l G d M r τ (pc + 3) L st σ) : AW l G d M r τ pc L (.int y :: .int x :: st) σ := by
  intro p e s m args below meth c H locs ls hC hP hS hl
  exact lv_icmp_le hC.1 hC.2.1 hd ht (fun q => kt q p e s m args below meth c H locs ls hC hP hS hl) (fun q => kf q p e s m args below meth c H locs ls hC hP hS hl)
theorem AW.if_le {x : Int32} {off : Int} {tgt : Nat} (hd : decode M.2.1 pc = .ok (.ifCond .le off, 3)) (ht : (pc : Int) + off = (tgt : Int)) (kt : x ≤ 0 → AW l G d M r τ tgt L st σ) (kf : ¬ x ≤ 0 → AW l G d M r τ (pc + 3) L st σ) : AW l G d M r τ pc L (.int x :: st) σ := by
  intro p e s m args below meth c H locs ls hC hP hS hl
  exact lv_if_le hC.1 hC.2.1 hd ht (fun q => kt q p e s m args below meth c H locs ls hC hP hS hl) (fun q => kf q p e s m args below meth c H locs ls hC hP hS hl)
theorem AW.astore_nN {f : Fin 4} {L' : List (Nat × Value)} (hd : decode M.2.1 pc = .ok (.astore_n f, 1)) {q : Nat} (hq : pc + 1 = q) (hn : (f : Nat) < M.2.2.1) (hL : ((f : Nat), Value.null) :: stF L (f : Nat) = L') (k : AW l G d M r τ q L' st σ) : AW l G d M r τ pc L (.null :: st) σ := by
  intro p e s m args below meth c H locs ls hC hP hS hl
  subst hq
  refine lv_astore_nN (lv' := LL G L') hC.1 hC.2.1 hd rfl hl hn ?_ (fun ls' hl' => k p e s m args below meth c H locs ls' hC hP hS hl')
  rw [LL_stF, ← hL]; rfl
theorem AW.goto {off : Int} {tgt : Nat} (hd : decode M.2.1 pc = .ok (.goto off, 3)) (ht : (pc : Int) + off = (tgt : Int)) (k : AW l G d M r τ tgt L st σ) : AW l G d M r τ pc L st σ := by
  intro p e s m args below meth c H locs ls hC hP hS hl
  exact lv_goto hC.1 hC.2.1 hd ht (k p e s m args below meth c H locs ls hC hP hS hl)
theorem AW.ifnonnull {x : Nat} {off : Int} {tgt : Nat} (hd : decode M.2.1 pc = .ok (.ifnonnull off, 3)) (ht : (pc : Int) + off = (tgt : Int)) (k : AW l G d M r τ tgt L st σ) : AW l G d M r τ pc L (.ref x :: st) σ := by
  intro p e s m args below meth c H locs ls hC hP hS hl
  exact lv_ifnonnull hC.1 hC.2.1 hd ht (k p e s m args below meth c H locs ls hC hP hS hl)
theorem AW.ifnonnullN {off : Int} (hd : decode M.2.1 pc = .ok (.ifnonnull off, 3)) (k : AW l G d M r τ (pc + 3) L st σ) : AW l G d M r τ pc L (.null :: st) σ := by
  intro p e s m args below meth c H locs ls hC hP hS hl
  exact lv_ifnonnullN hC.1 hC.2.1 hd (k p e s m args below meth c H locs ls hC hP hS hl)
theorem AW.tabIn {dflt lo hi : Int} {offs : Array Int} {len : Nat} {x v : Int32} {off : Int} {tgt : Nat} (hd : decode M.2.1 pc = .ok (.tableswitch dflt lo hi offs, len)) (hv : x = v) (h1 : ¬ v.toInt < lo) (h2 : ¬ hi < v.toInt) (ho : offs[(v.toInt - lo).toNat]? = some off) (ht : (pc : Int) + off = (tgt : Int)) (k : AW l G d M r τ tgt L st σ) : AW l G d M r τ pc L (.int x :: st) σ := by
  intro p e s m args below meth c H locs ls hC hP hS hl
  subst hv
  exact lv_tableIn hC.1 hC.2.1 hd h1 h2 ho ht (k p e s m args below meth c H locs ls hC hP hS hl)
theorem AW.tabOut {dflt lo hi : Int} {offs : Array Int} {len : Nat} {x : Int32} {tgt : Nat} (hd : decode M.2.1 pc = .ok (.tableswitch dflt lo hi offs, len)) (h : x.toInt < lo ∨ hi < x.toInt) (ht : (pc : Int) + dflt = (tgt : Int)) (k : AW l G d M r τ tgt L st σ) : AW l G d M r τ pc L (.int x :: st) σ := by
  intro p e s m args below meth c H locs ls hC hP hS hl
  exact lv_tableOut hC.1 hC.2.1 hd h ht (k p e s m args below meth c H locs ls hC hP hS hl)
theorem AW.look {dflt : Int} {ps : Array (Int × Int)} {len : Nat} {x : Int32} {off : Int} {tgt : Nat} (hd : decode M.2.1 pc = .ok (.lookupswitch dflt ps, len)) (hp : (ps.toList.zip (ps.toList.drop 1)).all (fun (a, next) => a.1 < next.1) = true) (ho : Op.lookupswitch.offset ps.toList dflt x.toInt = off) (ht : (pc : Int) + off = (tgt : Int)) (k : AW l G d M r τ tgt L st σ) : AW l G d M r τ pc L (.int x :: st) σ := by
  intro p e s m args below meth c H locs ls hC hP hS hl
  exact lv_lookup hC.1 hC.2.1 hd hp ho ht (k p e s m args below meth c H locs ls hC hP hS hl)
theorem AW.ldc {idx : Nat} {v : Int32} (lc : LC M.1.cls idx v) (hd : decode M.2.1 pc = .ok (.ldc idx, 2)) {q : Nat} (hq : pc + 2 = q) (k : AW l G d M r τ q L (.int v :: st) σ) : AW l G d M r τ pc L st σ := by
  intro p e s m args below meth c H locs ls hC hP hS hl
  subst hq
  exact W.ldc hC.1 hC.2.1 hC.2.2.2.1 (hC.2.2.2.2.1 _ lc) rfl hd (k p e s m args below meth c H locs ls hC hP hS hl)
theorem AW.ldc_w {idx : Nat} {v : Int32} (lc : LC M.1.cls idx v) (hd : decode M.2.1 pc = .ok (.ldc_w idx, 3)) {q : Nat} (hq : pc + 3 = q) (k : AW l G d M r τ q L (.int v :: st) σ) : AW l G d M r τ pc L st σ := by
  intro p e s m args below meth c H locs ls hC hP hS hl
  subst hq
  exact lv_ldcw hC.1 hC.2.1 hC.2.2.2.1 (hC.2.2.2.2.1 _ lc) hd (k p e s m args below meth c H locs ls hC hP hS hl)
theorem AW.ldc2_w {idx : Nat} {v : Int64} (lc : LCL M.1.cls idx v) (hd : decode M.2.1 pc = .ok (.ldc2_w idx, 3)) {q : Nat} (hq : pc + 3 = q) (k : AW l G d M r τ q L (.long v :: st) σ) : AW l G d M r τ pc L st σ := by
  intro p e s m args below meth c H locs ls hC hP hS hl
  subst hq
  exact lv_ldc2 hC.1 hC.2.1 hC.2.2.2.1 (hC.2.2.2.2.1 _ lc) hd (k p e s m args below meth c H locs ls hC hP hS hl)
theorem AW.getI {idx ci j b : Nat} (lk : LK M.1.cls idx ci j) (hk : cTag b = ci) (hf : (fk ci)[j]? = some 0) (hci : ci < 20) (hd : decode M.2.1 pc = .ok (.getfield idx, 3)) {q : Nat} (hq : pc + 3 = q) (k : AW l G d M r τ q L (.int (σ.1 b j) :: st) σ) : AW l G d M r τ pc L (.ref b :: st) σ := by
  intro p e s m args below meth c H locs ls hC hP hS hl
  obtain ⟨hx, hb, hml, hown, hts, hlk, hrt, hK, hG, hN⟩ := id hC
  subst hq
  obtain ⟨C, T, N, hcl, hj, hin, hw⟩ := lk
  have he : (Wd G σ)[b]? = some (G.2.1 b, .inr (ci, cFs G (σ.1 b) (σ.2 b) b)) := by rw [Wd_at (cTag_lt hk (by omega)), cCell, cEl_O hk hci]
  have hv : (cFs G (σ.1 b) (σ.2 b) b)[j]? = some (.int (σ.1 b j)) := by exact cFs_at hk hf
  rcases hw with hw | ⟨host, hw⟩
  · exact va_get hx hb hts hin hown hK hP b he hcl j hj (hts _ hw) (fun _ h => h) hv hd (k p e s m args below meth c H locs ls hC hP hS hl)
  · exact va_getN hx hb hts hin hown hK hP b he hcl j hj (va_Nw.use rfl (hN _ hw)) (fun _ h => h) hv hd (k p e s m args below meth c H locs ls hC hP hS hl)
theorem AW.getJ {idx ci j b : Nat} (lk : LK M.1.cls idx ci j) (hk : cTag b = ci) (hf : (fk ci)[j]? = some 1) (hci : ci < 20) (hd : decode M.2.1 pc = .ok (.getfield idx, 3)) {q : Nat} (hq : pc + 3 = q) (k : AW l G d M r τ q L (.long (σ.2 b j) :: st) σ) : AW l G d M r τ pc L (.ref b :: st) σ := by
  intro p e s m args below meth c H locs ls hC hP hS hl
  obtain ⟨hx, hb, hml, hown, hts, hlk, hrt, hK, hG, hN⟩ := id hC
  subst hq
  obtain ⟨C, T, N, hcl, hj, hin, hw⟩ := lk
  have he : (Wd G σ)[b]? = some (G.2.1 b, .inr (ci, cFs G (σ.1 b) (σ.2 b) b)) := by rw [Wd_at (cTag_lt hk (by omega)), cCell, cEl_O hk hci]
  have hv : (cFs G (σ.1 b) (σ.2 b) b)[j]? = some (.long (σ.2 b j)) := by exact cFs_at hk hf
  rcases hw with hw | ⟨host, hw⟩
  · exact va_get hx hb hts hin hown hK hP b he hcl j hj (hts _ hw) (fun _ h => h) hv hd (k p e s m args below meth c H locs ls hC hP hS hl)
  · exact va_getN hx hb hts hin hown hK hP b he hcl j hj (va_Nw.use rfl (hN _ hw)) (fun _ h => h) hv hd (k p e s m args below meth c H locs ls hC hP hS hl)
theorem AW.getR {idx ci j b : Nat} {z : Nat} (lk : LK M.1.cls idx ci j) (hk : cTag b = ci) (hf : (fk ci)[j]? = some 2) (hci : ci < 20) (hr : cRef b j = z) (hd : decode M.2.1 pc = .ok (.getfield idx, 3)) {q : Nat} (hq : pc + 3 = q) (k : AW l G d M r τ q L (.ref z :: st) σ) : AW l G d M r τ pc L (.ref b :: st) σ := by
  intro p e s m args below meth c H locs ls hC hP hS hl
  obtain ⟨hx, hb, hml, hown, hts, hlk, hrt, hK, hG, hN⟩ := id hC
  subst hq
  obtain ⟨C, T, N, hcl, hj, hin, hw⟩ := lk
  have he : (Wd G σ)[b]? = some (G.2.1 b, .inr (ci, cFs G (σ.1 b) (σ.2 b) b)) := by rw [Wd_at (cTag_lt hk (by omega)), cCell, cEl_O hk hci]
  have hv : (cFs G (σ.1 b) (σ.2 b) b)[j]? = some (.ref (G.2.1 z)) := by rw [← hr]; exact cFs_at hk hf
  rcases hw with hw | ⟨host, hw⟩
  · exact va_get hx hb hts hin hown hK hP b he hcl j hj (hts _ hw) (fun _ h => h) hv hd (k p e s m args below meth c H locs ls hC hP hS hl)
  · exact va_getN hx hb hts hin hown hK hP b he hcl j hj (va_Nw.use rfl (hN _ hw)) (fun _ h => h) hv hd (k p e s m args below meth c H locs ls hC hP hS hl)
theorem AW.putI {idx ci j b : Nat} {v : Int32} (lp : LPt M.1.cls idx ci j .int) (hk : cTag b = ci) (hf : (fk ci)[j]? = some 0) (hci : ci < 20) (hd : decode M.2.1 pc = .ok (.putfield idx, 3)) {q : Nat} (hq : pc + 3 = q) (k : AW l G d M r τ q L st (sI σ b j v)) : AW l G d M r τ pc L (.int v :: .ref b :: st) σ := by
  intro p e s m args below meth c H locs ls hC hP hS hl
  obtain ⟨hx, hb, hml, hown, hts, hlk, hrt, hK, hG, hN⟩ := id hC
  subst hq
  obtain ⟨C, T, N, ty0, hcl, hj, hin, hw, hty, hnm, hfin, hpd⟩ := lp
  have hbk := cTag_lt hk (by omega : ci < 99)
  have he : (Wd G σ)[b]? = some (G.2.1 b, .inr (ci, cFs G (σ.1 b) (σ.2 b) b)) := by rw [Wd_at hbk, cCell, cEl_O hk hci]
  have hlen : j < (cFs G (σ.1 b) (σ.2 b) b).length := by rw [cFs_len hk]; exact (List.getElem?_eq_some_iff.mp hf).1
  have ew : (Wd G σ).set b (G.2.1 b, .inr (ci, (cFs G (σ.1 b) (σ.2 b) b).set j (.int v))) = Wd G (sI σ b j v) := Wd_put hbk (fun i hi => sI_ne hi) (by rw [cEl_O hk hci, cFs_setI hk hf, sI_at]; rfl)
  have kk : ∀ (H1 : Heap) (locs1 : List Loc), va_P G.1 vwCl ((Wd G σ).set b (G.2.1 b, .inr (ci, (cFs G (σ.1 b) (σ.2 b) b).set j (.int v)))) H1 → va_D (Ab G) ((Wd G σ).set b (G.2.1 b, .inr (ci, (cFs G (σ.1 b) (σ.2 b) b).set j (.int v)))) → va_S (Ab G) s.heap H1 locs1 → W p l e (rmD d) s m args below meth c H1 locs1 0 0 (MQ below (Qq G r τ) args s 0 0 (Ab G)) (F0 m (pc + 3) ls (st.map (cv G.2.1))) := fun H1 locs1 hP1 _ hS1 => k p e s m args below meth c H1 locs1 ls hC (by rw [← ew]; exact hP1) hS1 hl
  rcases hw with hw | ⟨host, hw⟩
  · exact va_put hx hb hts hin ty0 hty hnm hown hK hP (Wd_D hG) hS b he hcl j hj (hts _ hw) (fun _ h => h) hfin hpd rfl rfl hlen hd kk
  · exact va_putN hx hb hts hin ty0 hty hnm hown hK hP (Wd_D hG) hS b he hcl j hj (va_Nw.use rfl (hN _ hw)) (fun _ h => h) hfin hpd rfl rfl hlen hd kk
theorem AW.putJ {idx ci j b : Nat} {v : Int64} (lp : LPt M.1.cls idx ci j .long) (hk : cTag b = ci) (hf : (fk ci)[j]? = some 1) (hci : ci < 20) (hd : decode M.2.1 pc = .ok (.putfield idx, 3)) {q : Nat} (hq : pc + 3 = q) (k : AW l G d M r τ q L st (sJ σ b j v)) : AW l G d M r τ pc L (.long v :: .ref b :: st) σ := by
  intro p e s m args below meth c H locs ls hC hP hS hl
  obtain ⟨hx, hb, hml, hown, hts, hlk, hrt, hK, hG, hN⟩ := id hC
  subst hq
  obtain ⟨C, T, N, ty0, hcl, hj, hin, hw, hty, hnm, hfin, hpd⟩ := lp
  have hbk := cTag_lt hk (by omega : ci < 99)
  have he : (Wd G σ)[b]? = some (G.2.1 b, .inr (ci, cFs G (σ.1 b) (σ.2 b) b)) := by rw [Wd_at hbk, cCell, cEl_O hk hci]
  have hlen : j < (cFs G (σ.1 b) (σ.2 b) b).length := by rw [cFs_len hk]; exact (List.getElem?_eq_some_iff.mp hf).1
  have ew : (Wd G σ).set b (G.2.1 b, .inr (ci, (cFs G (σ.1 b) (σ.2 b) b).set j (.long v))) = Wd G (sJ σ b j v) := Wd_put hbk (fun i hi => sJ_ne hi) (by rw [cEl_O hk hci, cFs_setJ hk hf, sJ_at]; rfl)
  have kk : ∀ (H1 : Heap) (locs1 : List Loc), va_P G.1 vwCl ((Wd G σ).set b (G.2.1 b, .inr (ci, (cFs G (σ.1 b) (σ.2 b) b).set j (.long v)))) H1 → va_D (Ab G) ((Wd G σ).set b (G.2.1 b, .inr (ci, (cFs G (σ.1 b) (σ.2 b) b).set j (.long v)))) → va_S (Ab G) s.heap H1 locs1 → W p l e (rmD d) s m args below meth c H1 locs1 0 0 (MQ below (Qq G r τ) args s 0 0 (Ab G)) (F0 m (pc + 3) ls (st.map (cv G.2.1))) := fun H1 locs1 hP1 _ hS1 => k p e s m args below meth c H1 locs1 ls hC (by rw [← ew]; exact hP1) hS1 hl
  rcases hw with hw | ⟨host, hw⟩
  · exact va_put hx hb hts hin ty0 hty hnm hown hK hP (Wd_D hG) hS b he hcl j hj (hts _ hw) (fun _ h => h) hfin hpd rfl rfl hlen hd kk
  · exact va_putN hx hb hts hin ty0 hty hnm hown hK hP (Wd_D hG) hS b he hcl j hj (va_Nw.use rfl (hN _ hw)) (fun _ h => h) hfin hpd rfl rfl hlen hd kk
theorem AW.putZ {idx ci j b : Nat} {v : Int32} (lp : LPt M.1.cls idx ci j .boolean) (hk : cTag b = ci) (hf : (fk ci)[j]? = some 0) (hci : ci < 20) (hz : v = 0 ∨ v = 1) (hd : decode M.2.1 pc = .ok (.putfield idx, 3)) {q : Nat} (hq : pc + 3 = q) (k : AW l G d M r τ q L st (sI σ b j v)) : AW l G d M r τ pc L (.int v :: .ref b :: st) σ := by
  intro p e s m args below meth c H locs ls hC hP hS hl
  obtain ⟨hx, hb, hml, hown, hts, hlk, hrt, hK, hG, hN⟩ := id hC
  subst hq
  obtain ⟨C, T, N, ty0, hcl, hj, hin, hw, hty, hnm, hfin, hpd⟩ := lp
  have hbk := cTag_lt hk (by omega : ci < 99)
  have he : (Wd G σ)[b]? = some (G.2.1 b, .inr (ci, cFs G (σ.1 b) (σ.2 b) b)) := by rw [Wd_at hbk, cCell, cEl_O hk hci]
  have hlen : j < (cFs G (σ.1 b) (σ.2 b) b).length := by rw [cFs_len hk]; exact (List.getElem?_eq_some_iff.mp hf).1
  have ew : (Wd G σ).set b (G.2.1 b, .inr (ci, (cFs G (σ.1 b) (σ.2 b) b).set j (.int v))) = Wd G (sI σ b j v) := Wd_put hbk (fun i hi => sI_ne hi) (by rw [cEl_O hk hci, cFs_setI hk hf, sI_at]; rfl)
  have kk : ∀ (H1 : Heap) (locs1 : List Loc), va_P G.1 vwCl ((Wd G σ).set b (G.2.1 b, .inr (ci, (cFs G (σ.1 b) (σ.2 b) b).set j (.int v)))) H1 → va_D (Ab G) ((Wd G σ).set b (G.2.1 b, .inr (ci, (cFs G (σ.1 b) (σ.2 b) b).set j (.int v)))) → va_S (Ab G) s.heap H1 locs1 → W p l e (rmD d) s m args below meth c H1 locs1 0 0 (MQ below (Qq G r τ) args s 0 0 (Ab G)) (F0 m (pc + 3) ls (st.map (cv G.2.1))) := fun H1 locs1 hP1 _ hS1 => k p e s m args below meth c H1 locs1 ls hC (by rw [← ew]; exact hP1) hS1 hl
  rcases hw with hw | ⟨host, hw⟩
  · exact va_put hx hb hts hin ty0 hty hnm hown hK hP (Wd_D hG) hS b he hcl j hj (hts _ hw) (fun _ h => h) hfin hpd (by rcases hz with rfl | rfl <;> rfl) (by rcases hz with rfl | rfl <;> rfl) hlen hd kk
  · exact va_putN hx hb hts hin ty0 hty hnm hown hK hP (Wd_D hG) hS b he hcl j hj (va_Nw.use rfl (hN _ hw)) (fun _ h => h) hfin hpd (by rcases hz with rfl | rfl <;> rfl) (by rcases hz with rfl | rfl <;> rfl) hlen hd kk
theorem AW.iaload {b : Nat} {i : Int32} (hk : cTag b = 20) (hin : inB i (cLen b) = true) (hd : decode M.2.1 pc = .ok (.iaload, 1)) {q : Nat} (hq : pc + 1 = q) (k : AW l G d M r τ q L (.int (σ.1 b i.toNatClampNeg) :: st) σ) : AW l G d M r τ pc L (.int i :: .ref b :: st) σ := by
  intro p e s m args below meth c H locs ls hC hP hS hl
  obtain ⟨hx, hb, hml, hown, hts, hlk, hrt, hK, hG, hN⟩ := id hC
  subst hq
  exact va_iald hx hb hK hP b 0 (by rw [Wd_at (cTag_lt hk (by omega)), cCell, cEl_I hk]) rfl (inB_in hin) hd (k p e s m args below meth c H locs ls hC hP hS hl)
theorem AW.laload {b : Nat} {i : Int32} (hk : cTag b = 21) (hin : inB i (cLen b) = true) (hd : decode M.2.1 pc = .ok (.laload, 1)) {q : Nat} (hq : pc + 1 = q) (k : AW l G d M r τ q L (.long (σ.2 b i.toNatClampNeg) :: st) σ) : AW l G d M r τ pc L (.int i :: .ref b :: st) σ := by
  intro p e s m args below meth c H locs ls hC hP hS hl
  obtain ⟨hx, hb, hml, hown, hts, hlk, hrt, hK, hG, hN⟩ := id hC
  subst hq
  exact va_lald hx hb hK hP b 1 (by rw [Wd_at (cTag_lt hk (by omega)), cCell, cEl_J hk]) rfl (inB_in hin) hd (k p e s m args below meth c H locs ls hC hP hS hl)
theorem AW.baload {b : Nat} {i : Int32} (hk : cTag b = 22) (hin : inB i (cLen b) = true) (hd : decode M.2.1 pc = .ok (.baload, 1)) {q : Nat} (hq : pc + 1 = q) (k : AW l G d M r τ q L (.int (σ.1 b i.toNatClampNeg) :: st) σ) : AW l G d M r τ pc L (.int i :: .ref b :: st) σ := by
  intro p e s m args below meth c H locs ls hC hP hS hl
  obtain ⟨hx, hb, hml, hown, hts, hlk, hrt, hK, hG, hN⟩ := id hC
  subst hq
  exact va_zald hx hb hK hP b 2 (by rw [Wd_at (cTag_lt hk (by omega)), cCell, cEl_Z hk]) rfl (inB_in hin) hd (k p e s m args below meth c H locs ls hC hP hS hl)
theorem AW.iastore {b : Nat} {i : Int32} {v : Int32} (hk : cTag b = 20) (hin : inB i (cLen b) = true) (hd : decode M.2.1 pc = .ok (.iastore, 1)) {q : Nat} (hq : pc + 1 = q) (k : AW l G d M r τ q L st (sI σ b i.toNatClampNeg v)) : AW l G d M r τ pc L (.int v :: .int i :: .ref b :: st) σ := by
  intro p e s m args below meth c H locs ls hC hP hS hl
  obtain ⟨hx, hb, hml, hown, hts, hlk, hrt, hK, hG, hN⟩ := id hC
  have hbk := cTag_lt hk (by omega : 20 < 99)
  subst hq
  refine va_iast hx hb hK hP (Wd_D hG) hS b 0 (by rw [Wd_at hbk, cCell, cEl_I hk]) rfl (inB_in hin) hd (fun H1 locs1 hP1 _ hS1 => k p e s m args below meth c H1 locs1 ls hC ?_ hS1 hl)
  rw [← Wd_put (σ := σ) (τ := sI σ b i.toNatClampNeg v) hbk (fun i hi => sI_ne hi) (by rw [cEl_I hk, sI_at])]
  exact hP1
theorem AW.lastore {b : Nat} {i : Int32} {v : Int64} (hk : cTag b = 21) (hin : inB i (cLen b) = true) (hd : decode M.2.1 pc = .ok (.lastore, 1)) {q : Nat} (hq : pc + 1 = q) (k : AW l G d M r τ q L st (sJ σ b i.toNatClampNeg v)) : AW l G d M r τ pc L (.long v :: .int i :: .ref b :: st) σ := by
  intro p e s m args below meth c H locs ls hC hP hS hl
  obtain ⟨hx, hb, hml, hown, hts, hlk, hrt, hK, hG, hN⟩ := id hC
  have hbk := cTag_lt hk (by omega : 21 < 99)
  subst hq
  refine va_last hx hb hK hP (Wd_D hG) hS b 1 (by rw [Wd_at hbk, cCell, cEl_J hk]) rfl (inB_in hin) hd (fun H1 locs1 hP1 _ hS1 => k p e s m args below meth c H1 locs1 ls hC ?_ hS1 hl)
  rw [← Wd_put (σ := σ) (τ := sJ σ b i.toNatClampNeg v) hbk (fun i hi => sJ_ne hi) (by rw [cEl_J hk, sJ_at])]
  exact hP1
theorem AW.bastore {b : Nat} {i : Int32} {v : Int32} (hk : cTag b = 22) (hin : inB i (cLen b) = true) (hd : decode M.2.1 pc = .ok (.bastore, 1)) {q : Nat} (hq : pc + 1 = q) (k : AW l G d M r τ q L st (sI σ b i.toNatClampNeg (v &&& 1))) : AW l G d M r τ pc L (.int v :: .int i :: .ref b :: st) σ := by
  intro p e s m args below meth c H locs ls hC hP hS hl
  obtain ⟨hx, hb, hml, hown, hts, hlk, hrt, hK, hG, hN⟩ := id hC
  have hbk := cTag_lt hk (by omega : 22 < 99)
  subst hq
  refine va_zast hx hb hK hP (Wd_D hG) hS b 2 (by rw [Wd_at hbk, cCell, cEl_Z hk]) rfl (inB_in hin) hd (fun H1 locs1 hP1 _ hS1 => k p e s m args below meth c H1 locs1 ls hC ?_ hS1 hl)
  rw [← Wd_put (σ := σ) (τ := sI σ b i.toNatClampNeg (v &&& 1)) hbk (fun i hi => sI_ne hi) (by rw [cEl_Z hk, sI_at])]
  exact hP1
theorem AW.alen {b : Nat} {v : Int32} (hk : cTag b = 20) (hv : Int32.ofNat (cLen b) = v) (hd : decode M.2.1 pc = .ok (.arraylength, 1)) {q : Nat} (hq : pc + 1 = q) (k : AW l G d M r τ q L (.int v :: st) σ) : AW l G d M r τ pc L (.ref b :: st) σ := by
  intro p e s m args below meth c H locs ls hC hP hS hl
  obtain ⟨hx, hb, hml, hown, hts, hlk, hrt, hK, hG, hN⟩ := id hC
  subst hq
  exact va_alen hx hb hK hP b 0 (by rw [Wd_at (cTag_lt hk (by omega)), cCell, cEl_I hk]) rfl hv hd (k p e s m args below meth c H locs ls hC hP hS hl)
theorem AW.callV {M' : Mth} {n idx b ci N d' : Nat} {T : u_T} {As rest : List Value} {r' : Option Value} {σ' : Mm} (lm : LMV M.1.cls idx M' n) (hM : MR l G d' M' (.ref b :: As) σ r' σ') (hdd : d' + 1 ≤ d) (h45 : M'.2.2.1 ≤ 45) (hb : cTag b = ci) (hc : vwCl[ci]? = some (M'.1.cls, T, N)) (hci : ci < 20) (hn : As.length = n) (hst : st = As.reverse ++ .ref b :: rest) (hr : (rest.map fun v => v.category).sum ≤ 8) (hd : decode M.2.1 pc = .ok (.invokevirtual idx, 3)) {q : Nat} (hq : pc + 3 = q) {st' : List Value} (hs : r'.toList ++ rest = st') (k : AW l G d M r τ q L st' σ') : AW l G d M r τ pc L st σ := by
  intro p e s m args below meth c H locs ls hC hP hS hl
  obtain ⟨hx, hbt, hml, hown, hts, hlk, hrt, hK, hG, hN⟩ := id hC
  subst hst
  subst hq
  subst hs
  have he : (Wd G σ)[b]? = some (G.2.1 b, .inr (ci, cFs G (σ.1 b) (σ.2 b) b)) := by rw [Wd_at (cTag_lt hb (by omega)), cCell, cEl_O hb hci]
  obtain ⟨lb, l1, l2, l3⟩ := lm
  have run := va_runV (p := p) (l := l) (e := e) (R := rmD d) (s := s) (m := m) (args := args) (below := below) (meth := meth) (c := c) (H := H) (locs := locs) (cells := 0) (slots := 0) (C := M'.1.cls) (b := G.2.1 b) (As := As.map (cv G.2.1)) (rest := rest.map (cv G.2.1)) (g := F0 m pc ls ((As.reverse ++ Value.ref b :: rest).map (cv G.2.1))) (Ts := lwt) ⟨hx, hbt, hml, hown, hts⟩ hM
    ⟨callB_of n hts (mWs_good lb) rfl rfl rfl (hts _ lb.2.1) (hts _ l1) lb.2.2 ⟨by show d' + 1 ≤ d; exact hdd, by show 8 + (M'.2.2.1 + 11) + 64 * d' ≤ 64 * d; omega⟩, hts _ l2, hts _ l3⟩
    ⟨Pq_blind G _ σ, va_recv hK hP hc he, fun U hU hW => ⟨rfl, hG, by rw [hU]; exact hP, va_K.moved hW.alike hK, NW.warm hW hN⟩⟩ rfl (by rw [List.length_map]; exact hn) hl.1 (by show (As.reverse ++ Value.ref b :: rest).map (cv G.2.1) = _; rw [List.map_append, List.map_reverse]; rfl) (lv_room (by rw [show (rest.map (cv G.2.1)).map (fun v => v.category) = rest.map (fun v => v.category) from by rw [List.map_map]; exact List.map_congr_left (fun v _ => cv_cat _ v)]; exact hr)) hd ⟨Nat.zero_le _, Nat.zero_le _⟩
  intro T hT X
  obtain ⟨v, st0, t, T', Lc, h0, X', hL, e1, e2, ⟨hv, hPt, hz, hkp⟩, go⟩ := run T hT X
  have hv' : v = r'.map (cv G.2.1) := by injection hv
  subst hv'
  rw [h0] at hz hkp
  obtain ⟨t2, a1, b1⟩ := k p e s m args below meth c T'.heap (locs ++ Lc) ls hC (by rw [e1]; exact hPt)
    ⟨Nat.le_trans hS.1 (by rw [e1]; exact hz), fun q h1 h2 => by rw [e1, hkp q (Nat.lt_of_lt_of_le h1 hS.1) h2]; exact hS.2.1 q h1 h2, fun q hq => by
      rcases List.mem_append.mp hq with h | h
      · exact hS.2.2 q h
      · exact hL q h⟩ hl T' rfl X'
  refine ⟨t2, go t2 ?_, b1⟩
  have es : (r'.map (cv G.2.1)).toList ++ rest.map (cv G.2.1) = (r'.toList ++ rest).map (cv G.2.1) := by cases r' <;> rfl
  rw [es]
  exact a1
theorem AW.callS {M' : Mth} {n idx d' : Nat} {As rest : List Value} {r' : Option Value} {σ' : Mm} (lm : LMS M.1.cls idx M' n) (hM : MR l G d' M' As σ r' σ') (hdd : d' + 1 ≤ d) (h45 : M'.2.2.1 ≤ 45) (hn : As.length = n) (hst : st = As.reverse ++ rest) (hr : (rest.map fun v => v.category).sum ≤ 8) (hd : decode M.2.1 pc = .ok (.invokestatic idx, 3)) {q : Nat} (hq : pc + 3 = q) {st' : List Value} (hs : r'.toList ++ rest = st') (k : AW l G d M r τ q L st' σ') : AW l G d M r τ pc L st σ := by
  intro p e s m args below meth c H locs ls hC hP hS hl
  obtain ⟨hx, hbt, hml, hown, hts, hlk, hrt, hK, hG, hN⟩ := id hC
  subst hst
  subst hq
  subst hs
  obtain ⟨lb, l1, l2⟩ := lm
  have hrm : (rmD d').frames + 1 ≤ (rmD d).frames ∧ 8 + (M'.2.2.1 + 11) + (rmD d').locals ≤ (rmD d).locals := ⟨by show d' + 1 ≤ d; exact hdd, by show 8 + (M'.2.2.1 + 11) + 64 * d' ≤ 64 * d; omega⟩
  have run := va_runS (p := p) (l := l) (e := e) (R := rmD d) (s := s) (m := m) (args := args) (below := below) (meth := meth) (c := c) (H := H) (locs := locs) (cells := 0) (slots := 0) (As := As.map (cv G.2.1)) (rest := rest.map (cv G.2.1)) (g := F0 m pc ls ((As.reverse ++ rest).map (cv G.2.1))) (Ts := lwt) ⟨hx, hbt, hml, hown, hts⟩ hM
    ⟨callB_of n hts (mWs_good lb) rfl rfl rfl (hts _ lb.2.1) (hts _ l1) lb.2.2 hrm, hts _ l2⟩
    ⟨Pq_blind G _ σ, fun U hU hW => ⟨rfl, hG, by rw [hU]; exact hP, va_K.moved hW.alike hK, NW.warm hW hN⟩⟩ rfl (by rw [List.length_map]; exact hn) hl.1 (by show (As.reverse ++ rest).map (cv G.2.1) = _; rw [List.map_append, List.map_reverse]) (lv_room (by rw [show (rest.map (cv G.2.1)).map (fun v => v.category) = rest.map (fun v => v.category) from by rw [List.map_map]; exact List.map_congr_left (fun v _ => cv_cat _ v)]; exact hr)) hd ⟨Nat.zero_le _, Nat.zero_le _⟩
  intro T hT X
  obtain ⟨v, st0, t, T', Lc, h0, X', hL, e1, e2, ⟨hv, hPt, hz, hkp⟩, go⟩ := run T hT X
  have hv' : v = r'.map (cv G.2.1) := by injection hv
  subst hv'
  rw [h0] at hz hkp
  obtain ⟨t2, a1, b1⟩ := k p e s m args below meth c T'.heap (locs ++ Lc) ls hC (by rw [e1]; exact hPt)
    ⟨Nat.le_trans hS.1 (by rw [e1]; exact hz), fun q h1 h2 => by rw [e1, hkp q (Nat.lt_of_lt_of_le h1 hS.1) h2]; exact hS.2.1 q h1 h2, fun q hq => by
      rcases List.mem_append.mp hq with h | h
      · exact hS.2.2 q h
      · exact hL q h⟩ hl T' rfl X'
  refine ⟨t2, go t2 ?_, b1⟩
  have es : (r'.map (cv G.2.1)).toList ++ rest.map (cv G.2.1) = (r'.toList ++ rest).map (cv G.2.1) := by cases r' <;> rfl
  rw [es]
  exact a1
theorem AW.callN {M' : Mth} {n idx d' : Nat} {As rest : List Value} {r' : Option Value} {σ' : Mm} (lm : LMN M.1.cls idx M' n) (hM : MR l G d' M' As σ r' σ') (hdd : d' + 1 ≤ d) (h45 : M'.2.2.1 ≤ 45) (hn : As.length = n) (hst : st = As.reverse ++ rest) (hr : (rest.map fun v => v.category).sum ≤ 8) (hd : decode M.2.1 pc = .ok (.invokestatic idx, 3)) {q : Nat} (hq : pc + 3 = q) {st' : List Value} (hs : r'.toList ++ rest = st') (k : AW l G d M r τ q L st' σ') : AW l G d M r τ pc L st σ := by
  intro p e s m args below meth c H locs ls hC hP hS hl
  obtain ⟨hx, hbt, hml, hown, hts, hlk, hrt, hK, hG, hN⟩ := id hC
  subst hst
  subst hq
  subst hs
  obtain ⟨lb, ⟨host, l1⟩, l2⟩ := lm
  have hrm : (rmD d').frames + 1 ≤ (rmD d).frames ∧ 8 + (M'.2.2.1 + 11) + (rmD d').locals ≤ (rmD d).locals := ⟨by show d' + 1 ≤ d; exact hdd, by show 8 + (M'.2.2.1 + 11) + 64 * d' ≤ 64 * d; omega⟩
  have run := va_runSN (p := p) (l := l) (e := e) (R := rmD d) (s := s) (m := m) (args := args) (below := below) (meth := meth) (c := c) (H := H) (locs := locs) (cells := 0) (slots := 0) (As := As.map (cv G.2.1)) (rest := rest.map (cv G.2.1)) (g := F0 m pc ls ((As.reverse ++ rest).map (cv G.2.1))) (Ts := lwt) ⟨hx, hbt, hml, hown, hts⟩ hM
    ⟨va_cnB n hts (mWs_good lb) rfl rfl rfl (hN _ l1) (hts _ lb.2.1) lb.2.2 hrm, hts _ l2, trivial⟩
    ⟨Pq_blind G _ σ, fun U hU hW => ⟨rfl, hG, by rw [hU]; exact hP, va_K.moved hW.alike hK, NW.warm hW hN⟩⟩ rfl (by rw [List.length_map]; exact hn) hl.1 (by show (As.reverse ++ rest).map (cv G.2.1) = _; rw [List.map_append, List.map_reverse]) (lv_room (by rw [show (rest.map (cv G.2.1)).map (fun v => v.category) = rest.map (fun v => v.category) from by rw [List.map_map]; exact List.map_congr_left (fun v _ => cv_cat _ v)]; exact hr)) hd ⟨Nat.zero_le _, Nat.zero_le _⟩
  intro T hT X
  obtain ⟨v, st0, t, T', Lc, h0, X', hL, e1, e2, ⟨hv, hPt, hz, hkp⟩, go⟩ := run T hT X
  have hv' : v = r'.map (cv G.2.1) := by injection hv
  subst hv'
  rw [h0] at hz hkp
  obtain ⟨t2, a1, b1⟩ := k p e s m args below meth c T'.heap (locs ++ Lc) ls hC (by rw [e1]; exact hPt)
    ⟨Nat.le_trans hS.1 (by rw [e1]; exact hz), fun q h1 h2 => by rw [e1, hkp q (Nat.lt_of_lt_of_le h1 hS.1) h2]; exact hS.2.1 q h1 h2, fun q hq => by
      rcases List.mem_append.mp hq with h | h
      · exact hS.2.2 q h
      · exact hL q h⟩ hl T' rfl X'
  refine ⟨t2, go t2 ?_, b1⟩
  have es : (r'.map (cv G.2.1)).toList ++ rest.map (cv G.2.1) = (r'.toList ++ rest).map (cv G.2.1) := by cases r' <;> rfl
  rw [es]
  exact a1
theorem AW.ireturn {v : Int32} (hr : M.2.2.2 = some .int) (hd : decode M.2.1 pc = .ok (.ireturn, 1)) : AW l G d M (some (.int v)) σ pc L [.int v] σ := by
  intro p e s m args below meth c H locs ls hC hP hS hl
  exact W.iret (v := v) hC.1 hC.2.1 (hC.2.2.2.2.2.2.1.trans hr) (fun t ht hW => ⟨rfl, by rw [ht]; exact hP, hS.F ht⟩) hS.2.2 hd hC.2.2.2.2.2.1
theorem AW.zreturn {v : Int32} (hr : M.2.2.2 = some .boolean) (hv : v &&& 1 = v) (hd : decode M.2.1 pc = .ok (.ireturn, 1)) : AW l G d M (some (.int v)) σ pc L [.int v] σ := by
  intro p e s m args below meth c H locs ls hC hP hS hl
  exact W.zret (v := v) hC.1 hC.2.1 (hC.2.2.2.2.2.2.1.trans hr) (by show Value.int (v &&& 1) = _; rw [hv]) (fun t ht hW => ⟨rfl, by rw [ht]; exact hP, hS.F ht⟩) hS.2.2 hd hC.2.2.2.2.2.1
theorem AW.lreturn {v : Int64} (hr : M.2.2.2 = some .long) (hd : decode M.2.1 pc = .ok (.lreturn, 1)) : AW l G d M (some (.long v)) σ pc L [.long v] σ := by
  intro p e s m args below meth c H locs ls hC hP hS hl
  exact W.lret (v := v) hC.1 hC.2.1 (hC.2.2.2.2.2.2.1.trans hr) (fun t ht hW => ⟨rfl, by rw [ht]; exact hP, hS.F ht⟩) hS.2.2 hd hC.2.2.2.2.2.1
theorem AW.vreturn (hr : M.2.2.2 = none) (hd : decode M.2.1 pc = .ok (.return_, 1)) : AW l G d M none σ pc L [] σ := by
  intro p e s m args below meth c H locs ls hC hP hS hl
  exact W.vret hC.1 hC.2.1 (hC.2.2.2.2.2.2.1.trans hr) (fun t ht hW => ⟨rfl, by rw [ht]; exact hP, hS.F ht⟩) hS.2.2 hd hC.2.2.2.2.2.1
theorem AW.areturn {v : Value} {n : String} (hr : M.2.2.2 = some (.object n)) (hv : v = .null ∨ ∃ a, v = .ref a) (hd : decode M.2.1 pc = .ok (.areturn, 1)) : AW l G d M (some v) σ pc L [v] σ := by
  intro p e s m args below meth c H locs ls hC hP hS hl
  exact W.aret (v := cv G.2.1 v) hC.1 hC.2.1 (hC.2.2.2.2.2.2.1.trans hr) (Or.inl ⟨n, rfl⟩) (by rcases hv with rfl | ⟨a, rfl⟩; exact Or.inl rfl; exact Or.inr ⟨_, rfl⟩) (fun t ht hW => ⟨rfl, by rw [ht]; exact hP, hS.F ht⟩) hS.2.2 hd hC.2.2.2.2.2.1
theorem AW.nmI {a x : Int32} (e : x = a) (k : AW l G d M r τ pc L (.int x :: st) σ) : AW l G d M r τ pc L (.int a :: st) σ := by subst e; exact k
theorem AW.nmJ {a x : Int64} (e : x = a) (k : AW l G d M r τ pc L (.long x :: st) σ) : AW l G d M r τ pc L (.long a :: st) σ := by subst e; exact k
theorem AW.nmM {ρ : Mm} (e : ρ = σ) (k : AW l G d M r τ pc L st ρ) : AW l G d M r τ pc L st σ := by subst e; exact k
end AWR
def bnd {α β : Type} (a : α) (f : α → Option β) : Option β := f a
theorem bnd_s {α β : Type} {a : α} {f : α → Option β} {y : β} (h : bnd a f = some y) : ∃ x, x = a ∧ f x = some y := ⟨a, rfl, h⟩
def b1 {α β : Type} (a : Option α) (f : α → Option β) : Option β := match a with
  | none => none
  | some x => f x
def b2 {α β : Type} (a : Option (α × Mm)) (f : α → Mm → Option β) : Option β := match a with
  | none => none
  | some x => f x.1 x.2
theorem b1_s {α β : Type} {a : Option α} {f : α → Option β} {y : β} (h : b1 a f = some y) : ∃ x, a = some x ∧ f x = some y := by
  cases a with
  | none => cases h
  | some x => exact ⟨x, rfl, h⟩
theorem b2_s {α β : Type} {a : Option (α × Mm)} {f : α → Mm → Option β} {y : β} (h : b2 a f = some y) : ∃ x ρ, a = some (x, ρ) ∧ f x ρ = some y := by
  cases a with
  | none => cases h
  | some x => exact ⟨x.1, x.2, rfl, h⟩
theorem ifp {β : Type} {c : Prop} [Decidable c] {A B : Option β} {y : β} (hc : c) (h : (if c then A else B) = some y) : A = some y := by rw [if_pos hc] at h; exact h
theorem ifn {β : Type} {c : Prop} [Decidable c] {A B : Option β} {y : β} (hc : ¬ c) (h : (if c then A else B) = some y) : B = some y := by rw [if_neg hc] at h; exact h
def oc {β : Type} (o : Option Nat) (A : Option β) (B : Nat → Option β) : Option β := match o with
  | none => A
  | some k => B k
def rv (o : Option Nat) : Value := match o with
  | none => .null
  | some k => .ref k
theorem no_some {α : Type} {y : α} {P : Prop} (h : (none : Option α) = some y) : P := by cases h
theorem tab_out (x : Int32) (n : Nat) (h : ∀ i : Nat, i ≤ n → ¬ x = nI i) (hn : n < 1000) : x.toInt < 0 ∨ (n : Int) < x.toInt := by
  by_cases q : x.toInt < 0
  · exact Or.inl q
  · by_cases q2 : (n : Int) < x.toInt
    · exact Or.inr q2
    · exfalso
      refine h x.toInt.toNat (by omega) ?_
      apply Int32.toInt_inj.mp
      rw [nI_toInt (by omega)]
      omega
end
