section
-- ===== PART A: goes FIRST, ahead of the names: the tables' words, and 'selects' of the private methods out of them =====
/-- a private method of a class that the tables say can be made, by its rows of tables_1 -/
def lw_okq (q : MethodName × Nat) : Prop := (q.1.cls ≠ "java/lang/invoke/MethodHandle" ∧ q.1.cls ≠ "java/lang/invoke/VarHandle") ∧ Cond.instantiable q.1.cls q.2 ∈ tables_1 ∧ Cond.privateMethod q.1 ∈ tables_1 ∧ Cond.instanceMethod q.1 ∈ tables_1
theorem lw_p0 : lw_okq (⟨"LampMural", "wrongIfFailed", "(I)I"⟩, 5) := ⟨⟨by decide +kernel, by decide +kernel⟩, List.mem_of_getElem? (i := 22) (by decide +kernel), List.mem_of_getElem? (i := 241) (by decide +kernel), List.mem_of_getElem? (i := 242) (by decide +kernel)⟩
theorem lw_p1 : lw_okq (⟨"LampMural$Dimmer", "shareOut", "(I)V"⟩, 8) := ⟨⟨by decide +kernel, by decide +kernel⟩, List.mem_of_getElem? (i := 112) (by decide +kernel), List.mem_of_getElem? (i := 313) (by decide +kernel), List.mem_of_getElem? (i := 314) (by decide +kernel)⟩
theorem lw_p2 : lw_okq (⟨"LampMural$Dimmer", "keepToLimits", "()V"⟩, 8) := ⟨⟨by decide +kernel, by decide +kernel⟩, List.mem_of_getElem? (i := 112) (by decide +kernel), List.mem_of_getElem? (i := 318) (by decide +kernel), List.mem_of_getElem? (i := 319) (by decide +kernel)⟩
theorem lw_p3 : lw_okq (⟨"LampMural$Dimmer", "balance", "(I)V"⟩, 8) := ⟨⟨by decide +kernel, by decide +kernel⟩, List.mem_of_getElem? (i := 112) (by decide +kernel), List.mem_of_getElem? (i := 326) (by decide +kernel), List.mem_of_getElem? (i := 327) (by decide +kernel)⟩
theorem lw_p4 : lw_okq (⟨"LampMural$Dimmer", "stateFor", "(I)I"⟩, 8) := ⟨⟨by decide +kernel, by decide +kernel⟩, List.mem_of_getElem? (i := 112) (by decide +kernel), List.mem_of_getElem? (i := 330) (by decide +kernel), List.mem_of_getElem? (i := 331) (by decide +kernel)⟩
theorem lw_p5 : lw_okq (⟨"LampMural$CommandText", "skipSpaces", "()V"⟩, 6) := ⟨⟨by decide +kernel, by decide +kernel⟩, List.mem_of_getElem? (i := 192) (by decide +kernel), List.mem_of_getElem? (i := 362) (by decide +kernel), List.mem_of_getElem? (i := 363) (by decide +kernel)⟩
theorem lw_p6 : lw_okq (⟨"LampMural$CommandText", "readWord", "()Z"⟩, 6) := ⟨⟨by decide +kernel, by decide +kernel⟩, List.mem_of_getElem? (i := 192) (by decide +kernel), List.mem_of_getElem? (i := 367) (by decide +kernel), List.mem_of_getElem? (i := 368) (by decide +kernel)⟩
theorem lw_p7 : lw_okq (⟨"LampMural$CommandText", "wordBetween", "(II)I"⟩, 6) := ⟨⟨by decide +kernel, by decide +kernel⟩, List.mem_of_getElem? (i := 192) (by decide +kernel), List.mem_of_getElem? (i := 374) (by decide +kernel), List.mem_of_getElem? (i := 375) (by decide +kernel)⟩
theorem lw_p8 : lw_okq (⟨"LampMural$CommandText", "isWord", "(Ljava/lang/String;II)Z"⟩, 6) := ⟨⟨by decide +kernel, by decide +kernel⟩, List.mem_of_getElem? (i := 192) (by decide +kernel), List.mem_of_getElem? (i := 379) (by decide +kernel), List.mem_of_getElem? (i := 380) (by decide +kernel)⟩
theorem lw_p9 : lw_okq (⟨"LampMural$CommandText", "failAt", "(I)Z"⟩, 6) := ⟨⟨by decide +kernel, by decide +kernel⟩, List.mem_of_getElem? (i := 192) (by decide +kernel), List.mem_of_getElem? (i := 438) (by decide +kernel), List.mem_of_getElem? (i := 439) (by decide +kernel)⟩
theorem lw_p10 : lw_okq (⟨"LampMural$CommandText", "readNumber", "(I)Z"⟩, 6) := ⟨⟨by decide +kernel, by decide +kernel⟩, List.mem_of_getElem? (i := 192) (by decide +kernel), List.mem_of_getElem? (i := 445) (by decide +kernel), List.mem_of_getElem? (i := 446) (by decide +kernel)⟩
theorem lw_p11 : lw_okq (⟨"LampMural$History", "latestSlot", "()LLampMural$Scene;"⟩, 3) := ⟨⟨by decide +kernel, by decide +kernel⟩, List.mem_of_getElem? (i := 172) (by decide +kernel), List.mem_of_getElem? (i := 457) (by decide +kernel), List.mem_of_getElem? (i := 458) (by decide +kernel)⟩
theorem lw_p12 : lw_okq (⟨"LampMural", "carryOut", "()Z"⟩, 5) := ⟨⟨by decide +kernel, by decide +kernel⟩, List.mem_of_getElem? (i := 22) (by decide +kernel), List.mem_of_getElem? (i := 472) (by decide +kernel), List.mem_of_getElem? (i := 473) (by decide +kernel)⟩
theorem lw_p13 : lw_okq (⟨"LampMural", "faultOfCommand", "(IIIII)I"⟩, 5) := ⟨⟨by decide +kernel, by decide +kernel⟩, List.mem_of_getElem? (i := 22) (by decide +kernel), List.mem_of_getElem? (i := 480) (by decide +kernel), List.mem_of_getElem? (i := 481) (by decide +kernel)⟩
theorem lw_p14 : lw_okq (⟨"LampMural", "faultOfPainting", "(IIIII)I"⟩, 5) := ⟨⟨by decide +kernel, by decide +kernel⟩, List.mem_of_getElem? (i := 22) (by decide +kernel), List.mem_of_getElem? (i := 488) (by decide +kernel), List.mem_of_getElem? (i := 489) (by decide +kernel)⟩
theorem lw_p15 : lw_okq (⟨"LampMural", "faultOfNewLamp", "(II)I"⟩, 5) := ⟨⟨by decide +kernel, by decide +kernel⟩, List.mem_of_getElem? (i := 22) (by decide +kernel), List.mem_of_getElem? (i := 496) (by decide +kernel), List.mem_of_getElem? (i := 497) (by decide +kernel)⟩
def lw_privs_1 : List (MethodName × Nat) := [(⟨"LampMural", "wrongIfFailed", "(I)I"⟩, 5), (⟨"LampMural$Dimmer", "shareOut", "(I)V"⟩, 8), (⟨"LampMural$Dimmer", "keepToLimits", "()V"⟩, 8), (⟨"LampMural$Dimmer", "balance", "(I)V"⟩, 8), (⟨"LampMural$Dimmer", "stateFor", "(I)I"⟩, 8), (⟨"LampMural$CommandText", "skipSpaces", "()V"⟩, 6), (⟨"LampMural$CommandText", "readWord", "()Z"⟩, 6), (⟨"LampMural$CommandText", "wordBetween", "(II)I"⟩, 6), (⟨"LampMural$CommandText", "isWord", "(Ljava/lang/String;II)Z"⟩, 6), (⟨"LampMural$CommandText", "failAt", "(I)Z"⟩, 6), (⟨"LampMural$CommandText", "readNumber", "(I)Z"⟩, 6), (⟨"LampMural$History", "latestSlot", "()LLampMural$Scene;"⟩, 3), (⟨"LampMural", "carryOut", "()Z"⟩, 5), (⟨"LampMural", "faultOfCommand", "(IIIII)I"⟩, 5), (⟨"LampMural", "faultOfPainting", "(IIIII)I"⟩, 5), (⟨"LampMural", "faultOfNewLamp", "(II)I"⟩, 5)]
theorem lw_r1 : ∀ q ∈ lw_privs_1, lw_okq q := List.forall_mem_cons.mpr ⟨lw_p0, List.forall_mem_cons.mpr ⟨lw_p1, List.forall_mem_cons.mpr ⟨lw_p2, List.forall_mem_cons.mpr ⟨lw_p3, List.forall_mem_cons.mpr ⟨lw_p4, List.forall_mem_cons.mpr ⟨lw_p5, List.forall_mem_cons.mpr ⟨lw_p6, List.forall_mem_cons.mpr ⟨lw_p7, List.forall_mem_cons.mpr ⟨lw_p8, List.forall_mem_cons.mpr ⟨lw_p9, List.forall_mem_cons.mpr ⟨lw_p10, List.forall_mem_cons.mpr ⟨lw_p11, List.forall_mem_cons.mpr ⟨lw_p12, List.forall_mem_cons.mpr ⟨lw_p13, List.forall_mem_cons.mpr ⟨lw_p14, List.forall_mem_cons.mpr ⟨lw_p15, fun _ h => absurd h List.not_mem_nil⟩⟩⟩⟩⟩⟩⟩⟩⟩⟩⟩⟩⟩⟩⟩⟩
theorem lw_p16 : lw_okq (⟨"LampMural", "faultOfCorner", "(IIII)I"⟩, 5) := ⟨⟨by decide +kernel, by decide +kernel⟩, List.mem_of_getElem? (i := 22) (by decide +kernel), List.mem_of_getElem? (i := 500) (by decide +kernel), List.mem_of_getElem? (i := 501) (by decide +kernel)⟩
theorem lw_p17 : lw_okq (⟨"LampMural", "faultOfLamp", "(I)I"⟩, 5) := ⟨⟨by decide +kernel, by decide +kernel⟩, List.mem_of_getElem? (i := 22) (by decide +kernel), List.mem_of_getElem? (i := 511) (by decide +kernel), List.mem_of_getElem? (i := 512) (by decide +kernel)⟩
theorem lw_p18 : lw_okq (⟨"LampMural", "burnHours", "(I)V"⟩, 5) := ⟨⟨by decide +kernel, by decide +kernel⟩, List.mem_of_getElem? (i := 22) (by decide +kernel), List.mem_of_getElem? (i := 549) (by decide +kernel), List.mem_of_getElem? (i := 550) (by decide +kernel)⟩
theorem lw_p19 : lw_okq (⟨"LampMural$Survey", "keepPlace", "()V"⟩, 6) := ⟨⟨by decide +kernel, by decide +kernel⟩, List.mem_of_getElem? (i := 106) (by decide +kernel), List.mem_of_getElem? (i := 562) (by decide +kernel), List.mem_of_getElem? (i := 563) (by decide +kernel)⟩
theorem lw_p20 : lw_okq (⟨"LampMural", "wholeValue", "(I)I"⟩, 5) := ⟨⟨by decide +kernel, by decide +kernel⟩, List.mem_of_getElem? (i := 22) (by decide +kernel), List.mem_of_getElem? (i := 602) (by decide +kernel), List.mem_of_getElem? (i := 603) (by decide +kernel)⟩
theorem lw_p21 : lw_okq (⟨"LampMural", "addLampTo", "(JI)J"⟩, 5) := ⟨⟨by decide +kernel, by decide +kernel⟩, List.mem_of_getElem? (i := 22) (by decide +kernel), List.mem_of_getElem? (i := 632) (by decide +kernel), List.mem_of_getElem? (i := 633) (by decide +kernel)⟩
theorem lw_p22 : lw_okq (⟨"LampMural", "lampValue", "(II)I"⟩, 5) := ⟨⟨by decide +kernel, by decide +kernel⟩, List.mem_of_getElem? (i := 22) (by decide +kernel), List.mem_of_getElem? (i := 636) (by decide +kernel), List.mem_of_getElem? (i := 637) (by decide +kernel)⟩
theorem lw_p23 : lw_okq (⟨"LampMural", "addPlaceTo", "(JI)J"⟩, 5) := ⟨⟨by decide +kernel, by decide +kernel⟩, List.mem_of_getElem? (i := 22) (by decide +kernel), List.mem_of_getElem? (i := 662) (by decide +kernel), List.mem_of_getElem? (i := 663) (by decide +kernel)⟩
theorem lw_p24 : lw_okq (⟨"LampMural", "placeValue", "(II)I"⟩, 5) := ⟨⟨by decide +kernel, by decide +kernel⟩, List.mem_of_getElem? (i := 22) (by decide +kernel), List.mem_of_getElem? (i := 666) (by decide +kernel), List.mem_of_getElem? (i := 667) (by decide +kernel)⟩
theorem lw_p25 : lw_okq (⟨"java/lang/Throwable", "fillInStackTrace", "(I)Ljava/lang/Throwable;"⟩, 6) := ⟨⟨by decide +kernel, by decide +kernel⟩, List.mem_of_getElem? (i := 746) (by decide +kernel), List.mem_of_getElem? (i := 744) (by decide +kernel), List.mem_of_getElem? (i := 745) (by decide +kernel)⟩
theorem lw_p26 : lw_okq (⟨"LampMural", "faultOfRectangle", "(IIIII)I"⟩, 5) := ⟨⟨by decide +kernel, by decide +kernel⟩, List.mem_of_getElem? (i := 22) (by decide +kernel), List.mem_of_getElem? (i := 843) (by decide +kernel), List.mem_of_getElem? (i := 844) (by decide +kernel)⟩
theorem lw_p27 : lw_okq (⟨"LampMural", "faultOfLampValue", "(III)I"⟩, 5) := ⟨⟨by decide +kernel, by decide +kernel⟩, List.mem_of_getElem? (i := 22) (by decide +kernel), List.mem_of_getElem? (i := 854) (by decide +kernel), List.mem_of_getElem? (i := 855) (by decide +kernel)⟩
theorem lw_p28 : lw_okq (⟨"LampMural", "faultOfPlace", "(II)I"⟩, 5) := ⟨⟨by decide +kernel, by decide +kernel⟩, List.mem_of_getElem? (i := 22) (by decide +kernel), List.mem_of_getElem? (i := 900) (by decide +kernel), List.mem_of_getElem? (i := 901) (by decide +kernel)⟩
theorem lw_p29 : lw_okq (⟨"LampMuralModel", "fails", "(I)I"⟩, 23) := ⟨⟨by decide +kernel, by decide +kernel⟩, List.mem_of_getElem? (i := 1001) (by decide +kernel), List.mem_of_getElem? (i := 1085) (by decide +kernel), List.mem_of_getElem? (i := 1086) (by decide +kernel)⟩
theorem lw_p30 : lw_okq (⟨"LampMuralModel", "tells", "(I)I"⟩, 23) := ⟨⟨by decide +kernel, by decide +kernel⟩, List.mem_of_getElem? (i := 1001) (by decide +kernel), List.mem_of_getElem? (i := 1089) (by decide +kernel), List.mem_of_getElem? (i := 1090) (by decide +kernel)⟩
theorem lw_p31 : lw_okq (⟨"LampMuralModel", "laysAside", "()V"⟩, 23) := ⟨⟨by decide +kernel, by decide +kernel⟩, List.mem_of_getElem? (i := 1001) (by decide +kernel), List.mem_of_getElem? (i := 1097) (by decide +kernel), List.mem_of_getElem? (i := 1098) (by decide +kernel)⟩
def lw_privs_2 : List (MethodName × Nat) := [(⟨"LampMural", "faultOfCorner", "(IIII)I"⟩, 5), (⟨"LampMural", "faultOfLamp", "(I)I"⟩, 5), (⟨"LampMural", "burnHours", "(I)V"⟩, 5), (⟨"LampMural$Survey", "keepPlace", "()V"⟩, 6), (⟨"LampMural", "wholeValue", "(I)I"⟩, 5), (⟨"LampMural", "addLampTo", "(JI)J"⟩, 5), (⟨"LampMural", "lampValue", "(II)I"⟩, 5), (⟨"LampMural", "addPlaceTo", "(JI)J"⟩, 5), (⟨"LampMural", "placeValue", "(II)I"⟩, 5), (⟨"java/lang/Throwable", "fillInStackTrace", "(I)Ljava/lang/Throwable;"⟩, 6), (⟨"LampMural", "faultOfRectangle", "(IIIII)I"⟩, 5), (⟨"LampMural", "faultOfLampValue", "(III)I"⟩, 5), (⟨"LampMural", "faultOfPlace", "(II)I"⟩, 5), (⟨"LampMuralModel", "fails", "(I)I"⟩, 23), (⟨"LampMuralModel", "tells", "(I)I"⟩, 23), (⟨"LampMuralModel", "laysAside", "()V"⟩, 23)]
theorem lw_r2 : ∀ q ∈ lw_privs_2, lw_okq q := List.forall_mem_cons.mpr ⟨lw_p16, List.forall_mem_cons.mpr ⟨lw_p17, List.forall_mem_cons.mpr ⟨lw_p18, List.forall_mem_cons.mpr ⟨lw_p19, List.forall_mem_cons.mpr ⟨lw_p20, List.forall_mem_cons.mpr ⟨lw_p21, List.forall_mem_cons.mpr ⟨lw_p22, List.forall_mem_cons.mpr ⟨lw_p23, List.forall_mem_cons.mpr ⟨lw_p24, List.forall_mem_cons.mpr ⟨lw_p25, List.forall_mem_cons.mpr ⟨lw_p26, List.forall_mem_cons.mpr ⟨lw_p27, List.forall_mem_cons.mpr ⟨lw_p28, List.forall_mem_cons.mpr ⟨lw_p29, List.forall_mem_cons.mpr ⟨lw_p30, List.forall_mem_cons.mpr ⟨lw_p31, fun _ h => absurd h List.not_mem_nil⟩⟩⟩⟩⟩⟩⟩⟩⟩⟩⟩⟩⟩⟩⟩⟩
theorem lw_p32 : lw_okq (⟨"LampMuralModel", "begins", "(II)I"⟩, 23) := ⟨⟨by decide +kernel, by decide +kernel⟩, List.mem_of_getElem? (i := 1001) (by decide +kernel), List.mem_of_getElem? (i := 1101) (by decide +kernel), List.mem_of_getElem? (i := 1102) (by decide +kernel)⟩
theorem lw_p33 : lw_okq (⟨"LampMuralModel", "ends", "(I)I"⟩, 23) := ⟨⟨by decide +kernel, by decide +kernel⟩, List.mem_of_getElem? (i := 1001) (by decide +kernel), List.mem_of_getElem? (i := 1108) (by decide +kernel), List.mem_of_getElem? (i := 1109) (by decide +kernel)⟩
theorem lw_p34 : lw_okq (⟨"LampMuralModel", "saves", "()V"⟩, 23) := ⟨⟨by decide +kernel, by decide +kernel⟩, List.mem_of_getElem? (i := 1001) (by decide +kernel), List.mem_of_getElem? (i := 1112) (by decide +kernel), List.mem_of_getElem? (i := 1113) (by decide +kernel)⟩
theorem lw_p35 : lw_okq (⟨"LampMuralModel", "paints", "(IIIII)I"⟩, 23) := ⟨⟨by decide +kernel, by decide +kernel⟩, List.mem_of_getElem? (i := 1001) (by decide +kernel), List.mem_of_getElem? (i := 1120) (by decide +kernel), List.mem_of_getElem? (i := 1121) (by decide +kernel)⟩
theorem lw_p36 : lw_okq (⟨"LampMuralModel", "isPlace", "(II)Z"⟩, 23) := ⟨⟨by decide +kernel, by decide +kernel⟩, List.mem_of_getElem? (i := 1001) (by decide +kernel), List.mem_of_getElem? (i := 1124) (by decide +kernel), List.mem_of_getElem? (i := 1125) (by decide +kernel)⟩
theorem lw_p37 : lw_okq (⟨"LampMuralModel", "target", "(II)I"⟩, 23) := ⟨⟨by decide +kernel, by decide +kernel⟩, List.mem_of_getElem? (i := 1001) (by decide +kernel), List.mem_of_getElem? (i := 1128) (by decide +kernel), List.mem_of_getElem? (i := 1129) (by decide +kernel)⟩
theorem lw_p38 : lw_okq (⟨"LampMuralModel", "adds", "(II)I"⟩, 23) := ⟨⟨by decide +kernel, by decide +kernel⟩, List.mem_of_getElem? (i := 1001) (by decide +kernel), List.mem_of_getElem? (i := 1136) (by decide +kernel), List.mem_of_getElem? (i := 1137) (by decide +kernel)⟩
theorem lw_p39 : lw_okq (⟨"LampMuralModel", "put", "(III)V"⟩, 23) := ⟨⟨by decide +kernel, by decide +kernel⟩, List.mem_of_getElem? (i := 1001) (by decide +kernel), List.mem_of_getElem? (i := 1140) (by decide +kernel), List.mem_of_getElem? (i := 1141) (by decide +kernel)⟩
theorem lw_p40 : lw_okq (⟨"LampMuralModel", "corners", "(IIII)I"⟩, 23) := ⟨⟨by decide +kernel, by decide +kernel⟩, List.mem_of_getElem? (i := 1001) (by decide +kernel), List.mem_of_getElem? (i := 1148) (by decide +kernel), List.mem_of_getElem? (i := 1149) (by decide +kernel)⟩
theorem lw_p41 : lw_okq (⟨"LampMuralModel", "isLamp", "(I)Z"⟩, 23) := ⟨⟨by decide +kernel, by decide +kernel⟩, List.mem_of_getElem? (i := 1001) (by decide +kernel), List.mem_of_getElem? (i := 1152) (by decide +kernel), List.mem_of_getElem? (i := 1153) (by decide +kernel)⟩
theorem lw_p42 : lw_okq (⟨"LampMuralModel", "isGood", "(I)Z"⟩, 23) := ⟨⟨by decide +kernel, by decide +kernel⟩, List.mem_of_getElem? (i := 1001) (by decide +kernel), List.mem_of_getElem? (i := 1159) (by decide +kernel), List.mem_of_getElem? (i := 1160) (by decide +kernel)⟩
theorem lw_p43 : lw_okq (⟨"LampMuralModel", "pointX", "(II)I"⟩, 23) := ⟨⟨by decide +kernel, by decide +kernel⟩, List.mem_of_getElem? (i := 1001) (by decide +kernel), List.mem_of_getElem? (i := 1163) (by decide +kernel), List.mem_of_getElem? (i := 1164) (by decide +kernel)⟩
theorem lw_p44 : lw_okq (⟨"LampMuralModel", "of", "(II)I"⟩, 23) := ⟨⟨by decide +kernel, by decide +kernel⟩, List.mem_of_getElem? (i := 1001) (by decide +kernel), List.mem_of_getElem? (i := 1167) (by decide +kernel), List.mem_of_getElem? (i := 1168) (by decide +kernel)⟩
theorem lw_p45 : lw_okq (⟨"LampMuralModel", "pointY", "(II)I"⟩, 23) := ⟨⟨by decide +kernel, by decide +kernel⟩, List.mem_of_getElem? (i := 1001) (by decide +kernel), List.mem_of_getElem? (i := 1171) (by decide +kernel), List.mem_of_getElem? (i := 1172) (by decide +kernel)⟩
theorem lw_p46 : lw_okq (⟨"LampMuralModel", "sums", "(I)V"⟩, 23) := ⟨⟨by decide +kernel, by decide +kernel⟩, List.mem_of_getElem? (i := 1001) (by decide +kernel), List.mem_of_getElem? (i := 1179) (by decide +kernel), List.mem_of_getElem? (i := 1180) (by decide +kernel)⟩
theorem lw_p47 : lw_okq (⟨"LampMuralModel", "shines", "(II)V"⟩, 23) := ⟨⟨by decide +kernel, by decide +kernel⟩, List.mem_of_getElem? (i := 1001) (by decide +kernel), List.mem_of_getElem? (i := 1183) (by decide +kernel), List.mem_of_getElem? (i := 1184) (by decide +kernel)⟩
def lw_privs_3 : List (MethodName × Nat) := [(⟨"LampMuralModel", "begins", "(II)I"⟩, 23), (⟨"LampMuralModel", "ends", "(I)I"⟩, 23), (⟨"LampMuralModel", "saves", "()V"⟩, 23), (⟨"LampMuralModel", "paints", "(IIIII)I"⟩, 23), (⟨"LampMuralModel", "isPlace", "(II)Z"⟩, 23), (⟨"LampMuralModel", "target", "(II)I"⟩, 23), (⟨"LampMuralModel", "adds", "(II)I"⟩, 23), (⟨"LampMuralModel", "put", "(III)V"⟩, 23), (⟨"LampMuralModel", "corners", "(IIII)I"⟩, 23), (⟨"LampMuralModel", "isLamp", "(I)Z"⟩, 23), (⟨"LampMuralModel", "isGood", "(I)Z"⟩, 23), (⟨"LampMuralModel", "pointX", "(II)I"⟩, 23), (⟨"LampMuralModel", "of", "(II)I"⟩, 23), (⟨"LampMuralModel", "pointY", "(II)I"⟩, 23), (⟨"LampMuralModel", "sums", "(I)V"⟩, 23), (⟨"LampMuralModel", "shines", "(II)V"⟩, 23)]
theorem lw_r3 : ∀ q ∈ lw_privs_3, lw_okq q := List.forall_mem_cons.mpr ⟨lw_p32, List.forall_mem_cons.mpr ⟨lw_p33, List.forall_mem_cons.mpr ⟨lw_p34, List.forall_mem_cons.mpr ⟨lw_p35, List.forall_mem_cons.mpr ⟨lw_p36, List.forall_mem_cons.mpr ⟨lw_p37, List.forall_mem_cons.mpr ⟨lw_p38, List.forall_mem_cons.mpr ⟨lw_p39, List.forall_mem_cons.mpr ⟨lw_p40, List.forall_mem_cons.mpr ⟨lw_p41, List.forall_mem_cons.mpr ⟨lw_p42, List.forall_mem_cons.mpr ⟨lw_p43, List.forall_mem_cons.mpr ⟨lw_p44, List.forall_mem_cons.mpr ⟨lw_p45, List.forall_mem_cons.mpr ⟨lw_p46, List.forall_mem_cons.mpr ⟨lw_p47, fun _ h => absurd h List.not_mem_nil⟩⟩⟩⟩⟩⟩⟩⟩⟩⟩⟩⟩⟩⟩⟩⟩
theorem lw_p48 : lw_okq (⟨"LampMuralModel", "weighs", "(II)V"⟩, 23) := ⟨⟨by decide +kernel, by decide +kernel⟩, List.mem_of_getElem? (i := 1001) (by decide +kernel), List.mem_of_getElem? (i := 1187) (by decide +kernel), List.mem_of_getElem? (i := 1188) (by decide +kernel)⟩
theorem lw_p49 : lw_okq (⟨"LampMuralModel", "weightAt", "(III)I"⟩, 23) := ⟨⟨by decide +kernel, by decide +kernel⟩, List.mem_of_getElem? (i := 1001) (by decide +kernel), List.mem_of_getElem? (i := 1191) (by decide +kernel), List.mem_of_getElem? (i := 1192) (by decide +kernel)⟩
theorem lw_p50 : lw_okq (⟨"LampMuralModel", "shares", "(I)V"⟩, 23) := ⟨⟨by decide +kernel, by decide +kernel⟩, List.mem_of_getElem? (i := 1001) (by decide +kernel), List.mem_of_getElem? (i := 1198) (by decide +kernel), List.mem_of_getElem? (i := 1199) (by decide +kernel)⟩
theorem lw_p51 : lw_okq (⟨"LampMuralModel", "isOn", "(I)Z"⟩, 23) := ⟨⟨by decide +kernel, by decide +kernel⟩, List.mem_of_getElem? (i := 1001) (by decide +kernel), List.mem_of_getElem? (i := 1202) (by decide +kernel), List.mem_of_getElem? (i := 1203) (by decide +kernel)⟩
theorem lw_p52 : lw_okq (⟨"LampMuralModel", "limit", "(I)I"⟩, 23) := ⟨⟨by decide +kernel, by decide +kernel⟩, List.mem_of_getElem? (i := 1001) (by decide +kernel), List.mem_of_getElem? (i := 1206) (by decide +kernel), List.mem_of_getElem? (i := 1207) (by decide +kernel)⟩
theorem lw_p53 : lw_okq (⟨"LampMuralModel", "floor", "(I)I"⟩, 23) := ⟨⟨by decide +kernel, by decide +kernel⟩, List.mem_of_getElem? (i := 1001) (by decide +kernel), List.mem_of_getElem? (i := 1210) (by decide +kernel), List.mem_of_getElem? (i := 1211) (by decide +kernel)⟩
theorem lw_p54 : lw_okq (⟨"LampMuralModel", "sumOfLights", "()I"⟩, 23) := ⟨⟨by decide +kernel, by decide +kernel⟩, List.mem_of_getElem? (i := 1001) (by decide +kernel), List.mem_of_getElem? (i := 1217) (by decide +kernel), List.mem_of_getElem? (i := 1218) (by decide +kernel)⟩
theorem lw_p55 : lw_okq (⟨"LampMuralModel", "works", "(IZ)I"⟩, 23) := ⟨⟨by decide +kernel, by decide +kernel⟩, List.mem_of_getElem? (i := 1001) (by decide +kernel), List.mem_of_getElem? (i := 1232) (by decide +kernel), List.mem_of_getElem? (i := 1233) (by decide +kernel)⟩
theorem lw_p56 : lw_okq (⟨"LampMuralModel", "shifts", "(II)I"⟩, 23) := ⟨⟨by decide +kernel, by decide +kernel⟩, List.mem_of_getElem? (i := 1001) (by decide +kernel), List.mem_of_getElem? (i := 1240) (by decide +kernel), List.mem_of_getElem? (i := 1241) (by decide +kernel)⟩
theorem lw_p57 : lw_okq (⟨"LampMuralModel", "wrongOnes", "()I"⟩, 23) := ⟨⟨by decide +kernel, by decide +kernel⟩, List.mem_of_getElem? (i := 1001) (by decide +kernel), List.mem_of_getElem? (i := 1244) (by decide +kernel), List.mem_of_getElem? (i := 1245) (by decide +kernel)⟩
theorem lw_p58 : lw_okq (⟨"LampMuralModel", "state", "(II)I"⟩, 23) := ⟨⟨by decide +kernel, by decide +kernel⟩, List.mem_of_getElem? (i := 1001) (by decide +kernel), List.mem_of_getElem? (i := 1248) (by decide +kernel), List.mem_of_getElem? (i := 1249) (by decide +kernel)⟩
theorem lw_p59 : lw_okq (⟨"LampMuralModel", "burns", "(I)I"⟩, 23) := ⟨⟨by decide +kernel, by decide +kernel⟩, List.mem_of_getElem? (i := 1001) (by decide +kernel), List.mem_of_getElem? (i := 1256) (by decide +kernel), List.mem_of_getElem? (i := 1257) (by decide +kernel)⟩
theorem lw_p60 : lw_okq (⟨"LampMuralModel", "load", "(I)I"⟩, 23) := ⟨⟨by decide +kernel, by decide +kernel⟩, List.mem_of_getElem? (i := 1001) (by decide +kernel), List.mem_of_getElem? (i := 1260) (by decide +kernel), List.mem_of_getElem? (i := 1261) (by decide +kernel)⟩
theorem lw_p61 : lw_okq (⟨"LampMuralModel", "placeOf", "(III)I"⟩, 23) := ⟨⟨by decide +kernel, by decide +kernel⟩, List.mem_of_getElem? (i := 1001) (by decide +kernel), List.mem_of_getElem? (i := 1268) (by decide +kernel), List.mem_of_getElem? (i := 1269) (by decide +kernel)⟩
theorem lw_p62 : lw_okq (⟨"LampMuralModel", "limits", "(Z)I"⟩, 23) := ⟨⟨by decide +kernel, by decide +kernel⟩, List.mem_of_getElem? (i := 1001) (by decide +kernel), List.mem_of_getElem? (i := 1272) (by decide +kernel), List.mem_of_getElem? (i := 1273) (by decide +kernel)⟩
theorem lw_p63 : lw_okq (⟨"LampMuralModel", "lightOf", "(III)I"⟩, 23) := ⟨⟨by decide +kernel, by decide +kernel⟩, List.mem_of_getElem? (i := 1001) (by decide +kernel), List.mem_of_getElem? (i := 1280) (by decide +kernel), List.mem_of_getElem? (i := 1281) (by decide +kernel)⟩
def lw_privs_4 : List (MethodName × Nat) := [(⟨"LampMuralModel", "weighs", "(II)V"⟩, 23), (⟨"LampMuralModel", "weightAt", "(III)I"⟩, 23), (⟨"LampMuralModel", "shares", "(I)V"⟩, 23), (⟨"LampMuralModel", "isOn", "(I)Z"⟩, 23), (⟨"LampMuralModel", "limit", "(I)I"⟩, 23), (⟨"LampMuralModel", "floor", "(I)I"⟩, 23), (⟨"LampMuralModel", "sumOfLights", "()I"⟩, 23), (⟨"LampMuralModel", "works", "(IZ)I"⟩, 23), (⟨"LampMuralModel", "shifts", "(II)I"⟩, 23), (⟨"LampMuralModel", "wrongOnes", "()I"⟩, 23), (⟨"LampMuralModel", "state", "(II)I"⟩, 23), (⟨"LampMuralModel", "burns", "(I)I"⟩, 23), (⟨"LampMuralModel", "load", "(I)I"⟩, 23), (⟨"LampMuralModel", "placeOf", "(III)I"⟩, 23), (⟨"LampMuralModel", "limits", "(Z)I"⟩, 23), (⟨"LampMuralModel", "lightOf", "(III)I"⟩, 23)]
theorem lw_r4 : ∀ q ∈ lw_privs_4, lw_okq q := List.forall_mem_cons.mpr ⟨lw_p48, List.forall_mem_cons.mpr ⟨lw_p49, List.forall_mem_cons.mpr ⟨lw_p50, List.forall_mem_cons.mpr ⟨lw_p51, List.forall_mem_cons.mpr ⟨lw_p52, List.forall_mem_cons.mpr ⟨lw_p53, List.forall_mem_cons.mpr ⟨lw_p54, List.forall_mem_cons.mpr ⟨lw_p55, List.forall_mem_cons.mpr ⟨lw_p56, List.forall_mem_cons.mpr ⟨lw_p57, List.forall_mem_cons.mpr ⟨lw_p58, List.forall_mem_cons.mpr ⟨lw_p59, List.forall_mem_cons.mpr ⟨lw_p60, List.forall_mem_cons.mpr ⟨lw_p61, List.forall_mem_cons.mpr ⟨lw_p62, List.forall_mem_cons.mpr ⟨lw_p63, fun _ h => absurd h List.not_mem_nil⟩⟩⟩⟩⟩⟩⟩⟩⟩⟩⟩⟩⟩⟩⟩⟩
theorem lw_p64 : lw_okq (⟨"LampMuralModel", "lampOf", "(II)I"⟩, 23) := ⟨⟨by decide +kernel, by decide +kernel⟩, List.mem_of_getElem? (i := 1001) (by decide +kernel), List.mem_of_getElem? (i := 1292) (by decide +kernel), List.mem_of_getElem? (i := 1293) (by decide +kernel)⟩
theorem lw_p65 : lw_okq (⟨"LampMuralModel", "wholeOf", "(I)I"⟩, 23) := ⟨⟨by decide +kernel, by decide +kernel⟩, List.mem_of_getElem? (i := 1001) (by decide +kernel), List.mem_of_getElem? (i := 1304) (by decide +kernel), List.mem_of_getElem? (i := 1305) (by decide +kernel)⟩
theorem lw_p66 : lw_okq (⟨"LampMuralModel", "working", "()I"⟩, 23) := ⟨⟨by decide +kernel, by decide +kernel⟩, List.mem_of_getElem? (i := 1001) (by decide +kernel), List.mem_of_getElem? (i := 1308) (by decide +kernel), List.mem_of_getElem? (i := 1309) (by decide +kernel)⟩
theorem lw_p67 : lw_okq (⟨"LampMuralModel", "overPlaces", "(I)I"⟩, 23) := ⟨⟨by decide +kernel, by decide +kernel⟩, List.mem_of_getElem? (i := 1001) (by decide +kernel), List.mem_of_getElem? (i := 1312) (by decide +kernel), List.mem_of_getElem? (i := 1313) (by decide +kernel)⟩
theorem lw_p68 : lw_okq (⟨"LampMuralModel", "wrongBut", "(I)I"⟩, 23) := ⟨⟨by decide +kernel, by decide +kernel⟩, List.mem_of_getElem? (i := 1001) (by decide +kernel), List.mem_of_getElem? (i := 1324) (by decide +kernel), List.mem_of_getElem? (i := 1325) (by decide +kernel)⟩
theorem lw_p69 : lw_okq (⟨"LampMuralModel", "wrongBy", "(II)I"⟩, 23) := ⟨⟨by decide +kernel, by decide +kernel⟩, List.mem_of_getElem? (i := 1001) (by decide +kernel), List.mem_of_getElem? (i := 1336) (by decide +kernel), List.mem_of_getElem? (i := 1337) (by decide +kernel)⟩
theorem lw_p70 : lw_okq (⟨"LampMuralModel", "bringsBack", "()V"⟩, 23) := ⟨⟨by decide +kernel, by decide +kernel⟩, List.mem_of_getElem? (i := 1001) (by decide +kernel), List.mem_of_getElem? (i := 1340) (by decide +kernel), List.mem_of_getElem? (i := 1341) (by decide +kernel)⟩
theorem lw_p71 : lw_okq (⟨"LampMuralModel", "faultOfText", "()I"⟩, 23) := ⟨⟨by decide +kernel, by decide +kernel⟩, List.mem_of_getElem? (i := 1001) (by decide +kernel), List.mem_of_getElem? (i := 1364) (by decide +kernel), List.mem_of_getElem? (i := 1365) (by decide +kernel)⟩
theorem lw_p72 : lw_okq (⟨"LampMuralModel", "skips", "()Z"⟩, 23) := ⟨⟨by decide +kernel, by decide +kernel⟩, List.mem_of_getElem? (i := 1001) (by decide +kernel), List.mem_of_getElem? (i := 1368) (by decide +kernel), List.mem_of_getElem? (i := 1369) (by decide +kernel)⟩
theorem lw_p73 : lw_okq (⟨"LampMuralModel", "here", "()I"⟩, 23) := ⟨⟨by decide +kernel, by decide +kernel⟩, List.mem_of_getElem? (i := 1001) (by decide +kernel), List.mem_of_getElem? (i := 1372) (by decide +kernel), List.mem_of_getElem? (i := 1373) (by decide +kernel)⟩
theorem lw_p74 : lw_okq (⟨"LampMuralModel", "isCommand", "()Z"⟩, 23) := ⟨⟨by decide +kernel, by decide +kernel⟩, List.mem_of_getElem? (i := 1001) (by decide +kernel), List.mem_of_getElem? (i := 1376) (by decide +kernel), List.mem_of_getElem? (i := 1377) (by decide +kernel)⟩
theorem lw_p75 : lw_okq (⟨"LampMuralModel", "wordFrom", "(I)I"⟩, 23) := ⟨⟨by decide +kernel, by decide +kernel⟩, List.mem_of_getElem? (i := 1001) (by decide +kernel), List.mem_of_getElem? (i := 1380) (by decide +kernel), List.mem_of_getElem? (i := 1381) (by decide +kernel)⟩
theorem lw_p76 : lw_okq (⟨"LampMuralModel", "isWord", "(IIIIII)Z"⟩, 23) := ⟨⟨by decide +kernel, by decide +kernel⟩, List.mem_of_getElem? (i := 1001) (by decide +kernel), List.mem_of_getElem? (i := 1384) (by decide +kernel), List.mem_of_getElem? (i := 1385) (by decide +kernel)⟩
theorem lw_p77 : lw_okq (⟨"LampMuralModel", "isNumber", "(I)Z"⟩, 23) := ⟨⟨by decide +kernel, by decide +kernel⟩, List.mem_of_getElem? (i := 1001) (by decide +kernel), List.mem_of_getElem? (i := 1391) (by decide +kernel), List.mem_of_getElem? (i := 1392) (by decide +kernel)⟩
theorem lw_p78 : lw_okq (⟨"LampMuralModel", "does", "()I"⟩, 23) := ⟨⟨by decide +kernel, by decide +kernel⟩, List.mem_of_getElem? (i := 1001) (by decide +kernel), List.mem_of_getElem? (i := 1395) (by decide +kernel), List.mem_of_getElem? (i := 1396) (by decide +kernel)⟩
theorem lw_p79 : lw_okq (⟨"LampMuralModel", "mix", "(I)V"⟩, 23) := ⟨⟨by decide +kernel, by decide +kernel⟩, List.mem_of_getElem? (i := 1001) (by decide +kernel), List.mem_of_getElem? (i := 1404) (by decide +kernel), List.mem_of_getElem? (i := 1405) (by decide +kernel)⟩
def lw_privs_5 : List (MethodName × Nat) := [(⟨"LampMuralModel", "lampOf", "(II)I"⟩, 23), (⟨"LampMuralModel", "wholeOf", "(I)I"⟩, 23), (⟨"LampMuralModel", "working", "()I"⟩, 23), (⟨"LampMuralModel", "overPlaces", "(I)I"⟩, 23), (⟨"LampMuralModel", "wrongBut", "(I)I"⟩, 23), (⟨"LampMuralModel", "wrongBy", "(II)I"⟩, 23), (⟨"LampMuralModel", "bringsBack", "()V"⟩, 23), (⟨"LampMuralModel", "faultOfText", "()I"⟩, 23), (⟨"LampMuralModel", "skips", "()Z"⟩, 23), (⟨"LampMuralModel", "here", "()I"⟩, 23), (⟨"LampMuralModel", "isCommand", "()Z"⟩, 23), (⟨"LampMuralModel", "wordFrom", "(I)I"⟩, 23), (⟨"LampMuralModel", "isWord", "(IIIIII)Z"⟩, 23), (⟨"LampMuralModel", "isNumber", "(I)Z"⟩, 23), (⟨"LampMuralModel", "does", "()I"⟩, 23), (⟨"LampMuralModel", "mix", "(I)V"⟩, 23)]
theorem lw_r5 : ∀ q ∈ lw_privs_5, lw_okq q := List.forall_mem_cons.mpr ⟨lw_p64, List.forall_mem_cons.mpr ⟨lw_p65, List.forall_mem_cons.mpr ⟨lw_p66, List.forall_mem_cons.mpr ⟨lw_p67, List.forall_mem_cons.mpr ⟨lw_p68, List.forall_mem_cons.mpr ⟨lw_p69, List.forall_mem_cons.mpr ⟨lw_p70, List.forall_mem_cons.mpr ⟨lw_p71, List.forall_mem_cons.mpr ⟨lw_p72, List.forall_mem_cons.mpr ⟨lw_p73, List.forall_mem_cons.mpr ⟨lw_p74, List.forall_mem_cons.mpr ⟨lw_p75, List.forall_mem_cons.mpr ⟨lw_p76, List.forall_mem_cons.mpr ⟨lw_p77, List.forall_mem_cons.mpr ⟨lw_p78, List.forall_mem_cons.mpr ⟨lw_p79, fun _ h => absurd h List.not_mem_nil⟩⟩⟩⟩⟩⟩⟩⟩⟩⟩⟩⟩⟩⟩⟩⟩
theorem lw_p80 : lw_okq (⟨"LampMuralModel", "mixPlace", "(II)V"⟩, 23) := ⟨⟨by decide +kernel, by decide +kernel⟩, List.mem_of_getElem? (i := 1001) (by decide +kernel), List.mem_of_getElem? (i := 1409) (by decide +kernel), List.mem_of_getElem? (i := 1410) (by decide +kernel)⟩
def lw_privs_6 : List (MethodName × Nat) := [(⟨"LampMuralModel", "mixPlace", "(II)V"⟩, 23)]
theorem lw_r6 : ∀ q ∈ lw_privs_6, lw_okq q := List.forall_mem_cons.mpr ⟨lw_p80, fun _ h => absurd h List.not_mem_nil⟩
def lw_privs : List (MethodName × Nat) := lw_privs_1 ++ (lw_privs_2 ++ (lw_privs_3 ++ (lw_privs_4 ++ (lw_privs_5 ++ (lw_privs_6)))))
def lw_tbl : List Cond := k2_sels lw_privs ++ tables_1
theorem lw_privs_ok : ∀ q ∈ lw_privs, lw_okq q := by
  show ∀ q ∈ lw_privs_1 ++ (lw_privs_2 ++ (lw_privs_3 ++ (lw_privs_4 ++ (lw_privs_5 ++ (lw_privs_6))))), lw_okq q
  exact List.forall_mem_append.mpr ⟨lw_r1, List.forall_mem_append.mpr ⟨lw_r2, List.forall_mem_append.mpr ⟨lw_r3, List.forall_mem_append.mpr ⟨lw_r4, List.forall_mem_append.mpr ⟨lw_r5, lw_r6⟩⟩⟩⟩⟩
/-! ===== BEGIN words of one list among another's, by their places ===== -/
theorem goodIn_r {big : List Cond} (ws : List Cond) (ps : List Nat) (hp : ws = ps.filterMap (fun i => big[i]?)) (h : ws.all goodWord = true) : GoodIn big ws := by
  intro w hw
  have h1 := List.all_eq_true.mp h w hw
  rw [hp] at hw
  obtain ⟨i, -, hi⟩ := List.mem_filterMap.mp hw
  have hm : w ∈ big := by first | exact List.mem_of_getElem? hi | exact List.getElem?_mem hi
  exact ⟨hm, good_of_word h1⟩
theorem goodIn_app {big a b : List Cond} (ha : GoodIn big a) (hb : GoodIn big b) : GoodIn big (a ++ b) := fun w h => (List.mem_append.mp h).elim (ha w) (hb w)
theorem goodIn_ca {big a b : List Cond} {c : Cond} (ha : GoodIn big (c :: a)) (hb : GoodIn big b) : GoodIn big (c :: (a ++ b)) := fun w h => (List.mem_cons.mp h).elim (fun e => ha w (List.mem_cons.mpr (Or.inl e))) (fun h => (List.mem_append.mp h).elim (fun h => ha w (List.mem_cons.mpr (Or.inr h))) (hb w))
theorem goodIn_sub {big ws : List Cond} (hm : ∀ w ∈ ws, w ∈ big) (h : ws.all goodWord = true) : GoodIn big ws := fun w hw => ⟨hm w hw, good_of_word (List.all_eq_true.mp h w hw)⟩
/-! ===== END ===== -/

/-! ===== BEGIN exceptions that leave a method, and their catching by the caller (launches without stack traces) ===== -/
section VXA
/-! The laws vx_back, vx_callV, vx_callS, vx_callSW, vx_throw0, vx_throwS follow proofs of the library, with one case more: JvmDerived/Free/Laws.lean (Back.of_free), Shelf42/LK1.lean (callV, callS), Shelf/KitTraced.lean (throwNew0V, throwNewS). -/
/-- where a method has thrown q: the class by its name, the cell, what was written, the world -/
def vx_T (XC : String → State → State → Prop) (st : State) (q : Addr) (t : State) (mc ms : Nat) (free : Addr → Prop) : Prop :=
  ∃ (E : String) (ce : Cell) (L : List Loc), XC E st t ∧ t.heap[q]? = some ce ∧ ce.vm = .none ∧ st.vm.findClass E = some ce.cls ∧ st.WarmedH t.vm ∧ st.sameButNew ({ t with vm := st.vm } : State) L mc ms ∧ ∀ z ∈ L, free z.base
def vx_Q (Qc : Array Value → State → Outcome → State → Prop) (XC : String → State → State → Prop) (mc ms : Nat) (free : Addr → Prop) : Array Value → State → Outcome → State → Prop := fun a st o t =>
  (Qc a st o t ∧ ∃ L, FrameEnd st o t L mc ms ∧ ∀ q ∈ L, free q.base) ∨ ∃ q, o = .threw q ∧ vx_T XC st q t mc ms free
/-- a callee that returns or throws -/
def vx_Met (l : Launch) (y : MethodName) (ws : List Cond) (rm : Room) (Pc : Array Value → State → Prop) (Qc : Array Value → State → Outcome → State → Prop) (XC : String → State → State → Prop) (mc ms : Nat) (free : Addr → Prop) : Prop :=
  MetFree l y (headSpec ws rm) Pc (fun _ _ _ _ _ => True) (vx_Q Qc XC mc ms free)
def vx_Post (XC : String → State → State → Prop) (mc ms : Nat) (free : Addr → Prop) : Pt → Array Value → Addr → Pt → Prop := fun A a q B =>
  ∃ (g : JFrame) (mk : MethodId) (t : State) (L : List Loc) (E : String) (ce : Cell), B.U.heap = t.heap ∧ B.U.vm = t.vm ∧ XC E (A.U.calling g mk a) t ∧ t.heap[q]? = some ce ∧ ce.vm = .none ∧ A.U.vm.findClass E = some ce.cls ∧ B.locs = A.locs ++ L ∧ (∀ z ∈ L, free z.base) ∧ B.cells = A.cells + mc ∧ B.slots = A.slots + ms
def vx_Back (l : Launch) (R : Room) (p : Program) (e : Env) (below : List Frame) (s : State) (sargs : Array Value) (y : MethodName) (len W9 : Nat)
    (Pre : Pt → Array Value → Prop) (Post : Pt → Array Value → Option Value → Pt → Prop) (PostX : Pt → Array Value → Addr → Pt → Prop) : Prop :=
  ∀ (m : MethodId) (meth : Method) (c : Code) (A : Pt) (g : JFrame) (ig : Instr) (mk : MethodId) (a : Array Value),
    Stand p l e R s m sargs below meth c A.U A.locs A.cells A.slots → g.method = m → g.locals.size = c.maxLocals → decode c.code g.pc = .ok (ig, len) →
    2 * g.monitorRoom + (g.stack.map fun v => v.category).sum ≤ W9 → A.U.methodNamed? y = some mk → Pre A a →
    (∃ (v : Option Value) (B : Pt), Stand p l e R s m sargs below meth c B.U B.locs B.cells B.slots ∧ Post A a v B ∧
      Steps p.tables e below (doInvoke e (A.U.setTop g) [] mk a).1 (B.U.setTop { g with pc := g.pc + len, stack := v.toList ++ g.stack })) ∨
    (∃ (q : Addr) (B : Pt), Stand p l e R s m sargs below meth c B.U B.locs B.cells B.slots ∧ PostX A a q B ∧
      Steps p.tables e below (doInvoke e (A.U.setTop g) [] mk a).1 ((B.U.setTop g).pushFrame (.throwing q)))
section Payer
variable {l : Launch} {R : Room} {p : Program} {e : Env} {below : List Frame} {s : State} {sargs : Array Value} {y : MethodName} {len W9 : Nat}
theorem vx_back {ws : List Cond} {rm : Room} {Pc : Array Value → State → Prop} {Qc : Array Value → State → Outcome → State → Prop} {XC : String → State → State → Prop} {mc ms : Nat} {free : Addr → Prop} {bytes : ByteArray} {maxL : Nat} {ret : Option FieldType}
    (hM : vx_Met l y ws rm Pc Qc XC mc ms free) (hblind : FrameBlind Pc) (hrc : rm.cells = mc) (hrs : rm.slots = ms)
    (hframes : rm.frames + 1 ≤ R.frames) (hlocals : W9 + (maxL + 11) + rm.locals ≤ R.locals)
    (hws : ∀ w ∈ ws, ∀ a' U, s.WarmedH U.vm → w.before a' U = true) (hcode : Cond.code y bytes maxL ret ∈ ws) (hinit : ∀ a' U, s.WarmedH U.vm → (Cond.initialized y.cls).before a' U = true) :
    vx_Back l R p e below s sargs y len W9 (PreOf R mc ms Pc) (PostOf Qc mc ms free) (vx_Post XC mc ms free) := by
  intro m meth c A g ig mk a X hg hsize hdg hW hn hp
  have h1 : (headSpec ws rm).pre.before a A.U = true := atoms_intro fun w hw => hws w hw _ _ X.warmed
  have h2 : (Cond.code y bytes maxL ret).before a A.U = true := hws _ hcode _ _ X.warmed
  have h3 : (Cond.initialized y.cls).before a A.U = true := hinit _ _ X.warmed
  have h4 : A.cells + (headSpec ws rm).room.cells ≤ R.cells := by rw [show (headSpec ws rm).room.cells = mc from hrc]; exact hp.1
  have h5 : A.slots + (headSpec ws rm).room.slots ≤ R.slots := by rw [show (headSpec ws rm).room.slots = ms from hrs]; exact hp.2.1
  have hPc : Pc a (A.U.calling g mk a) := hblind _ _ _ _ hp.2.2
  obtain ⟨U, Ls, c0, s0⟩ := A
  dsimp only [Pt.U, Pt.locs, Pt.cells, Pt.slots] at h1 h2 h3 h4 h5 X hn hPc ⊢
  obtain ⟨methY, cY, hmY, hcY, -, hlY, -, -, -, -⟩ := Cond.code_spec hn h2
  obtain ⟨kY, hkY, -⟩ := className_of_methodNamed hn
  have hinitY : kY.init = .initialized := Cond.initialized_spec (findClass_of_methodNamed hn) hkY h3
  have h : At U g.method c below := by rw [hg]; exact X.here
  have hlocals9 : W9 + (maxL + 11) + (headSpec ws rm).room.locals ≤ R.locals := hlocals
  have happ : (headSpec ws rm).appliesLoose y e.platform (U.calling g mk a) = true :=
    Spec.appliesLoose_calling (g := g) h hdg hn hkY hinitY
      (X.room_calling (g := g) (R' := (headSpec ws rm).room) hsize hmY hcY hframes (by rw [hlY]; omega) h4 h5) h1
  obtain ⟨mid, hmid⟩ := h.above
  have hfr : (U.setTop g).frames = (.java g :: mid) ++ below := by rw [State.frames_setTop' g h.top, hmid]; rfl
  obtain ⟨o, s₂, hsteps, -, hend, hq⟩ := Steps.callFree hM p X.admits X.cas X.clock (acts := []) hfr happ hPc trivial
  have hq' : vx_Q Qc XC mc ms free a (U.calling g mk a) o s₂ := hq
  rw [State.frames_setTop' g h.top] at hend
  obtain ⟨g₀, hg0⟩ := Option.isSome_iff_exists.mp h.top
  obtain ⟨r, hr⟩ := State.topJava?_eq_some.mp hg0
  have hr' : (({ U with heap := s₂.heap, slotsUsed := s₂.slotsUsed } : State).setVm s₂.vm).frames = .java g₀ :: r := hr
  rcases hq' with ⟨hqc, L, hfe, hL⟩ | ⟨q, rfl, E, ce, L, hx, hce, hcv, hcl, hW₂, hsm, hL⟩
  · obtain ⟨⟨v, rfl⟩, hW₂, e2, q2, q3, q4, q5, q6⟩ := id hfe
    have e3 : s₂ = ({ (U.calling g mk a).setFrames s₂.frames with heap := s₂.heap, slotsUsed := s₂.slotsUsed } : State).setVm s₂.vm := by
      have : s₂ = ({ s₂ with vm := (U.calling g mk a).vm } : State).setVm s₂.vm := rfl
      rw [e2] at this
      exact this
    obtain ⟨c₂, i₂, len₂, hc₂, hd₂, hf₂⟩ := hend
    have hW' : U.WarmedH s₂.vm := hW₂
    have hcc : c₂ = c := by
      have h1 : s₂.code? g.method = U.code? g.method := by
        rw [State.code?_eq, State.code?_eq, hW'.alike.method?]
      exact Option.some.inj (hc₂.symm.trans (h1.trans h.code))
    subst hcc
    have hlen : len₂ = len := by rw [hdg] at hd₂; cases hd₂; rfl
    subst hlen
    have hs₂ : s₂ = (({ U with heap := s₂.heap, slotsUsed := s₂.slotsUsed } : State).setVm s₂.vm).setTop { g with pc := g.pc + len₂, stack := v.toList ++ g.stack } := by
      refine e3.trans ?_
      rw [hf₂, State.calling_eq h.top, State.setFrames_setFrames, State.setTop_of_frames _ hr', hr]
      rfl
    have hsame : U.sameButNew ({ U with heap := s₂.heap, slotsUsed := s₂.slotsUsed } : State) L mc ms := by
      refine ⟨?_, q2, q3, q4, q5, q6⟩
      obtain ⟨t, ht, -⟩ := State.frames_cons hr
      show ({ U with heap := s₂.heap, slotsUsed := s₂.slotsUsed } : State) = { U.setFrames U.frames with heap := s₂.heap, slotsUsed := s₂.slotsUsed }
      rw [State.setFrames_self ht]
    subst hg
    refine Or.inl ⟨v, ⟨(({ U with heap := s₂.heap, slotsUsed := s₂.slotsUsed } : State).setVm s₂.vm), Ls ++ L, c0 + mc, s0 + ms⟩,
      ⟨X.admits, X.cas, X.clock, X.frames, X.room, X.hears, X.method, X.code, (X.here.setHeapUsed s₂.heap s₂.slotsUsed).setVm hW'.alike, X.tail, State.WarmedH.trans X.warmed hW', X.limits, X.bytes, X.same.trans (hsame.setVm s.vm)⟩,
      ⟨g, mk, s₂, L, rfl, rfl, hqc, rfl, hL, rfl, rfl⟩, ?_⟩
    show Steps p.tables e below _ ((({ U with heap := s₂.heap, slotsUsed := s₂.slotsUsed } : State).setVm s₂.vm).setTop { g with pc := g.pc + len₂, stack := v.toList ++ g.stack })
    rw [← hs₂]
    exact hsteps
  · obtain ⟨e2, q2, q3, q4, q5, q6⟩ := id hsm
    have e3 : s₂ = ({ (U.calling g mk a).setFrames s₂.frames with heap := s₂.heap, slotsUsed := s₂.slotsUsed } : State).setVm s₂.vm := by
      have : s₂ = ({ s₂ with vm := (U.calling g mk a).vm } : State).setVm s₂.vm := rfl
      rw [e2] at this
      exact this
    have hf₂ : s₂.frames = .throwing q :: .java g :: U.frames.tail := hend
    have hW' : U.WarmedH s₂.vm := hW₂
    have hs₂ : s₂ = ((({ U with heap := s₂.heap, slotsUsed := s₂.slotsUsed } : State).setVm s₂.vm).setTop g).pushFrame (.throwing q) := by
      refine e3.trans ?_
      rw [hf₂, State.calling_eq h.top, State.setFrames_setFrames, State.pushFrame, State.frames_setTop _ hr', State.setTop_of_frames _ hr', State.setFrames_setFrames, hr]
      rfl
    have hsame : U.sameButNew ({ U with heap := s₂.heap, slotsUsed := s₂.slotsUsed } : State) L mc ms := by
      refine ⟨?_, q2, q3, q4, q5, q6⟩
      obtain ⟨t, ht, -⟩ := State.frames_cons hr
      show ({ U with heap := s₂.heap, slotsUsed := s₂.slotsUsed } : State) = { U.setFrames U.frames with heap := s₂.heap, slotsUsed := s₂.slotsUsed }
      rw [State.setFrames_self ht]
    subst hg
    refine Or.inr ⟨q, ⟨(({ U with heap := s₂.heap, slotsUsed := s₂.slotsUsed } : State).setVm s₂.vm), Ls ++ L, c0 + mc, s0 + ms⟩,
      ⟨X.admits, X.cas, X.clock, X.frames, X.room, X.hears, X.method, X.code, (X.here.setHeapUsed s₂.heap s₂.slotsUsed).setVm hW'.alike, X.tail, State.WarmedH.trans X.warmed hW', X.limits, X.bytes, X.same.trans (hsame.setVm s.vm)⟩,
      ⟨g, mk, s₂, L, E, ce, rfl, rfl, hx, hce, hcv, hcl, rfl, hL, rfl, rfl⟩, ?_⟩
    show Steps p.tables e below _ (((({ U with heap := s₂.heap, slotsUsed := s₂.slotsUsed } : State).setVm s₂.vm).setTop g).pushFrame (.throwing q))
    rw [← hs₂]
    exact hsteps
end Payer
section Calls
variable {p : Program} {l : Launch} {e : Env} {R : Room} {s : State} {m : MethodId} {args : Array Value} {below : List Frame} {meth : Method} {c : Code} {T : State} {locs : List Loc} {cells slots : Nat}
theorem vx_callV (X : Stand p l e R s m args below meth c T locs cells slots) (hexec : p.tables.exec = Jvm.exec) {own C : String} {index : Nat} {y : MethodName} {bytes : ByteArray} {maxL : Nat} {ret : Option FieldType}
    (hown : s.vm.findClass own = some m.cls) (hlink : (Cond.methodLink own index y).before args s = true) (hinst : (Cond.instanceMethod y).before args s = true) (hsel : (Cond.selects C y y).before args s = true)
    (hcode : (Cond.code y bytes maxL ret).before args s = true) (hy : y.cls ≠ "java/lang/invoke/MethodHandle" ∧ y.cls ≠ "java/lang/invoke/VarHandle")
    {W9 : Nat} {Pre : Pt → Array Value → Prop} {Post : Pt → Array Value → Option Value → Pt → Prop} {PostX : Pt → Array Value → Addr → Pt → Prop} (hK : vx_Back l R p e below s args y 3 W9 Pre Post PostX)
    {b : Addr} {cellB : Cell} (hcell : T.heap[b]? = some cellB) (hobj : cellB.vm.isStatics = false) (hcls : s.vm.findClass C = some cellB.cls)
    {g : JFrame} (hg : g.method = m) (hsize : g.locals.size = c.maxLocals) {argsL rest : List Value} (hlen : ∀ sig, parseMethodDescriptor y.desc = some sig → argsL.length = sig.parameters.length)
    (hstack : g.stack = argsL.reverse ++ .ref b :: rest) (hW : 2 * g.monitorRoom + (rest.map fun v => v.category).sum ≤ W9) (hdg : decode c.code g.pc = .ok (.invokevirtual index, 3))
    (hpre : ∀ vm₁, s.WarmedH vm₁ → Pre ⟨T.setVm vm₁, locs, cells, slots⟩ (Value.ref b :: argsL).toArray) :
    (∃ (v : Option Value) (vm₁ : Vm) (B : Pt), s.WarmedH vm₁ ∧ Stand p l e R s m args below meth c B.U B.locs B.cells B.slots ∧ Post ⟨T.setVm vm₁, locs, cells, slots⟩ (Value.ref b :: argsL).toArray v B ∧
      ∀ target, Steps p.tables e below (B.U.setTop { g with pc := g.pc + 3, stack := v.toList ++ rest }) target → Steps p.tables e below (T.setTop g) target) ∨
    (∃ (q : Addr) (vm₁ : Vm) (B : Pt), s.WarmedH vm₁ ∧ Stand p l e R s m args below meth c B.U B.locs B.cells B.slots ∧ PostX ⟨T.setVm vm₁, locs, cells, slots⟩ (Value.ref b :: argsL).toArray q B ∧
      Steps p.tables e below (T.setTop g) ((B.U.setTop { g with stack := rest }).pushFrame (.throwing q))) := by
  obtain ⟨mk, methM, hnamed, hmethM, hstM, habM⟩ := Cond.instanceMethod_spec hinst
  obtain ⟨methM', cM, hmethM', -, -, -, -, -, -, hsigM⟩ := Cond.code_spec hnamed hcode
  cases hmethM.symm.trans hmethM'
  obtain ⟨c2, r2, m2, q1, q2, q3, q4, kP, hkP, hkPi⟩ := Cond.selects_spec hsel
  cases hcls.symm.trans q1
  cases (State.methodFound?_of_named hnamed hy).symm.trans q2
  cases hnamed.symm.trans q3
  have hselP : selectMethod e.platform s.vm cellB.cls mk = .method mk := by rw [Launch.admits_selectMethod X.admits]; exact q4
  obtain ⟨vm₁, X₁, hstep₁⟩ := X.invokevirtual hexec hown hlink hnamed hmethM hstM hkP hkPi hy (a := b) (cell := cellB) hcell
    (fun z h => by rw [h] at hobj; cases hobj) hselP hmethM habM hkP hkPi (g := g) hg (argsL := argsL) (rest := rest) (hlen _ hsigM) hstack hdg
  rcases hK m meth c ⟨T.setVm vm₁, locs, cells, slots⟩ { g with stack := rest } (.invokevirtual index) mk (Value.ref b :: argsL).toArray X₁ hg hsize hdg hW (X₁.named hnamed) (hpre vm₁ X₁.warmed) with ⟨v, B, X', hpost, hsteps⟩ | ⟨q, B, X', hpost, hsteps⟩
  · exact Or.inl ⟨v, vm₁, B, X₁.warmed, X', hpost, fun target h => hstep₁ _ fun acts => by rw [doInvoke_state]; exact hsteps.trans h⟩
  · exact Or.inr ⟨q, vm₁, B, X₁.warmed, X', hpost, hstep₁ _ fun acts => by rw [doInvoke_state]; exact hsteps⟩
theorem vx_callS (X : Stand p l e R s m args below meth c T locs cells slots) (hexec : p.tables.exec = Jvm.exec) {own : String} {index : Nat} {y : MethodName} {bytes : ByteArray} {maxL : Nat} {ret : Option FieldType}
    (hown : s.vm.findClass own = some m.cls) (hlink : (Cond.methodLink own index y).before args s = true) (hstat : (Cond.static y).before args s = true) (hinit : (Cond.initialized y.cls).before args s = true)
    (hcode : (Cond.code y bytes maxL ret).before args s = true) (hy : y.cls ≠ "java/lang/invoke/MethodHandle" ∧ y.cls ≠ "java/lang/invoke/VarHandle")
    {W9 : Nat} {Pre : Pt → Array Value → Prop} {Post : Pt → Array Value → Option Value → Pt → Prop} {PostX : Pt → Array Value → Addr → Pt → Prop} (hK : vx_Back l R p e below s args y 3 W9 Pre Post PostX)
    {g : JFrame} (hg : g.method = m) (hsize : g.locals.size = c.maxLocals) {argsL rest : List Value} (hlen : ∀ sig, parseMethodDescriptor y.desc = some sig → argsL.length = sig.parameters.length)
    (hstack : g.stack = argsL.reverse ++ rest) (hW : 2 * g.monitorRoom + (rest.map fun v => v.category).sum ≤ W9) (hdg : decode c.code g.pc = .ok (.invokestatic index, 3))
    (hpre : ∀ vm₁, s.WarmedH vm₁ → Pre ⟨T.setVm vm₁, locs, cells, slots⟩ argsL.toArray) :
    (∃ (v : Option Value) (vm₁ : Vm) (B : Pt), s.WarmedH vm₁ ∧ Stand p l e R s m args below meth c B.U B.locs B.cells B.slots ∧ Post ⟨T.setVm vm₁, locs, cells, slots⟩ argsL.toArray v B ∧
      ∀ target, Steps p.tables e below (B.U.setTop { g with pc := g.pc + 3, stack := v.toList ++ rest }) target → Steps p.tables e below (T.setTop g) target) ∨
    (∃ (q : Addr) (vm₁ : Vm) (B : Pt), s.WarmedH vm₁ ∧ Stand p l e R s m args below meth c B.U B.locs B.cells B.slots ∧ PostX ⟨T.setVm vm₁, locs, cells, slots⟩ argsL.toArray q B ∧
      Steps p.tables e below (T.setTop g) ((B.U.setTop { g with stack := rest }).pushFrame (.throwing q))) := by
  obtain ⟨mk, hnamed⟩ := Cond.code_named hcode
  obtain ⟨methM, cM, hmethM, -, -, -, -, -, -, hsigM⟩ := Cond.code_spec hnamed hcode
  have hstatic : methM.isStatic = true := Cond.static_spec hnamed hmethM hstat
  obtain ⟨kP, hkP, -⟩ := className_of_methodNamed hnamed
  have hinitP : kP.init = .initialized := Cond.initialized_spec (findClass_of_methodNamed hnamed) hkP hinit
  obtain ⟨vm₁, X₁, hstep₁⟩ := X.invokestatic hexec hown hlink hnamed hmethM hstatic hkP hinitP hy (g := g) hg (argsL := argsL) (rest := rest) (hlen _ hsigM) hstack hdg
  rcases hK m meth c ⟨T.setVm vm₁, locs, cells, slots⟩ { g with stack := rest } (.invokestatic index) mk argsL.toArray X₁ hg hsize hdg hW (X₁.named hnamed) (hpre vm₁ X₁.warmed) with ⟨v, B, X', hpost, hsteps⟩ | ⟨q, B, X', hpost, hsteps⟩
  · exact Or.inl ⟨v, vm₁, B, X₁.warmed, X', hpost, fun target h => hstep₁ _ fun acts => by rw [doInvoke_state]; exact hsteps.trans h⟩
  · exact Or.inr ⟨q, vm₁, B, X₁.warmed, X', hpost, hstep₁ _ fun acts => by rw [doInvoke_state]; exact hsteps⟩
end Calls
theorem vx_cls {s : State} {T : State} {vm₁ : Vm} {E : String} {k : ClassId} (hW : s.WarmedH vm₁) (h : (T.setVm vm₁).vm.findClass E = some k) : s.vm.findClass E = some k := by
  have h1 : vm₁.findClass E = some k := h
  rw [hW.alike.findClass] at h1
  exact h1
/-- the method's frame g, with q thrown over it -/
def vx_W (p : Program) (l : Launch) (e : Env) (R : Room) (s : State) (m : MethodId) (args : Array Value) (below : List Frame) (meth : Method) (c : Code) (H : Heap) (locs : List Loc) (cells slots : Nat) (Q : State → Prop) (g : JFrame) (q : Addr) : Prop :=
  ∀ T : State, T.heap = H → Stand p l e R s m args below meth c T locs cells slots → ∃ t, Steps p.tables e below ((T.setTop g).pushFrame (.throwing q)) t ∧ Q t
def vx_Run (p : Program) (l : Launch) (e : Env) (R : Room) (s : State) (m : MethodId) (args : Array Value) (below : List Frame) (meth : Method) (c : Code) (H : Heap) (locs : List Loc) (cells slots mc ms : Nat) (g : JFrame) (rest : List Value) (Qa : State → Outcome → State → Prop) (XC : String → State → State → Prop) (free : Addr → Prop) : Prop :=
  ∀ T : State, T.heap = H → Stand p l e R s m args below meth c T locs cells slots →
    (∃ (v : Option Value) (st₀ t T' : State) (L : List Loc), st₀.heap = H ∧ Stand p l e R s m args below meth c T' (locs ++ L) (cells + mc) (slots + ms) ∧ (∀ q ∈ L, free q.base) ∧ T'.heap = t.heap ∧ T'.vm = t.vm ∧ Qa st₀ (.returned v) t ∧
      Goes p e below T g T' { g with pc := g.pc + 3, stack := v.toList ++ rest }) ∨
    (∃ (q : Addr) (st₀ t T' : State) (L : List Loc) (E : String) (ce : Cell), st₀.heap = H ∧ Stand p l e R s m args below meth c T' (locs ++ L) (cells + mc) (slots + ms) ∧ (∀ z ∈ L, free z.base) ∧ T'.heap = t.heap ∧ T'.vm = t.vm ∧ XC E st₀ t ∧ t.heap[q]? = some ce ∧ ce.vm = .none ∧ s.vm.findClass E = some ce.cls ∧
      Steps p.tables e below (T.setTop g) ((T'.setTop { g with stack := rest }).pushFrame (.throwing q)))
def vx_X {S : Type} (px : S → Prop) (B : String → S → State → Prop) (A : Nat → Prop) : String → State → State → Prop := fun E st t => ∃ u : S, px u ∧ B E u t ∧ va_F A st t
section Runs
variable {p : Program} {l : Launch} {e : Env} {R : Room} {s : State} {m : MethodId} {args : Array Value} {below : List Frame} {meth : Method} {c : Code} {H : Heap} {locs : List Loc} {cells slots : Nat}
variable {y : MethodName} {bytes cc : ByteArray} {maxL nL mc ms n index : Nat} {ret : Option FieldType} {ws : List Cond} {rm : Room} {Pc : Array Value → State → Prop} {Qc : Array Value → State → Outcome → State → Prop} {XC : String → State → State → Prop} {free : Addr → Prop} {Ts : List Cond} {own C : String} {b : Addr} {As rest : List Value} {g : JFrame}
theorem vx_callBack (cb : CallB R s args own index y bytes maxL ret ws rm mc ms n) (hM : vx_Met l y ws rm Pc Qc XC mc ms free) (hbl : FrameBlind Pc) : vx_Back l R p e below s args y 3 8 (PreOf R mc ms Pc) (PostOf Qc mc ms free) (vx_Post XC mc ms free) := by
  obtain ⟨hrc, hrs, hfr, hlo, hws, hcw, -, hini, -⟩ := cb
  exact vx_back (bytes := bytes) (maxL := maxL) (ret := ret) hM hbl hrc hrs hfr hlo hws hcw (fun a' U hW => word_at hW (Or.inl (by first | rfl | simp [Cond.onTables, Cond.keeps, Cond.steady])) hini)
theorem vx_runV (S : CallFix p m c cc nL s args Ts own) (hM : vx_Met l y ws rm Pc Qc XC mc ms free) (cw : CallW R s args own C index y bytes maxL ret ws rm mc ms n) (hp : PreV s H C b Pc As)
    (hg : g.method = m) (hn : As.length = n) (hsize : g.locals.size = nL) (hstack : g.stack = As.reverse ++ .ref b :: rest) (hW : 2 * g.monitorRoom + (rest.map fun v => v.category).sum ≤ 8) (hdg : decode cc g.pc = .ok (.invokevirtual index, 3)) (hf : cells + mc ≤ R.cells ∧ slots + ms ≤ R.slots) :
    vx_Run p l e R s m args below meth c H locs cells slots mc ms g rest (Qc (Value.ref b :: As).toArray) XC free := by
  have hK : vx_Back l R p e below s args y 3 8 (PreOf R mc ms Pc) (PostOf Qc mc ms free) (vx_Post XC mc ms free) := vx_callBack cw.1 hM hp.1
  obtain ⟨⟨-, -, -, -, -, -, hcode, -, hy, hlen, hl⟩, hin, hse⟩ := cw
  obtain ⟨hx, hb, hml, ho, -⟩ := S
  obtain ⟨-, ⟨cellB, hcB, hoB, hclB⟩, hPc⟩ := hp
  intro T hT X
  rcases vx_callV X hx (C := C) (bytes := bytes) (maxL := maxL) (ret := ret) ho hl hin hse hcode hy hK (by rw [hT]; exact hcB) hoB hclB hg (hsize.trans hml.symm) (argsL := As) (rest := rest) (fun sig h => hn.trans (hlen sig h)) hstack hW (by rw [hb]; exact hdg)
    (fun vm₁ hW₁ => ⟨hf.1, hf.2, hPc (T.setVm vm₁) hT hW₁⟩) with ⟨v, vm₁, ⟨U', l2, c2, s2⟩, hW₁, X', ⟨g', mk, t, L, e1, e2, hq, h1, hL, h2, h3⟩, st⟩ | ⟨q, vm₁, ⟨U', l2, c2, s2⟩, hW₁, X', ⟨g', mk, t, L, E, ce, e1, e2, hq, hce, hcv, hcl, h1, hL, h2, h3⟩, st⟩
  · dsimp only [Pt.U, Pt.locs, Pt.cells, Pt.slots] at X' e1 e2 h1 h2 h3 st
    subst h1; subst h2; subst h3
    exact Or.inl ⟨v, (T.setVm vm₁).calling g' mk (Value.ref b :: As).toArray, t, U', L, hT, X', hL, e1, e2, hq, st⟩
  · dsimp only [Pt.U, Pt.locs, Pt.cells, Pt.slots] at X' e1 e2 h1 h2 h3 st hcl
    subst h1; subst h2; subst h3
    exact Or.inr ⟨q, (T.setVm vm₁).calling g' mk (Value.ref b :: As).toArray, t, U', L, E, ce, hT, X', hL, e1, e2, hq, hce, hcv, vx_cls hW₁ hcl, st⟩
theorem vx_runS (S : CallFix p m c cc nL s args Ts own) (hM : vx_Met l y ws rm Pc Qc XC mc ms free) (cw : CallB R s args own index y bytes maxL ret ws rm mc ms n ∧ (Cond.static y).before args s = true) (hp : PreS s H Pc As)
    (hg : g.method = m) (hn : As.length = n) (hsize : g.locals.size = nL) (hstack : g.stack = As.reverse ++ rest) (hW : 2 * g.monitorRoom + (rest.map fun v => v.category).sum ≤ 8) (hdg : decode cc g.pc = .ok (.invokestatic index, 3)) (hf : cells + mc ≤ R.cells ∧ slots + ms ≤ R.slots) :
    vx_Run p l e R s m args below meth c H locs cells slots mc ms g rest (Qc As.toArray) XC free := by
  have hK : vx_Back l R p e below s args y 3 8 (PreOf R mc ms Pc) (PostOf Qc mc ms free) (vx_Post XC mc ms free) := vx_callBack cw.1 hM hp.1
  obtain ⟨⟨-, -, -, -, -, -, hcode, hini, hy, hlen, hl⟩, hstt⟩ := cw
  obtain ⟨hx, hb, hml, ho, -⟩ := S
  intro T hT X
  rcases vx_callS X hx (bytes := bytes) (maxL := maxL) (ret := ret) ho hl hstt hini hcode hy hK hg (hsize.trans hml.symm) (argsL := As) (rest := rest) (fun sig h => hn.trans (hlen sig h)) hstack hW (by rw [hb]; exact hdg)
    (fun vm₁ hW₁ => ⟨hf.1, hf.2, hp.2 (T.setVm vm₁) hT hW₁⟩) with ⟨v, vm₁, ⟨U', l2, c2, s2⟩, hW₁, X', ⟨g', mk, t, L, e1, e2, hq, h1, hL, h2, h3⟩, st⟩ | ⟨q, vm₁, ⟨U', l2, c2, s2⟩, hW₁, X', ⟨g', mk, t, L, E, ce, e1, e2, hq, hce, hcv, hcl, h1, hL, h2, h3⟩, st⟩
  · dsimp only [Pt.U, Pt.locs, Pt.cells, Pt.slots] at X' e1 e2 h1 h2 h3 st
    subst h1; subst h2; subst h3
    exact Or.inl ⟨v, (T.setVm vm₁).calling g' mk As.toArray, t, U', L, hT, X', hL, e1, e2, hq, st⟩
  · dsimp only [Pt.U, Pt.locs, Pt.cells, Pt.slots] at X' e1 e2 h1 h2 h3 st hcl
    subst h1; subst h2; subst h3
    exact Or.inr ⟨q, (T.setVm vm₁).calling g' mk As.toArray, t, U', L, E, ce, hT, X', hL, e1, e2, hq, hce, hcv, vx_cls hW₁ hcl, st⟩
end Runs
section Rows
variable {p : Program} {l : Launch} {e : Env} {R : Room} {s : State} {m : MethodId} {args : Array Value} {below : List Frame} {meth : Method} {c : Code} {H : Heap} {locs : List Loc} {cells slots : Nat} {Q : State → Prop}
variable {mc ms : Nat} {free : Addr → Prop} {A0 A1 : Nat → Prop} {H0 : Heap} {a : Array Value} {pc : Nat} {ls : Array Slot} {st0 rest : List Value}
theorem vx_keep {st₀ t T' : State} {L : List Loc} (h0 : st₀.heap = H) (e1 : T'.heap = t.heap) (hS : va_S A0 H0 H locs) (hA : ∀ q, q < H.size → A1 q → A0 q) (hf : ∀ q, free q → A0 q) (hL : ∀ q ∈ L, free q.base) (hF : va_F A1 st₀ t) :
    H.size ≤ T'.heap.size ∧ (∀ q : Nat, q < H.size → ¬ A1 q → T'.heap[q]? = H[q]?) ∧ va_S A0 H0 T'.heap (locs ++ L) := by
  obtain ⟨hz, hk⟩ := hF
  rw [h0] at hz hk
  exact ⟨by rw [e1]; exact hz, fun q h1 h2 => by rw [e1]; exact hk q h1 h2,
    ⟨Nat.le_trans hS.1 (by rw [e1]; exact hz), fun q h1 h2 => by rw [e1, hk q (Nat.lt_of_lt_of_le h1 hS.1) (fun z => h2 (hA q (Nat.lt_of_lt_of_le h1 hS.1) z))]; exact hS.2.1 q h1 h2, fun q hq => by
      rcases List.mem_append.mp hq with h | h
      · exact hS.2.2 q h
      · exact hf _ (hL q h)⟩⟩
theorem vx_calli {S SX : Type} {post : Int32 → S → Prop} {px : SX → Prop} {B : S → State → Prop} {BX : String → SX → State → Prop} {AX : Nat → Prop} (hr : vx_Run p l e R s m args below meth c H locs cells slots mc ms (F0 m pc ls st0) rest (va_Qi post B A1 a) (vx_X px BX AX) free) (hS : va_S A0 H0 H locs) (hA : ∀ q, q < H.size → A1 q → A0 q) (hf : ∀ q, free q → A0 q) (hAX : ∀ q, q < H.size → AX q → A0 q)
    (kx : ∀ (E : String) (ce : Cell) (q9 : Addr) (u : SX) (t : State) (H1 : Heap) (locs1 : List Loc), t.heap = H1 → s.vm.Alike t.vm → px u → BX E u t → H.size ≤ H1.size → (∀ q : Nat, q < H.size → ¬ AX q → H1[q]? = H[q]?) → va_S A0 H0 H1 locs1 → H1[q9]? = some ce → ce.vm = .none → s.vm.findClass E = some ce.cls → vx_W p l e R s m args below meth c H1 locs1 (cells + mc) (slots + ms) Q (F0 m pc ls rest) q9)
    (kk : ∀ (r : Int32) (u : S) (t : State) (H1 : Heap) (locs1 : List Loc), t.heap = H1 → s.vm.Alike t.vm → post r u → B u t → H.size ≤ H1.size → (∀ q : Nat, q < H.size → ¬ A1 q → H1[q]? = H[q]?) → va_S A0 H0 H1 locs1 → W p l e R s m args below meth c H1 locs1 (cells + mc) (slots + ms) Q (F0 m (pc + 3) ls (.int r :: rest))) : W p l e R s m args below meth c H locs cells slots Q (F0 m pc ls st0) := by
  intro T hT X
  rcases hr T hT X with ⟨v, st₀, t, T', L, h0, X', hL, e1, e2, ⟨⟨r, u, hv, hp, hb⟩, hF⟩, st⟩ | ⟨q, st₀, t, T', L, E, ce, h0, X', hL, e1, e2, ⟨u, hp, hb, hF⟩, hce, hcv, hcl, st⟩
  · cases hv
    obtain ⟨k1, k2, k3⟩ := vx_keep h0 e1 hS hA hf hL hF
    obtain ⟨t2, a1, b1⟩ := kk r u t T'.heap (locs ++ L) e1.symm (by rw [← e2]; exact X'.warmed.alike) hp hb k1 k2 k3 T' rfl X'
    exact ⟨t2, st t2 a1, b1⟩
  · obtain ⟨k1, k2, k3⟩ := vx_keep h0 e1 hS hAX hf hL hF
    obtain ⟨t2, a1, b1⟩ := kx E ce q u t T'.heap (locs ++ L) e1.symm (by rw [← e2]; exact X'.warmed.alike) hp hb k1 k2 k3 (by rw [e1]; exact hce) hcv hcl T' rfl X'
    exact ⟨t2, st.trans a1, b1⟩
theorem vx_calll {S SX : Type} {post : Int64 → S → Prop} {px : SX → Prop} {B : S → State → Prop} {BX : String → SX → State → Prop} {AX : Nat → Prop} (hr : vx_Run p l e R s m args below meth c H locs cells slots mc ms (F0 m pc ls st0) rest (va_Ql post B A1 a) (vx_X px BX AX) free) (hS : va_S A0 H0 H locs) (hA : ∀ q, q < H.size → A1 q → A0 q) (hf : ∀ q, free q → A0 q) (hAX : ∀ q, q < H.size → AX q → A0 q)
    (kx : ∀ (E : String) (ce : Cell) (q9 : Addr) (u : SX) (t : State) (H1 : Heap) (locs1 : List Loc), t.heap = H1 → s.vm.Alike t.vm → px u → BX E u t → H.size ≤ H1.size → (∀ q : Nat, q < H.size → ¬ AX q → H1[q]? = H[q]?) → va_S A0 H0 H1 locs1 → H1[q9]? = some ce → ce.vm = .none → s.vm.findClass E = some ce.cls → vx_W p l e R s m args below meth c H1 locs1 (cells + mc) (slots + ms) Q (F0 m pc ls rest) q9)
    (kk : ∀ (r : Int64) (u : S) (t : State) (H1 : Heap) (locs1 : List Loc), t.heap = H1 → s.vm.Alike t.vm → post r u → B u t → H.size ≤ H1.size → (∀ q : Nat, q < H.size → ¬ A1 q → H1[q]? = H[q]?) → va_S A0 H0 H1 locs1 → W p l e R s m args below meth c H1 locs1 (cells + mc) (slots + ms) Q (F0 m (pc + 3) ls (.long r :: rest))) : W p l e R s m args below meth c H locs cells slots Q (F0 m pc ls st0) := by
  intro T hT X
  rcases hr T hT X with ⟨v, st₀, t, T', L, h0, X', hL, e1, e2, ⟨⟨r, u, hv, hp, hb⟩, hF⟩, st⟩ | ⟨q, st₀, t, T', L, E, ce, h0, X', hL, e1, e2, ⟨u, hp, hb, hF⟩, hce, hcv, hcl, st⟩
  · cases hv
    obtain ⟨k1, k2, k3⟩ := vx_keep h0 e1 hS hA hf hL hF
    obtain ⟨t2, a1, b1⟩ := kk r u t T'.heap (locs ++ L) e1.symm (by rw [← e2]; exact X'.warmed.alike) hp hb k1 k2 k3 T' rfl X'
    exact ⟨t2, st t2 a1, b1⟩
  · obtain ⟨k1, k2, k3⟩ := vx_keep h0 e1 hS hAX hf hL hF
    obtain ⟨t2, a1, b1⟩ := kx E ce q u t T'.heap (locs ++ L) e1.symm (by rw [← e2]; exact X'.warmed.alike) hp hb k1 k2 k3 (by rw [e1]; exact hce) hcv hcl T' rfl X'
    exact ⟨t2, st.trans a1, b1⟩
theorem vx_callf {S SX : Type} {post : UInt32 → S → Prop} {px : SX → Prop} {B : S → State → Prop} {BX : String → SX → State → Prop} {AX : Nat → Prop} (hr : vx_Run p l e R s m args below meth c H locs cells slots mc ms (F0 m pc ls st0) rest (va_Qf post B A1 a) (vx_X px BX AX) free) (hS : va_S A0 H0 H locs) (hA : ∀ q, q < H.size → A1 q → A0 q) (hf : ∀ q, free q → A0 q) (hAX : ∀ q, q < H.size → AX q → A0 q)
    (kx : ∀ (E : String) (ce : Cell) (q9 : Addr) (u : SX) (t : State) (H1 : Heap) (locs1 : List Loc), t.heap = H1 → s.vm.Alike t.vm → px u → BX E u t → H.size ≤ H1.size → (∀ q : Nat, q < H.size → ¬ AX q → H1[q]? = H[q]?) → va_S A0 H0 H1 locs1 → H1[q9]? = some ce → ce.vm = .none → s.vm.findClass E = some ce.cls → vx_W p l e R s m args below meth c H1 locs1 (cells + mc) (slots + ms) Q (F0 m pc ls rest) q9)
    (kk : ∀ (r : UInt32) (u : S) (t : State) (H1 : Heap) (locs1 : List Loc), t.heap = H1 → s.vm.Alike t.vm → post r u → B u t → H.size ≤ H1.size → (∀ q : Nat, q < H.size → ¬ A1 q → H1[q]? = H[q]?) → va_S A0 H0 H1 locs1 → W p l e R s m args below meth c H1 locs1 (cells + mc) (slots + ms) Q (F0 m (pc + 3) ls (.float r :: rest))) : W p l e R s m args below meth c H locs cells slots Q (F0 m pc ls st0) := by
  intro T hT X
  rcases hr T hT X with ⟨v, st₀, t, T', L, h0, X', hL, e1, e2, ⟨⟨r, u, hv, hp, hb⟩, hF⟩, st⟩ | ⟨q, st₀, t, T', L, E, ce, h0, X', hL, e1, e2, ⟨u, hp, hb, hF⟩, hce, hcv, hcl, st⟩
  · cases hv
    obtain ⟨k1, k2, k3⟩ := vx_keep h0 e1 hS hA hf hL hF
    obtain ⟨t2, a1, b1⟩ := kk r u t T'.heap (locs ++ L) e1.symm (by rw [← e2]; exact X'.warmed.alike) hp hb k1 k2 k3 T' rfl X'
    exact ⟨t2, st t2 a1, b1⟩
  · obtain ⟨k1, k2, k3⟩ := vx_keep h0 e1 hS hAX hf hL hF
    obtain ⟨t2, a1, b1⟩ := kx E ce q u t T'.heap (locs ++ L) e1.symm (by rw [← e2]; exact X'.warmed.alike) hp hb k1 k2 k3 (by rw [e1]; exact hce) hcv hcl T' rfl X'
    exact ⟨t2, st.trans a1, b1⟩
theorem vx_calld {S SX : Type} {post : UInt64 → S → Prop} {px : SX → Prop} {B : S → State → Prop} {BX : String → SX → State → Prop} {AX : Nat → Prop} (hr : vx_Run p l e R s m args below meth c H locs cells slots mc ms (F0 m pc ls st0) rest (va_Qd post B A1 a) (vx_X px BX AX) free) (hS : va_S A0 H0 H locs) (hA : ∀ q, q < H.size → A1 q → A0 q) (hf : ∀ q, free q → A0 q) (hAX : ∀ q, q < H.size → AX q → A0 q)
    (kx : ∀ (E : String) (ce : Cell) (q9 : Addr) (u : SX) (t : State) (H1 : Heap) (locs1 : List Loc), t.heap = H1 → s.vm.Alike t.vm → px u → BX E u t → H.size ≤ H1.size → (∀ q : Nat, q < H.size → ¬ AX q → H1[q]? = H[q]?) → va_S A0 H0 H1 locs1 → H1[q9]? = some ce → ce.vm = .none → s.vm.findClass E = some ce.cls → vx_W p l e R s m args below meth c H1 locs1 (cells + mc) (slots + ms) Q (F0 m pc ls rest) q9)
    (kk : ∀ (r : UInt64) (u : S) (t : State) (H1 : Heap) (locs1 : List Loc), t.heap = H1 → s.vm.Alike t.vm → post r u → B u t → H.size ≤ H1.size → (∀ q : Nat, q < H.size → ¬ A1 q → H1[q]? = H[q]?) → va_S A0 H0 H1 locs1 → W p l e R s m args below meth c H1 locs1 (cells + mc) (slots + ms) Q (F0 m (pc + 3) ls (.double r :: rest))) : W p l e R s m args below meth c H locs cells slots Q (F0 m pc ls st0) := by
  intro T hT X
  rcases hr T hT X with ⟨v, st₀, t, T', L, h0, X', hL, e1, e2, ⟨⟨r, u, hv, hp, hb⟩, hF⟩, st⟩ | ⟨q, st₀, t, T', L, E, ce, h0, X', hL, e1, e2, ⟨u, hp, hb, hF⟩, hce, hcv, hcl, st⟩
  · cases hv
    obtain ⟨k1, k2, k3⟩ := vx_keep h0 e1 hS hA hf hL hF
    obtain ⟨t2, a1, b1⟩ := kk r u t T'.heap (locs ++ L) e1.symm (by rw [← e2]; exact X'.warmed.alike) hp hb k1 k2 k3 T' rfl X'
    exact ⟨t2, st t2 a1, b1⟩
  · obtain ⟨k1, k2, k3⟩ := vx_keep h0 e1 hS hAX hf hL hF
    obtain ⟨t2, a1, b1⟩ := kx E ce q u t T'.heap (locs ++ L) e1.symm (by rw [← e2]; exact X'.warmed.alike) hp hb k1 k2 k3 (by rw [e1]; exact hce) hcv hcl T' rfl X'
    exact ⟨t2, st.trans a1, b1⟩
theorem vx_callv {S SX : Type} {post : S → Prop} {px : SX → Prop} {B : S → State → Prop} {BX : String → SX → State → Prop} {AX : Nat → Prop} (hr : vx_Run p l e R s m args below meth c H locs cells slots mc ms (F0 m pc ls st0) rest (va_Qv post B A1 a) (vx_X px BX AX) free) (hS : va_S A0 H0 H locs) (hA : ∀ q, q < H.size → A1 q → A0 q) (hf : ∀ q, free q → A0 q) (hAX : ∀ q, q < H.size → AX q → A0 q)
    (kx : ∀ (E : String) (ce : Cell) (q9 : Addr) (u : SX) (t : State) (H1 : Heap) (locs1 : List Loc), t.heap = H1 → s.vm.Alike t.vm → px u → BX E u t → H.size ≤ H1.size → (∀ q : Nat, q < H.size → ¬ AX q → H1[q]? = H[q]?) → va_S A0 H0 H1 locs1 → H1[q9]? = some ce → ce.vm = .none → s.vm.findClass E = some ce.cls → vx_W p l e R s m args below meth c H1 locs1 (cells + mc) (slots + ms) Q (F0 m pc ls rest) q9)
    (kk : ∀ (u : S) (t : State) (H1 : Heap) (locs1 : List Loc), t.heap = H1 → s.vm.Alike t.vm → post u → B u t → H.size ≤ H1.size → (∀ q : Nat, q < H.size → ¬ A1 q → H1[q]? = H[q]?) → va_S A0 H0 H1 locs1 → W p l e R s m args below meth c H1 locs1 (cells + mc) (slots + ms) Q (F0 m (pc + 3) ls (rest))) : W p l e R s m args below meth c H locs cells slots Q (F0 m pc ls st0) := by
  intro T hT X
  rcases hr T hT X with ⟨v, st₀, t, T', L, h0, X', hL, e1, e2, ⟨⟨u, hv, hp, hb⟩, hF⟩, st⟩ | ⟨q, st₀, t, T', L, E, ce, h0, X', hL, e1, e2, ⟨u, hp, hb, hF⟩, hce, hcv, hcl, st⟩
  · cases hv
    obtain ⟨k1, k2, k3⟩ := vx_keep h0 e1 hS hA hf hL hF
    obtain ⟨t2, a1, b1⟩ := kk u t T'.heap (locs ++ L) e1.symm (by rw [← e2]; exact X'.warmed.alike) hp hb k1 k2 k3 T' rfl X'
    exact ⟨t2, st t2 a1, b1⟩
  · obtain ⟨k1, k2, k3⟩ := vx_keep h0 e1 hS hAX hf hL hF
    obtain ⟨t2, a1, b1⟩ := kx E ce q u t T'.heap (locs ++ L) e1.symm (by rw [← e2]; exact X'.warmed.alike) hp hb k1 k2 k3 (by rw [e1]; exact hce) hcv hcl T' rfl X'
    exact ⟨t2, st.trans a1, b1⟩
/-- caught by the row x of this method's table; the rows ahead don't take it -/
theorem vx_catch {own name : String} {E : String} {ce : Cell} {q : Addr} (hown : s.vm.findClass own = some m.cls) (pre : List ExceptionTableEntry) (x : ExceptionTableEntry) (suf : List ExceptionTableEntry) (hsplit : c.exceptionTable.toList = pre ++ x :: suf)
    (hpass : ∀ z ∈ pre, covers z pc = false ∨ (z.catchType ≠ 0 ∧ ∃ nm : String, (Cond.classLink own z.catchType nm).before args s = true ∧ va_Nc E nm s)) (hx : covers x pc = true) (h0 : x.catchType ≠ 0)
    (hlink : (Cond.classLink own x.catchType name).before args s = true) (hcast : (Cond.castable E name).before args s = true) (hcell : H[q]? = some ce) (hv : ce.vm = .none) (hcl : s.vm.findClass E = some ce.cls)
    (kk : W p l e R s m args below meth c H locs cells slots Q (F0 m x.handlerPc ls [.ref q])) : vx_W p l e R s m args below meth c H locs cells slots Q (F0 m pc ls rest) q := by
  intro T hT X
  have hpl : e.platform.magicAccessors = ({} : Platform).magicAccessors := by rw [X.admits.platform]
  obtain ⟨c3, c4, hc3, hc4, hasg⟩ := Cond.castable_spec hcast
  cases Option.some.inj (hc3.symm.trans hcl)
  obtain ⟨c5, hc5, hcl5⟩ := Cond.classLink_spec hown hlink e.platform hpl
  cases Option.some.inj (hc4.symm.trans hc5)
  obtain ⟨vm', X', st⟩ := X.thenCaughtThrough q (g := F0 m pc ls rest) rfl (Steps.refl _) (by rw [hT]; exact hcell) (by rw [hv]; rfl) (by obtain ⟨k9, h9, -⟩ := Vm.findClass_spec hcl; exact ⟨k9, h9⟩) pre x suf hsplit
    (fun z hz => by
      rcases hpass z hz with h | ⟨hz0, nm, hl1, hn1⟩
      · exact Or.inl h
      · obtain ⟨c6, hc6, hcl6⟩ := Cond.classLink_spec hown hl1 e.platform hpl
        obtain ⟨a8, b8, h1, h2, h3⟩ := hn1
        cases Option.some.inj (h1.symm.trans hcl)
        cases Option.some.inj (h2.symm.trans hc6)
        exact Or.inr ⟨hz0, _, hcl6, h3⟩) hx (Or.inr ⟨h0, c4, hcl5, hasg⟩)
  obtain ⟨t, a1, b1⟩ := kk (T.setVm vm') hT X'
  exact ⟨t, st.trans a1, b1⟩
end Rows
section Ends
variable {p : Program} {l : Launch} {e : Env} {R : Room} {s : State} {m : MethodId} {args : Array Value} {below : List Frame} {meth : Method} {c : Code} {H : Heap} {locs : List Loc} {cells slots : Nat} {Q : State → Prop}
variable {mc ms : Nat} {free : Addr → Prop} {A0 A1 : Nat → Prop} {H0 : Heap} {a : Array Value} {ls : Array Slot} {st0 rest : List Value}
variable {Qc : Array Value → State → Outcome → State → Prop} {XC : String → State → State → Prop}
/-- what a body that may throw owes at its end -/
def vx_MQ (below : List Frame) (Qc : Array Value → State → Outcome → State → Prop) (XC : String → State → State → Prop) (a : Array Value) (s : State) (mc ms : Nat) (free : Addr → Prop) : State → Prop := fun t =>
  ∃ o, t.status = .running ∧ Ended t below o ∧ vx_Q Qc XC mc ms free a s o t
theorem vx_ret {g : JFrame} {mc ms : Nat} (k : W p l e R s m args below meth c H locs cells slots (MQ below Qc args s mc ms free) g) : W p l e R s m args below meth c H locs cells slots (vx_MQ below Qc XC args s mc ms free) g := by
  intro T hT X
  obtain ⟨t, a1, o, b1, b2, b3, b4⟩ := k T hT X
  exact ⟨t, a1, o, b1, b2, Or.inl ⟨b3, b4⟩⟩
/-- not caught here: it goes on to the caller -/
theorem vx_widen {g : JFrame} {q : Addr} {k n : Nat} (h1 : cells ≤ k) (h2 : slots ≤ n) (kk : vx_W p l e R s m args below meth c H locs k n Q g q) : vx_W p l e R s m args below meth c H locs cells slots Q g q := fun T hT X => kk T hT (stand_widen X h1 h2)
theorem vx_out {pc : Nat} {E : String} {ce : Cell} {q : Addr} {mc ms : Nat} (hout : ∀ x ∈ c.exceptionTable.toList, covers x pc = false) (hlocks : meth.locks = false) (hcell : H[q]? = some ce) (hv : ce.vm = .none) (hcl : s.vm.findClass E = some ce.cls)
    (hx : ∀ t : State, t.heap = H → s.vm.Alike t.vm → XC E s t) (hf : ∀ z ∈ locs, free z.base) (hc : cells ≤ mc) (hs : slots ≤ ms) :
    vx_W p l e R s m args below meth c H locs cells slots (vx_MQ below Qc XC args s mc ms free) (F0 m pc ls rest) q := by
  intro T hT X
  obtain ⟨st1, hrun, hend, hW, hsm⟩ := X.leaveThrown q (g := F0 m pc ls rest) rfl rfl rfl hout hlocks
  have hcell9 : (T.setFrames (.throwing q :: below)).heap[q]? = some ce := by
    show T.heap[q]? = some ce
    rw [hT]; exact hcell
  exact ⟨_, st1, .threw q, hrun, hend, Or.inr ⟨q, rfl, E, ce, locs, hx _ hT hW.alike, hcell9, hv, hcl, hW, hsm.mono hc hs, hf⟩⟩
theorem vx_frame {U : State} {k n : Nat} (h : s.sameButNew ({ U with vm := s.vm } : State) locs k n) : s.heap.size ≤ U.heap.size ∧ ∀ q : Nat, q < s.heap.size → (∀ z ∈ locs, z.base ≠ q) → U.heap[q]? = s.heap[q]? := by
  obtain ⟨-, h2, -, -, -, h6⟩ := h
  refine ⟨h2, fun q hq hz => ?_⟩
  obtain ⟨c9, e1, e2, e3, e4⟩ := h6 q _ (Array.getElem?_eq_getElem hq)
  have hs : c9.slots = (s.heap[q]).slots := Array.ext_getElem? fun i => e4 i fun hm => hz _ hm rfl
  have h9 : c9 = s.heap[q] := by
    rw [hs] at e2
    exact e2
  have e5 : U.heap[q]? = some c9 := e1
  rw [e5, h9, Array.getElem?_eq_getElem hq]
/-- the words of a throw but the four that speak of the heap -/
def vx_no (w : Cond) : Bool := decide (w ≠ .isRef (.static Bundle.tN "UNASSIGNED_STACK" Bundle.steD)) && decide (w ≠ .isRef (.static Bundle.tN "SUPPRESSED_SENTINEL" Bundle.listD)) && decide (w ≠ .laysStatic Bundle.tN "UNASSIGNED_STACK" Bundle.steD) && decide (w ≠ .laysStatic Bundle.tN "SUPPRESSED_SENTINEL" Bundle.listD)
def vx_at0 (own : String) (ic : Nat) (X : String) (names : List String) : List Cond := (Bundle.ownAtoms0 own ic X names).filter vx_no
def vx_atS (own : String) (ic : Nat) (X : String) (names : List String) : List Cond := (Bundle.ownAtoms own ic X names).filter vx_no
/-- a word that the tables alone decide, or a good one -/
def vx_ot (w : Cond) : Bool := w.onTables || goodWord w
theorem vx_ot_at {args a' : Array Value} {s U : State} {w : Cond} (hW : s.WarmedH U.vm) (hvm : s.vm = U.vm) (hg : vx_ot w = true) (h : w.before args s = true) : w.before a' U = true := by
  simp only [vx_ot, Bool.or_eq_true] at hg
  rcases hg with hg | hg
  · exact va_tabs hg hvm h
  · exact word_at hW (good_of_word hg) h
/-- a list's words: the good ones out of the method's own list, the others by premises of their own -/
theorem vx_hat {args : Array Value} {s : State} {L B : List Cond} (h1 : ∀ w ∈ L.filter goodWord, w.before args s = true) (h2 : ∀ w ∈ L.filter (fun w => !goodWord w), w ∈ B) (h3 : ∀ w ∈ B, w.before args s = true) : ∀ w ∈ L, w.before args s = true := by
  intro w hw
  by_cases g : goodWord w = true
  · exact h1 w (List.mem_filter.mpr ⟨hw, g⟩)
  · refine h3 w (h2 w (List.mem_filter.mpr ⟨hw, ?_⟩))
    show (!goodWord w) = true
    cases hgw : goodWord w
    · rfl
    · exact absurd hgw g
theorem vx_c {args : Array Value} {s : State} {w : Cond} {B : List Cond} (h : w.before args s = true) (t : ∀ w ∈ B, w.before args s = true) : ∀ w' ∈ w :: B, w'.before args s = true := fun w' h' => (List.mem_cons.mp h').elim (fun e => by rw [e]; exact h) (t w')
theorem vx_n {args : Array Value} {s : State} : ∀ w ∈ ([] : List Cond), w.before args s = true := fun _ h => nomatch h
theorem vx_own {args : Array Value} {s : State} {L : List Cond} (h1 : ∀ w ∈ L.filter vx_no, w.before args s = true)
    (hU : (Cond.isRef (.static Bundle.tN "UNASSIGNED_STACK" Bundle.steD)).before args s = true) (hN : (Cond.isRef (.static Bundle.tN "SUPPRESSED_SENTINEL" Bundle.listD)).before args s = true)
    (lU : (Cond.laysStatic Bundle.tN "UNASSIGNED_STACK" Bundle.steD).before args s = true) (lN : (Cond.laysStatic Bundle.tN "SUPPRESSED_SENTINEL" Bundle.listD).before args s = true) : ∀ w ∈ L, w.before args s = true := by
  intro w hw
  by_cases e1 : w = .isRef (.static Bundle.tN "UNASSIGNED_STACK" Bundle.steD)
  · rw [e1]; exact hU
  · by_cases e2 : w = .isRef (.static Bundle.tN "SUPPRESSED_SENTINEL" Bundle.listD)
    · rw [e2]; exact hN
    · by_cases e3 : w = .laysStatic Bundle.tN "UNASSIGNED_STACK" Bundle.steD
      · rw [e3]; exact lU
      · by_cases e4 : w = .laysStatic Bundle.tN "SUPPRESSED_SENTINEL" Bundle.listD
        · rw [e4]; exact lN
        · exact h1 w (List.mem_filter.mpr ⟨hw, by unfold vx_no; rw [decide_eq_true e1, decide_eq_true e2, decide_eq_true e3, decide_eq_true e4]; rfl⟩)
/-- where a static field lies, its class's statics cell in H -/
def vx_L (C n d : String) (A : Nat → Prop) (U : State) (H : Heap) : Prop := ∃ (c : ClassId) (k : Class) (i : Nat) (f : Field) (a : Nat) (cell : Cell), U.vm.findClass C = some c ∧ U.fieldFound? C n d = some (c, k, i, f) ∧ f.isStatic = true ∧ k.statics = some a ∧ H[a]? = some cell ∧ cell.vm.isStatics = true ∧ cell.cls = c ∧ f.slot < cell.slots.size ∧ k.staticTypes[f.slot]? = some f.type ∧ ¬ A a
theorem vx_L.moved {C n d : String} {A : Nat → Prop} {u U : State} {H : Heap} (hvm : u.vm.Alike U.vm) (h : vx_L C n d A u H) : vx_L C n d A U H := by
  obtain ⟨c, k, i, f, a, cell, h1, h2, h3, h4, h5, h6, h7, h8, h9, h10⟩ := h
  obtain ⟨k', hi', he⟩ := State.fieldFound?_setVm hvm h2
  exact ⟨c, k', i, f, a, cell, by rw [hvm.findClass]; exact h1, hi', h3, by rw [he]; exact h4, h5, h6, h7, h8, by rw [he]; exact h9, h10⟩
theorem vx_L.kept {C n d : String} {A : Nat → Prop} {U : State} {H H1 : Heap} (h : vx_L C n d A U H) (hq : ∀ a : Nat, a < H.size → ¬ A a → H1[a]? = H[a]?) : vx_L C n d A U H1 := by
  obtain ⟨c, k, i, f, a, cell, h1, h2, h3, h4, h5, h6, h7, h8, h9, h10⟩ := h
  exact ⟨c, k, i, f, a, cell, h1, h2, h3, h4, by rw [hq a (Array.getElem?_eq_some_iff.mp h5).1 h10]; exact h5, h6, h7, h8, h9, h10⟩
theorem vx_L.narrow {C n d : String} {A B : Nat → Prop} {U : State} {H : Heap} (h : vx_L C n d A U H) (hAB : ∀ q, B q → A q) : vx_L C n d B U H := by
  obtain ⟨c, k, i, f, a, cell, h1, h2, h3, h4, h5, h6, h7, h8, h9, h10⟩ := h
  exact ⟨c, k, i, f, a, cell, h1, h2, h3, h4, h5, h6, h7, h8, h9, fun z => h10 (hAB _ z)⟩
theorem vx_L.word {C n d : String} {A : Nat → Prop} {s : State} {args : Array Value} (h : vx_L C n d A s s.heap) : (Cond.laysStatic C n d).before args s = true := by
  obtain ⟨c, k, i, f, a, cell, h1, h2, h3, h4, h5, h6, h7, h8, h9, -⟩ := h
  show (Cond.laysStatic C n d).holds args s none s [] = true
  exact Cond.laysStatic_of h1 h2 h3 h4 h5 h6 h7 h8 h9
/-- .. and what it holds: null or some reference -/
def vx_Zq (C n d : String) (A : Nat → Prop) (U : State) (H : Heap) : Prop := va_Zq C n d A U H ∧ vx_L C n d A U H
theorem vx_Zq.moved {C n d : String} {A : Nat → Prop} {u U : State} {H : Heap} (hvm : u.vm.Alike U.vm) (h : vx_Zq C n d A u H) : vx_Zq C n d A U H := ⟨va_Zq.moved hvm h.1, vx_L.moved hvm h.2⟩
theorem vx_Zq.kept {C n d : String} {A : Nat → Prop} {U : State} {H H1 : Heap} (h : vx_Zq C n d A U H) (hq : ∀ a : Nat, a < H.size → ¬ A a → H1[a]? = H[a]?) : vx_Zq C n d A U H1 := ⟨va_Zq.kept h.1 hq, vx_L.kept h.2 hq⟩
theorem vx_Zq.narrow {C n d : String} {A B : Nat → Prop} {U : State} {H : Heap} (h : vx_Zq C n d A U H) (hAB : ∀ q, B q → A q) : vx_Zq C n d B U H := ⟨va_Zq.narrow h.1 hAB, vx_L.narrow h.2 hAB⟩
theorem vx_Zqof {args : Array Value} {s : State} {C n d : String} {A : Nat → Prop} (hl : (Cond.laysStatic C n d).before args s = true) (hini : (Cond.initialized C).before args s = true) (h : (Cond.isRef (.static C n d)).before args s = true) (hA : ∀ a : Nat, a < s.heap.size → ¬ A a) : vx_Zq C n d A s s.heap := by
  refine ⟨va_Zqof hl hini h hA, ?_⟩
  obtain ⟨c, k, i, f, a, cell, h1, h2, h3, h4, h5, h6, h7, h8, h9⟩ := Cond.laysStatic_spec hl
  exact ⟨c, k, i, f, a, cell, h1, h2, h3, h4, h5, h6, h7, h8, h9, hA a (Array.getElem?_eq_some_iff.mp h5).1⟩
theorem vx_isRef {C n d : String} {v : Value} {A : Nat → Prop} {s : State} {args : Array Value} (h : va_Z C n d v A s s.heap) (hv : v.isRef = true) : (Cond.isRef (.static C n d)).before args s = true := by
  obtain ⟨cf, kf, fi, f, a, cell, h1, h2, h3, h4, h5, h6, h7, -⟩ := h
  have he : (Term.static C n d).eval args s none [] s = some v := by
    simp [Term.eval, State.fieldNamed?, h1, h2, h4, h5, h6, h7]
  simp only [Cond.before, Cond.holds, Cond.value, he]
  cases v <;> simp_all [Value.isRef]
theorem vx_isRefq {C n d : String} {A : Nat → Prop} {s : State} {args : Array Value} (h : va_Zq C n d A s s.heap) : (Cond.isRef (.static C n d)).before args s = true := by
  rcases h with h | ⟨t, h⟩
  · exact vx_isRef h rfl
  · exact vx_isRef h rfl
/-- the same frame, seen from here: as if the method were called anew in this heap -/
theorem vx_rebase {T : State} (X : Stand p l e R s m args below meth c T locs cells slots) {R' : Room} (hf : R'.frames ≤ R.frames) (hl : R'.locals ≤ R.locals) (hc : cells + R'.cells ≤ R.cells) (hs : slots + R'.slots ≤ R.slots) :
    Stand p l e R' ((T.setVm s.vm).setFrames (.invoking m args :: below)) m args below meth c T [] 0 0 := by
  have htop : (T.setVm s.vm).topJava?.isSome := X.here.top
  have hF : ((T.setVm s.vm).setFrames (.invoking m args :: below)).frames = .invoking m args :: below := State.frames_setFrames _ (State.cur_lt_of_top htop)
  obtain ⟨g₀, hg0⟩ := Option.isSome_iff_exists.mp htop
  obtain ⟨r, hr⟩ := State.topJava?_eq_some.mp hg0
  have hl9 : e.platform.stackLimits (T.setVm s.vm).me = e.platform.stackLimits s.me := X.limits
  have hb9 : (T.setVm s.vm).me.stackBytes = s.me.stackBytes := X.bytes
  refine ⟨X.admits, X.cas, X.clock, hF, ?_, X.hears, X.method, X.code, X.here, X.tail, X.warmed, ?_, ?_, ?_⟩
  · have h := X.room
    have hU : ((T.setVm s.vm).setFrames (.invoking m args :: below)).localsInUse = s.localsInUse := by
      rw [State.localsInUse_invoking hF (meth := meth) (c := c) X.method X.code, State.localsInUse_invoking X.frames X.method X.code]
    simp only [State.hasRoom, Bool.and_eq_true, decide_eq_true_eq] at h ⊢
    obtain ⟨⟨⟨⟨h1, h2, h3, h4, h5, h6⟩, h7⟩, h8⟩, h9⟩ := h
    rw [X.frames, List.length_cons] at h2 h3
    have q1 := X.heapSize
    have q2 := X.used
    simp only [hF, hU, List.length_cons, State.stackLimits_setFrames, State.stackBytes_setFrames, hl9, hb9]
    refine ⟨⟨⟨⟨by omega, by omega, by omega, by omega, by omega, h6⟩, ?_⟩, ?_⟩, X.book⟩
    · show T.heap.size + R'.cells ≤ e.platform.maxCells
      omega
    · show T.slotsUsed + R'.slots ≤ e.platform.maxSlots
      omega
  · rw [State.stackLimits_setFrames]; rfl
  · rw [State.stackBytes_setFrames]; rfl
  · refine ⟨?_, Nat.le_refl _, Nat.le_refl _, ?_, ?_, fun a c9 h9 => ⟨c9, h9, rfl, rfl, fun _ _ => rfl⟩⟩
    · obtain ⟨t, ht, -⟩ := State.frames_cons hr
      show T.setVm s.vm = { ((T.setVm s.vm).setFrames (.invoking m args :: below)).setFrames (T.setVm s.vm).frames with heap := T.heap, slotsUsed := T.slotsUsed }
      rw [State.setFrames_setFrames, State.setFrames_self ht]
      rfl
    · show T.slotsUsed = T.slotsUsed + ((T.heap.toList.drop T.heap.size).map (·.slots.size)).sum
      rw [List.drop_eq_nil_of_le (Nat.le_of_eq Array.length_toList)]
      rfl
    · show ((T.heap.toList.drop T.heap.size).map (·.slots.size)).sum ≤ 0
      rw [List.drop_eq_nil_of_le (Nat.le_of_eq Array.length_toList)]
      exact Nat.le_refl _
/-- 'throw new E()': new; dup; invokespecial; athrow -/
theorem vx_throw0 {cc : ByteArray} {pc : Nat} (hexec : p.tables.exec = Jvm.exec) (hb : c.code = cc) (hl : l.stackTraces = false) {own cls : String} {names : List String} {ik ic mc ms : Nat} {A : Nat → Prop}
    (hown : s.vm.findClass own = some m.cls) (hcls : Bundle.fit cls = true) (hnames : ∀ n ∈ names, Bundle.fit n = true)
    (hk : (Cond.classLink own ik cls).before args s = true) (hini : (Cond.initialized cls).before args s = true) (hat : ∀ w ∈ vx_at0 own ic cls names, w.before args s = true)
    (hgood : ∀ w ∈ Cond.classLink own ik cls :: Cond.initialized cls :: vx_at0 own ic cls names, vx_ot w = true)
    (hU : vx_Zq Bundle.tN "UNASSIGNED_STACK" Bundle.steD A s s.heap) (hN : vx_Zq Bundle.tN "SUPPRESSED_SENTINEL" Bundle.listD A s s.heap) (hS : va_S A s.heap H locs) (hsize : ls.size = c.maxLocals)
    (d0 : decode cc pc = .ok (.new ik, 3)) (d3 : decode cc (pc + 3) = .ok (.dup, 1)) (d4 : decode cc (pc + 4) = .ok (.invokespecial ic, 3)) (d7 : decode cc (pc + 7) = .ok (.athrow, 1))
    (hout : ∀ x ∈ c.exceptionTable.toList, covers x (pc + 7) = false)
    (hRframes : names.length + 3 < R.frames) (hRlocals : (rest.map fun v => v.category).sum + (13 * (names.length + 1) + 42) ≤ R.locals) (hRcells : cells + 1 ≤ R.cells) (hRslots : slots + 6 ≤ R.slots) (hlocks : meth.locks = false)
    (hx : ∀ t : State, s.vm.Alike t.vm → H.size ≤ t.heap.size → (∀ q : Nat, q < H.size → t.heap[q]? = H[q]?) → XC cls s t)
    (hf : ∀ z ∈ locs, free z.base) (hc : cells + 1 ≤ mc) (hs : slots + 6 ≤ ms) :
    W p l e R s m args below meth c H locs cells slots (vx_MQ below Qc XC args s mc ms free) (F0 m pc ls rest) := by
  intro T hT X
  have htr : e.platform.stackTraces = false := (show e.platform.stackTraces = l.stackTraces by rw [X.admits.platform]).trans hl
  have Y := vx_rebase X (R' := { frames := R.frames, locals := R.locals, cells := 1, slots := 6 }) (Nat.le_refl _) (Nat.le_refl _) hRcells hRslots
  obtain ⟨s', hA⟩ : ∃ z, z = (T.setVm s.vm).setFrames (.invoking m args :: below) := ⟨_, rfl⟩
  rw [← hA] at Y
  have hvm : s'.vm = s.vm := by rw [hA]; rfl
  have hhp : s'.heap = H := by rw [hA]; exact hT
  have hW0 : s.WarmedH s'.vm := by rw [hvm]; exact State.WarmedH.refl s
  have hat' : ∀ w ∈ vx_at0 own ic cls names, w.before args s' = true := fun w hw => vx_ot_at hW0 hvm.symm (hgood w (List.mem_cons_of_mem _ (List.mem_cons_of_mem _ hw))) (hat w hw)
  have hk' : (Cond.classLink own ik cls).before args s' = true := vx_ot_at hW0 hvm.symm (hgood _ List.mem_cons_self) hk
  have hini' : (Cond.initialized cls).before args s' = true := vx_ot_at hW0 hvm.symm (hgood _ (List.mem_cons_of_mem _ List.mem_cons_self)) hini
  have hU' : vx_Zq Bundle.tN "UNASSIGNED_STACK" Bundle.steD A s' s'.heap := by rw [hhp]; exact vx_Zq.moved hW0.alike (hU.kept hS.2.1)
  have hN' : vx_Zq Bundle.tN "SUPPRESSED_SENTINEL" Bundle.listD A s' s'.heap := by rw [hhp]; exact vx_Zq.moved hW0.alike (hN.kept hS.2.1)
  have h : ∀ w ∈ Bundle.ownAtoms0 own ic cls names, w.before args s' = true := vx_own hat' (vx_isRefq hU'.1) (vx_isRefq hN'.1) hU'.2.word hN'.2.word
  have hown' : s'.vm.findClass own = some m.cls := by rw [hvm]; exact hown
  have hins : (Cond.instantiable cls 6).before args s' = true := h _ (by simp [Bundle.ownAtoms0])
  obtain ⟨vm₁, cX, kX, hfX, hkX, -, -, X₁, st1⟩ := Y.newCold hexec (own := own) (C := cls) (index := ik) (n := 6) hown' hk' hins hini'
    (g := F0 m pc ls rest) rfl (by rw [hb]; exact d0) (Nat.le_refl _) (Nat.le_refl _)
  generalize hT1 : (T.setVm vm₁).pushCell { cls := cX, slots := kX.instanceTypes.map defaultValue, vm := .none } = T1 at X₁ st1
  have hcat : (Value.ref T.heap.size).category = 1 := rfl
  have hcellA : T1.heap[T.heap.size]? = some (freshCell cX kX) := by rw [← hT1]; exact State.heap_pushCell_size _ _
  have d3' : decode c.code (pc + 3) = .ok (.dup, 1) := by rw [hb]; exact d3
  obtain ⟨U, hsteps, hrun, hend, hW, hsame, ce, hce, hO⟩ := X₁.ctorThrow0 hexec htr (own := own) (cls := cls) (names := names) (ic := ic) hown' hcls hnames h (fun x hx => nomatch hx) hfX hkX hcellA (by rw [hhp, hT]; exact Nat.le_refl _)
    (g := { method := m, pc := pc + 4, locals := ls, stack := .ref T.heap.size :: .ref T.heap.size :: rest, locked := none }) rfl hsize rfl rfl (rest := rest) rfl
    (by rw [hb]; exact d4) (by rw [hb]; exact d7) hout hRframes (by simp only [List.map_cons, List.sum_cons, hcat]; omega) hlocks
  obtain ⟨f1, f2⟩ := vx_frame hsame
  rw [hhp] at f1 f2
  have hWs : s.WarmedH U.vm := State.WarmedH.trans hW0 hW
  have hcl : s.vm.findClass cls = some ce.cls := by
    have h9 := hO.cls
    rw [hvm] at h9
    exact h9
  have hall : s.sameButNew ({ U with vm := s.vm } : State) locs mc ms := by
    subst hA
    obtain ⟨e1, e2⟩ := hsame
    rw [State.setFrames_setFrames] at e1
    have h2 : (T.setVm s.vm).sameButNew ({ U with vm := s.vm } : State) [] (0 + 1) (0 + 6) := ⟨e1, e2⟩
    have h3 := X.same.trans h2
    rw [List.append_nil] at h3
    exact h3.mono hc hs
  refine ⟨U, ?_, .threw T.heap.size, hrun, hend, Or.inr ⟨T.heap.size, rfl, cls, ce, locs, hx U hWs.alike f1 (fun q hq => f2 q hq (fun z hz => nomatch hz)), hce, hO.vm, hcl, hWs, hall, hf⟩⟩
  refine st1 _ ?_
  show Steps p.tables e below (T1.setTop { method := m, pc := pc + 3, locals := ls, stack := .ref T.heap.size :: rest, locked := none }) _
  jvm_step X₁.here [X₁.here.top, hexec, d3', Value.category]
  exact hsteps
/-- 'throw new E("text")': new; dup; ldc; invokespecial; athrow -/
theorem vx_throwS {cc : ByteArray} {pc : Nat} (hexec : p.tables.exec = Jvm.exec) (hb : c.code = cc) (hl : l.stackTraces = false) {own cls text : String} {names : List String} {ik is ic mc ms sa : Nat} {A : Nat → Prop}
    (hown : s.vm.findClass own = some m.cls) (hcls : Bundle.fit cls = true) (hnames : ∀ n ∈ names, Bundle.fit n = true)
    (hk : (Cond.classLink own ik cls).before args s = true) (hini : (Cond.initialized cls).before args s = true) (hstr : vk_R own is text sa s) (hat : ∀ w ∈ vx_atS own ic cls names, w.before args s = true)
    (hgood : ∀ w ∈ Cond.classLink own ik cls :: Cond.initialized cls :: vx_atS own ic cls names, vx_ot w = true)
    (hU : vx_Zq Bundle.tN "UNASSIGNED_STACK" Bundle.steD A s s.heap) (hN : vx_Zq Bundle.tN "SUPPRESSED_SENTINEL" Bundle.listD A s s.heap) (hS : va_S A s.heap H locs) (hsize : ls.size = c.maxLocals)
    (d0 : decode cc pc = .ok (.new ik, 3)) (d3 : decode cc (pc + 3) = .ok (.dup, 1)) (d4 : decode cc (pc + 4) = .ok (.ldc is, 2)) (d6 : decode cc (pc + 6) = .ok (.invokespecial ic, 3)) (d9 : decode cc (pc + 9) = .ok (.athrow, 1))
    (hout : ∀ x ∈ c.exceptionTable.toList, covers x (pc + 9) = false)
    (hRframes : names.length + 3 < R.frames) (hRlocals : (rest.map fun v => v.category).sum + (13 * (names.length + 1) + 43) ≤ R.locals) (hRcells : cells + 1 ≤ R.cells) (hRslots : slots + 6 ≤ R.slots) (hlocks : meth.locks = false)
    (hx : ∀ t : State, s.vm.Alike t.vm → H.size ≤ t.heap.size → (∀ q : Nat, q < H.size → t.heap[q]? = H[q]?) → XC cls s t)
    (hf : ∀ z ∈ locs, free z.base) (hc : cells + 1 ≤ mc) (hs : slots + 6 ≤ ms) :
    W p l e R s m args below meth c H locs cells slots (vx_MQ below Qc XC args s mc ms free) (F0 m pc ls rest) := by
  intro T hT X
  have htr : e.platform.stackTraces = false := (show e.platform.stackTraces = l.stackTraces by rw [X.admits.platform]).trans hl
  have Y := vx_rebase X (R' := { frames := R.frames, locals := R.locals, cells := 1, slots := 6 }) (Nat.le_refl _) (Nat.le_refl _) hRcells hRslots
  obtain ⟨s', hA⟩ : ∃ z, z = (T.setVm s.vm).setFrames (.invoking m args :: below) := ⟨_, rfl⟩
  rw [← hA] at Y
  have hvm : s'.vm = s.vm := by rw [hA]; rfl
  have hhp : s'.heap = H := by rw [hA]; exact hT
  have hW0 : s.WarmedH s'.vm := by rw [hvm]; exact State.WarmedH.refl s
  have hat' : ∀ w ∈ vx_atS own ic cls names, w.before args s' = true := fun w hw => vx_ot_at hW0 hvm.symm (hgood w (List.mem_cons_of_mem _ (List.mem_cons_of_mem _ hw))) (hat w hw)
  have hk' : (Cond.classLink own ik cls).before args s' = true := vx_ot_at hW0 hvm.symm (hgood _ List.mem_cons_self) hk
  have hini' : (Cond.initialized cls).before args s' = true := vx_ot_at hW0 hvm.symm (hgood _ (List.mem_cons_of_mem _ List.mem_cons_self)) hini
  have hU' : vx_Zq Bundle.tN "UNASSIGNED_STACK" Bundle.steD A s' s'.heap := by rw [hhp]; exact vx_Zq.moved hW0.alike (hU.kept hS.2.1)
  have hN' : vx_Zq Bundle.tN "SUPPRESSED_SENTINEL" Bundle.listD A s' s'.heap := by rw [hhp]; exact vx_Zq.moved hW0.alike (hN.kept hS.2.1)
  have h : ∀ w ∈ Bundle.ownAtoms own ic cls names, w.before args s' = true := vx_own hat' (vx_isRefq hU'.1) (vx_isRefq hN'.1) hU'.2.word hN'.2.word
  have hown' : s'.vm.findClass own = some m.cls := by rw [hvm]; exact hown
  have hins : (Cond.instantiable cls 6).before args s' = true := h _ (by simp [Bundle.ownAtoms])
  obtain ⟨vm₁, cX, kX, hfX, hkX, -, -, X₁, st1⟩ := Y.newCold hexec (own := own) (C := cls) (index := ik) (n := 6) hown' hk' hins hini'
    (g := F0 m pc ls rest) rfl (by rw [hb]; exact d0) (Nat.le_refl _) (Nat.le_refl _)
  generalize hT1 : (T.setVm vm₁).pushCell { cls := cX, slots := kX.instanceTypes.map defaultValue, vm := .none } = T1 at X₁ st1
  have hcat : (Value.ref T.heap.size).category = 1 := rfl
  have hcellA : T1.heap[T.heap.size]? = some (freshCell cX kX) := by rw [← hT1]; exact State.heap_pushCell_size _ _
  have d3' : decode c.code (pc + 3) = .ok (.dup, 1) := by rw [hb]; exact d3
  have d4' : decode c.code (pc + 4) = .ok (.ldc is, 2) := by rw [hb]; exact d4
  have hstr' : vk_R own is text sa s' := vk_R.warm hW0 hstr
  obtain ⟨U, hsteps, hrun, hend, hW, hsame, ce, hce, hO⟩ := X₁.ctorThrowS hexec htr (own := own) (cls := cls) (names := names) (ic := ic) hown' hcls hnames h (fun x hx => nomatch hx) hfX hkX hcellA (by rw [hhp, hT]; exact Nat.le_refl _) (msg := .ref sa) rfl
    (g := { method := m, pc := pc + 6, locals := ls, stack := .ref sa :: .ref T.heap.size :: .ref T.heap.size :: rest, locked := none }) rfl hsize rfl rfl (rest := rest) rfl
    (by rw [hb]; exact d6) (by rw [hb]; exact d9) hout hRframes (by simp only [List.map_cons, List.sum_cons, hcat]; omega) hlocks
  obtain ⟨f1, f2⟩ := vx_frame hsame
  rw [hhp] at f1 f2
  have hWs : s.WarmedH U.vm := State.WarmedH.trans hW0 hW
  have hcl : s.vm.findClass cls = some ce.cls := by
    have h9 := hO.cls
    rw [hvm] at h9
    exact h9
  have hall : s.sameButNew ({ U with vm := s.vm } : State) locs mc ms := by
    subst hA
    obtain ⟨e1, e2⟩ := hsame
    rw [State.setFrames_setFrames] at e1
    have h2 : (T.setVm s.vm).sameButNew ({ U with vm := s.vm } : State) [] (0 + 1) (0 + 6) := ⟨e1, e2⟩
    have h3 := X.same.trans h2
    rw [List.append_nil] at h3
    exact h3.mono hc hs
  refine ⟨U, ?_, .threw T.heap.size, hrun, hend, Or.inr ⟨T.heap.size, rfl, cls, ce, locs, hx U hWs.alike f1 (fun q hq => f2 q hq (fun z hz => nomatch hz)), hce, hO.vm, hcl, hWs, hall, hf⟩⟩
  refine st1 _ ?_
  show Steps p.tables e below (T1.setTop { method := m, pc := pc + 3, locals := ls, stack := .ref T.heap.size :: rest, locked := none }) _
  jvm_step X₁.here [X₁.here.top, hexec, d3', Value.category]
  exact X₁.ldcString hexec (own := own) (text := text) (index := is) (a := sa) hown' hstr'.1 hstr'.2
    (g := { method := m, pc := pc + 4, locals := ls, stack := .ref T.heap.size :: .ref T.heap.size :: rest, locked := none }) rfl d4' _ hsteps
/-- 'throw new E("text")', the text by a wide index -/
theorem vx_throwSW {cc : ByteArray} {pc : Nat} (hexec : p.tables.exec = Jvm.exec) (hb : c.code = cc) (hl : l.stackTraces = false) {own cls text : String} {names : List String} {ik is ic mc ms sa : Nat} {A : Nat → Prop}
    (hown : s.vm.findClass own = some m.cls) (hcls : Bundle.fit cls = true) (hnames : ∀ n ∈ names, Bundle.fit n = true)
    (hk : (Cond.classLink own ik cls).before args s = true) (hini : (Cond.initialized cls).before args s = true) (hstr : vk_R own is text sa s) (hat : ∀ w ∈ vx_atS own ic cls names, w.before args s = true)
    (hgood : ∀ w ∈ Cond.classLink own ik cls :: Cond.initialized cls :: vx_atS own ic cls names, vx_ot w = true)
    (hU : vx_Zq Bundle.tN "UNASSIGNED_STACK" Bundle.steD A s s.heap) (hN : vx_Zq Bundle.tN "SUPPRESSED_SENTINEL" Bundle.listD A s s.heap) (hS : va_S A s.heap H locs) (hsize : ls.size = c.maxLocals)
    (d0 : decode cc pc = .ok (.new ik, 3)) (d3 : decode cc (pc + 3) = .ok (.dup, 1)) (d4 : decode cc (pc + 4) = .ok (.ldc_w is, 3)) (d7 : decode cc (pc + 7) = .ok (.invokespecial ic, 3)) (d10 : decode cc (pc + 10) = .ok (.athrow, 1))
    (hout : ∀ x ∈ c.exceptionTable.toList, covers x (pc + 10) = false)
    (hRframes : names.length + 3 < R.frames) (hRlocals : (rest.map fun v => v.category).sum + (13 * (names.length + 1) + 43) ≤ R.locals) (hRcells : cells + 1 ≤ R.cells) (hRslots : slots + 6 ≤ R.slots) (hlocks : meth.locks = false)
    (hx : ∀ t : State, s.vm.Alike t.vm → H.size ≤ t.heap.size → (∀ q : Nat, q < H.size → t.heap[q]? = H[q]?) → XC cls s t)
    (hf : ∀ z ∈ locs, free z.base) (hc : cells + 1 ≤ mc) (hs : slots + 6 ≤ ms) :
    W p l e R s m args below meth c H locs cells slots (vx_MQ below Qc XC args s mc ms free) (F0 m pc ls rest) := by
  intro T hT X
  have htr : e.platform.stackTraces = false := (show e.platform.stackTraces = l.stackTraces by rw [X.admits.platform]).trans hl
  have Y := vx_rebase X (R' := { frames := R.frames, locals := R.locals, cells := 1, slots := 6 }) (Nat.le_refl _) (Nat.le_refl _) hRcells hRslots
  obtain ⟨s', hA⟩ : ∃ z, z = (T.setVm s.vm).setFrames (.invoking m args :: below) := ⟨_, rfl⟩
  rw [← hA] at Y
  have hvm : s'.vm = s.vm := by rw [hA]; rfl
  have hhp : s'.heap = H := by rw [hA]; exact hT
  have hW0 : s.WarmedH s'.vm := by rw [hvm]; exact State.WarmedH.refl s
  have hat' : ∀ w ∈ vx_atS own ic cls names, w.before args s' = true := fun w hw => vx_ot_at hW0 hvm.symm (hgood w (List.mem_cons_of_mem _ (List.mem_cons_of_mem _ hw))) (hat w hw)
  have hk' : (Cond.classLink own ik cls).before args s' = true := vx_ot_at hW0 hvm.symm (hgood _ List.mem_cons_self) hk
  have hini' : (Cond.initialized cls).before args s' = true := vx_ot_at hW0 hvm.symm (hgood _ (List.mem_cons_of_mem _ List.mem_cons_self)) hini
  have hU' : vx_Zq Bundle.tN "UNASSIGNED_STACK" Bundle.steD A s' s'.heap := by rw [hhp]; exact vx_Zq.moved hW0.alike (hU.kept hS.2.1)
  have hN' : vx_Zq Bundle.tN "SUPPRESSED_SENTINEL" Bundle.listD A s' s'.heap := by rw [hhp]; exact vx_Zq.moved hW0.alike (hN.kept hS.2.1)
  have h : ∀ w ∈ Bundle.ownAtoms own ic cls names, w.before args s' = true := vx_own hat' (vx_isRefq hU'.1) (vx_isRefq hN'.1) hU'.2.word hN'.2.word
  have hown' : s'.vm.findClass own = some m.cls := by rw [hvm]; exact hown
  have hins : (Cond.instantiable cls 6).before args s' = true := h _ (by simp [Bundle.ownAtoms])
  obtain ⟨vm₁, cX, kX, hfX, hkX, -, -, X₁, st1⟩ := Y.newCold hexec (own := own) (C := cls) (index := ik) (n := 6) hown' hk' hins hini'
    (g := F0 m pc ls rest) rfl (by rw [hb]; exact d0) (Nat.le_refl _) (Nat.le_refl _)
  generalize hT1 : (T.setVm vm₁).pushCell { cls := cX, slots := kX.instanceTypes.map defaultValue, vm := .none } = T1 at X₁ st1
  have hcat : (Value.ref T.heap.size).category = 1 := rfl
  have hcellA : T1.heap[T.heap.size]? = some (freshCell cX kX) := by rw [← hT1]; exact State.heap_pushCell_size _ _
  have d3' : decode c.code (pc + 3) = .ok (.dup, 1) := by rw [hb]; exact d3
  have d4' : decode c.code (pc + 4) = .ok (.ldc_w is, 3) := by rw [hb]; exact d4
  have hstr' : vk_R own is text sa s' := vk_R.warm hW0 hstr
  obtain ⟨U, hsteps, hrun, hend, hW, hsame, ce, hce, hO⟩ := X₁.ctorThrowS hexec htr (own := own) (cls := cls) (names := names) (ic := ic) hown' hcls hnames h (fun x hx => nomatch hx) hfX hkX hcellA (by rw [hhp, hT]; exact Nat.le_refl _) (msg := .ref sa) rfl
    (g := { method := m, pc := pc + 7, locals := ls, stack := .ref sa :: .ref T.heap.size :: .ref T.heap.size :: rest, locked := none }) rfl hsize rfl rfl (rest := rest) rfl
    (by rw [hb]; exact d7) (by rw [hb]; exact d10) hout hRframes (by simp only [List.map_cons, List.sum_cons, hcat]; omega) hlocks
  obtain ⟨f1, f2⟩ := vx_frame hsame
  rw [hhp] at f1 f2
  have hWs : s.WarmedH U.vm := State.WarmedH.trans hW0 hW
  have hcl : s.vm.findClass cls = some ce.cls := by
    have h9 := hO.cls
    rw [hvm] at h9
    exact h9
  have hall : s.sameButNew ({ U with vm := s.vm } : State) locs mc ms := by
    subst hA
    obtain ⟨e1, e2⟩ := hsame
    rw [State.setFrames_setFrames] at e1
    have h2 : (T.setVm s.vm).sameButNew ({ U with vm := s.vm } : State) [] (0 + 1) (0 + 6) := ⟨e1, e2⟩
    have h3 := X.same.trans h2
    rw [List.append_nil] at h3
    exact h3.mono hc hs
  refine ⟨U, ?_, .threw T.heap.size, hrun, hend, Or.inr ⟨T.heap.size, rfl, cls, ce, locs, hx U hWs.alike f1 (fun q hq => f2 q hq (fun z hz => nomatch hz)), hce, hO.vm, hcl, hWs, hall, hf⟩⟩
  refine st1 _ ?_
  show Steps p.tables e below (T1.setTop { method := m, pc := pc + 3, locals := ls, stack := .ref T.heap.size :: rest, locked := none }) _
  jvm_step X₁.here [X₁.here.top, hexec, d3', Value.category]
  exact X₁.ldcStringW hexec (own := own) (text := text) (index := is) (a := sa) hown' hstr'.1 hstr'.2
    (g := { method := m, pc := pc + 4, locals := ls, stack := .ref T.heap.size :: .ref T.heap.size :: rest, locked := none }) rfl d4' _ hsteps
end Ends
section Bodies
variable {l : Launch}
theorem vx_ofW {y : MethodName} {ws ws' : List Cond} {rm : Room} {Pc : Array Value → State → Prop} {Qc : Array Value → State → Outcome → State → Prop} {XC : String → State → State → Prop} {mc ms : Nat} {free : Addr → Prop} {cc : ByteArray} {maxL : Nat} {ret : Option FieldType}
    (hy : plainName y.cls = true) (hw : ws = Cond.code y cc maxL ret :: ws')
    (body : ∀ p e s m args below meth c s₁, BodyLoose p l y (headSpec ws rm) cc maxL ret e s m args below meth c s₁ → c.maxLocals = maxL → (∀ x ∈ c.exceptionTable.toList, False) → Pc args s →
      W p l e (headSpec ws rm).room s m args below meth c s.heap [] 0 0 (vx_MQ below Qc XC args s mc ms free) (entryFrame m args maxL)) : vx_Met l y ws rm Pc Qc XC mc ms free := by
  refine MetFree.of_bodyS (code := cc) (maxLocals := maxL) (ret := ret) hy ?_ ?_
  · intro args s m h hn
    obtain ⟨meth, c, h1, h2, h3, h4, h5, h6, -, -⟩ := Cond.code_spec hn (atoms_spec (ws := ws) h _ (by rw [hw]; exact List.mem_cons_self))
    exact ⟨meth, c, h1, h2, h3, h4, h5, h6⟩
  · intro p e s m args below meth c s₁ B hml hP _
    have hh0 : s₁.heap = s.heap := by rw [B.state]; rfl
    have ht : ∀ x ∈ c.exceptionTable.toList, False := by
      obtain ⟨meth9, c9, h1, h2, -, -, -, -, h7, -⟩ := Cond.code_spec B.named (atoms_spec (ws := ws) B.pre _ (by rw [hw]; exact List.mem_cons_self))
      cases Option.some.inj (h1.symm.trans B.method)
      cases Option.some.inj (h2.symm.trans (Stand.of_body B).code)
      intro x hx
      rw [Array.isEmpty_iff.mp h7] at hx
      cases hx
    obtain ⟨t, a1, o, b1, b2, b3⟩ := body p e s m args below meth c s₁ B hml ht hP s₁ hh0 (Stand.of_body B)
    exact ⟨t, o, a1, b1, b2, b3⟩
/-- the table of a body with handlers -/
theorem vx_table {p : Program} {x y : MethodName} {S : Spec} {cc bytes : ByteArray} {maxL maxL' : Nat} {ret ret' : Option FieldType} {e : Env} {s s₁ : State} {m : MethodId} {args : Array Value} {below : List Frame} {meth : Method} {c : Code} {hh : List (Nat × Nat × Nat × Nat)}
    (B : BodyLoose p l y S cc maxL ret e s m args below meth c s₁) (h : (Cond.codeWith y bytes maxL' ret' hh).before args s = true) : c.exceptionTable.toList = tableOf hh := by
  obtain ⟨m9, meth9, c9, hn9, h1, h2, -, -, h6, -⟩ := Cond.codeWith_spec h
  cases Option.some.inj (hn9.symm.trans B.named)
  cases Option.some.inj (h1.symm.trans B.method)
  cases Option.some.inj (h2.symm.trans (Stand.of_body B).code)
  rw [← h6, table_eq]
end Bodies
end VXA
/-! ===== END ===== -/
/-! ===== BEGIN a static call of a method with an exception table ===== -/
section VXS
variable {p : Program} {l : Launch} {e : Env} {R : Room} {s : State} {m : MethodId} {args : Array Value} {below : List Frame} {meth : Method} {c : Code} {T : State} {H : Heap} {locs : List Loc} {cells slots : Nat}
abbrev vx_CSW (R : Room) (s : State) (args : Array Value) (own : String) (index : Nat) (y : MethodName) (bytes : ByteArray) (maxL : Nat) (ret : Option FieldType) (hh : List (Nat × Nat × Nat × Nat)) (ws : List Cond) (rm : Room) (mc ms n : Nat) : Prop :=
  (rm.cells = mc ∧ rm.slots = ms ∧ rm.frames + 1 ≤ R.frames ∧ 8 + (maxL + 11) + rm.locals ≤ R.locals ∧ (∀ w ∈ ws, ∀ (a' : Array Value) (U : State), s.WarmedH U.vm → w.before a' U = true) ∧ Cond.codeWith y bytes maxL ret hh ∈ ws) ∧
  (Cond.codeWith y bytes maxL ret hh).before args s = true ∧ (Cond.initialized y.cls).before args s = true ∧ (y.cls ≠ "java/lang/invoke/MethodHandle" ∧ y.cls ≠ "java/lang/invoke/VarHandle") ∧
  (∀ sig, parseMethodDescriptor y.desc = some sig → n = sig.parameters.length) ∧ (Cond.methodLink own index y).before args s = true ∧ (Cond.static y).before args s = true
theorem vx_cwSW {own : String} {index maxL mc ms : Nat} {y : MethodName} {bytes : ByteArray} {ret : Option FieldType} {hh : List (Nat × Nat × Nat × Nat)} {Ts ws ws' : List Cond} {rm : Room} (n : Nat) (ht : ∀ w ∈ Ts, w.before args s = true) (hT : GoodIn Ts (va_wsS own index y ws)) (hw : ws = Cond.codeWith y bytes maxL ret hh :: ws') (hrc : rm.cells = mc) (hrs : rm.slots = ms)
    (hd : y.cls ≠ "java/lang/invoke/MethodHandle" ∧ y.cls ≠ "java/lang/invoke/VarHandle" ∧ (parseMethodDescriptor y.desc).map (fun d => d.parameters.length) = some n) (hR : rm.frames + 1 ≤ R.frames ∧ 8 + (maxL + 11) + rm.locals ≤ R.locals) :
    vx_CSW R s args own index y bytes maxL ret hh ws rm mc ms n := by
  have ok : ∀ w ∈ va_wsS own index y ws, w.before args s = true := fun w h => ht w (hT w h).1
  have hG : GoodIn Ts ws := fun w h => hT w (by unfold va_wsS; exact List.mem_append_right _ h)
  have hc : Cond.codeWith y bytes maxL ret hh ∈ ws := by rw [hw]; exact List.mem_cons_self
  refine ⟨⟨hrc, hrs, hR.1, hR.2, pay_in ht hG, hc⟩, ht _ (hG _ hc).1, ok _ (by simp [va_wsS]), ⟨hd.1, hd.2.1⟩, fun sig h => ?_, ok _ (by simp [va_wsS]), ok _ (by simp [va_wsS])⟩
  have h2 := hd.2.2
  rw [h] at h2
  exact (Option.some.inj h2).symm
theorem vx_callSW (X : Stand p l e R s m args below meth c T locs cells slots) (hexec : p.tables.exec = Jvm.exec) {own : String} {index : Nat} {y : MethodName} {bytes : ByteArray} {maxL : Nat} {ret : Option FieldType} {hh : List (Nat × Nat × Nat × Nat)}
    (hown : s.vm.findClass own = some m.cls) (hlink : (Cond.methodLink own index y).before args s = true) (hstat : (Cond.static y).before args s = true) (hinit : (Cond.initialized y.cls).before args s = true)
    (hcode : (Cond.codeWith y bytes maxL ret hh).before args s = true) (hy : y.cls ≠ "java/lang/invoke/MethodHandle" ∧ y.cls ≠ "java/lang/invoke/VarHandle")
    {W9 : Nat} {Pre : Pt → Array Value → Prop} {Post : Pt → Array Value → Option Value → Pt → Prop} (hK : Back l R p e below s args y 3 W9 Pre Post)
    {g : JFrame} (hg : g.method = m) (hsize : g.locals.size = c.maxLocals) {argsL rest : List Value} (hlen : ∀ sig, parseMethodDescriptor y.desc = some sig → argsL.length = sig.parameters.length)
    (hstack : g.stack = argsL.reverse ++ rest) (hW : 2 * g.monitorRoom + (rest.map fun v => v.category).sum ≤ W9) (hdg : decode c.code g.pc = .ok (.invokestatic index, 3))
    (hpre : ∀ vm₁, s.WarmedH vm₁ → Pre ⟨T.setVm vm₁, locs, cells, slots⟩ argsL.toArray) :
    ∃ (v : Option Value) (vm₁ : Vm) (B : Pt), s.WarmedH vm₁ ∧ Stand p l e R s m args below meth c B.U B.locs B.cells B.slots ∧ Post ⟨T.setVm vm₁, locs, cells, slots⟩ argsL.toArray v B ∧
      ∀ target, Steps p.tables e below (B.U.setTop { g with pc := g.pc + 3, stack := v.toList ++ rest }) target → Steps p.tables e below (T.setTop g) target := by
  obtain ⟨mk, methM, cM, hnamed, hmethM, -, -, -, -, -, -, hsigM⟩ := Cond.codeWith_spec hcode
  have hstatic : methM.isStatic = true := Cond.static_spec hnamed hmethM hstat
  obtain ⟨kP, hkP, -⟩ := className_of_methodNamed hnamed
  have hinitP : kP.init = .initialized := Cond.initialized_spec (findClass_of_methodNamed hnamed) hkP hinit
  obtain ⟨vm₁, X₁, hstep₁⟩ := X.invokestatic hexec hown hlink hnamed hmethM hstatic hkP hinitP hy (g := g) hg (argsL := argsL) (rest := rest) (hlen _ hsigM) hstack hdg
  obtain ⟨v, B, X', hpost, hsteps⟩ := hK m meth c ⟨T.setVm vm₁, locs, cells, slots⟩ { g with stack := rest } (.invokestatic index) mk argsL.toArray X₁ hg hsize hdg hW (X₁.named hnamed) (hpre vm₁ X₁.warmed)
  exact ⟨v, vm₁, B, X₁.warmed, X', hpost, fun target h => hstep₁ _ fun acts => by rw [doInvoke_state]; exact hsteps.trans h⟩
theorem vx_runSW {y : MethodName} {bytes cc : ByteArray} {maxL nL mc ms n index : Nat} {ret : Option FieldType} {hh : List (Nat × Nat × Nat × Nat)} {ws : List Cond} {rm : Room} {Pc : Array Value → State → Prop} {Qc : Array Value → State → Outcome → State → Prop} {free : Addr → Prop} {Ts : List Cond} {own : String} {As rest : List Value} {g : JFrame}
    (S : CallFix p m c cc nL s args Ts own) (hM : Met l y ws rm Pc Qc mc ms free) (cw : vx_CSW R s args own index y bytes maxL ret hh ws rm mc ms n) (hp : PreS s H Pc As)
    (hg : g.method = m) (hn : As.length = n) (hsize : g.locals.size = nL) (hstack : g.stack = As.reverse ++ rest) (hW : 2 * g.monitorRoom + (rest.map fun v => v.category).sum ≤ 8) (hdg : decode cc g.pc = .ok (.invokestatic index, 3)) (hf : cells + mc ≤ R.cells ∧ slots + ms ≤ R.slots) :
    va_Run p l e R s m args below meth c H locs cells slots mc ms g rest (Qc As.toArray) (free) := by
  obtain ⟨⟨hrc, hrs, hfr, hlo, hws, hcw⟩, hcode, hini, hy, hlen, hl, hstt⟩ := cw
  have hK : Back l R p e below s args y 3 8 (PreOf R mc ms Pc) (PostOf Qc mc ms free) := va_backW (hh := hh) (bytes := bytes) (maxL := maxL) (ret := ret) hM hp.1 hrc hrs hfr hlo hws hcw (fun a' U hW => word_at hW (Or.inl (by first | rfl | simp [Cond.onTables, Cond.keeps, Cond.steady])) hini)
  obtain ⟨hx, hb, hml, ho, -⟩ := S
  intro T hT X
  obtain ⟨v, vm₁, ⟨U', l2, c2, s2⟩, hW₁, X', ⟨g', mk, t, L, e1, e2, hq, h1, hL, h2, h3⟩, st⟩ := vx_callSW X hx (hh := hh) (bytes := bytes) (maxL := maxL) (ret := ret) ho hl hstt hini hcode hy hK hg (hsize.trans hml.symm) (argsL := As) (rest := rest) (fun sig h => hn.trans (hlen sig h)) hstack hW (by rw [hb]; exact hdg)
    (fun vm₁ hW₁ => ⟨hf.1, hf.2, hp.2 (T.setVm vm₁) hT hW₁⟩)
  dsimp only [Pt.U, Pt.locs, Pt.cells, Pt.slots] at X' e1 e2 h1 h2 h3 st
  subst h1; subst h2; subst h3
  exact ⟨v, (T.setVm vm₁).calling g' mk As.toArray, t, U', L, hT, X', hL, e1, e2, hq, st⟩
/-- not caught here, past rows that name other classes: it goes on to the caller -/
theorem vx_outP {p : Program} {l : Launch} {e : Env} {R : Room} {s : State} {m : MethodId} {args : Array Value} {below : List Frame} {meth : Method} {c : Code} {H : Heap} {locs : List Loc} {cells slots : Nat} {free : Addr → Prop} {ls : Array Slot} {rest : List Value} {Qc : Array Value → State → Outcome → State → Prop} {XC : String → State → State → Prop}
    {pc : Nat} {own E : String} {ce : Cell} {q : Addr} {mc ms : Nat} (hown : s.vm.findClass own = some m.cls) (hlocks : meth.locks = false)
    (hpass : ∀ z ∈ c.exceptionTable.toList, covers z pc = false ∨ (z.catchType ≠ 0 ∧ ∃ nm : String, (Cond.classLink own z.catchType nm).before args s = true ∧ va_Nc E nm s)) (hcell : H[q]? = some ce) (hv : ce.vm = .none) (hcl : s.vm.findClass E = some ce.cls)
    (hx : ∀ t : State, t.heap = H → s.vm.Alike t.vm → XC E s t) (hf : ∀ z ∈ locs, free z.base) (hc : cells ≤ mc) (hs : slots ≤ ms) :
    vx_W p l e R s m args below meth c H locs cells slots (vx_MQ below Qc XC args s mc ms free) (F0 m pc ls rest) q := by
  intro T hT X
  have hpl : e.platform.magicAccessors = ({} : Platform).magicAccessors := by rw [X.admits.platform]
  obtain ⟨vm', hW', X', st⟩ := X.outThrough hlocks q (g := F0 m pc ls rest) rfl rfl rfl (cell := ce) (by rw [hT]; exact hcell) (by rw [hv]; rfl)
    (by obtain ⟨k9, h9, -⟩ := Vm.findClass_spec hcl; exact ⟨k9, h9⟩) (fun z hz => by
      rcases hpass z hz with h | ⟨hz0, nm, hl1, hn1⟩
      · exact Or.inl h
      · obtain ⟨c6, hc6, hcl6⟩ := Cond.classLink_spec hown hl1 e.platform hpl
        obtain ⟨a8, b8, h1, h2, h3⟩ := hn1
        cases Option.some.inj (h1.symm.trans hcl)
        cases Option.some.inj (h2.symm.trans hc6)
        exact Or.inr ⟨hz0, _, hcl6, h3⟩)
  obtain ⟨g₀, hfr⟩ := X'.frames_eq
  have hcell9 : ((T.setVm vm').setFrames (.throwing q :: below)).heap[q]? = some ce := by
    show T.heap[q]? = some ce
    rw [hT]; exact hcell
  have hend : Ended ((T.setVm vm').setFrames (.throwing q :: below)) below (.threw q) := State.frames_setFrames _ (State.cur_lt_of_frames hfr)
  refine ⟨(T.setVm vm').setFrames (.throwing q :: below), ?_, .threw q, X'.here.running, hend, Or.inr ⟨q, rfl, E, ce, locs, hx _ hT (X'.ends _).1.alike, hcell9, hv, hcl, (X'.ends _).1, (X'.ends _).2.mono hc hs, hf⟩⟩
  rw [X.pushThrowing_eq]
  exact st
/-- a thing of a world lies in the heap -/
theorem vx_lt {D : va_G} {cl : List vw_C} {ws : va_W} {H1 : Heap} (h : va_P D cl ws H1) {k : Nat} {q : Nat × va_E} (hk : ws[k]? = some q) : q.1 < H1.size := (h k q hk).lt
end VXS
/-! ===== END ===== -/
/-! ===== BEGIN methods with a table of their own: called by a name, returning or throwing ===== -/
section VXH
/-! vx_backW, vx_callVX, vx_callSX, vx_callVW, vx_runVW, vx_runVX, vx_runSX, vx_ofWH follow the same proofs as their sisters above (Free/Laws.lean, Shelf42/LK1.lean); vx_outP calls Shelf42/NT130.lean (outThrough). -/
section
variable {l : Launch} {R : Room} {p : Program} {e : Env} {below : List Frame} {s : State} {sargs : Array Value} {y : MethodName} {len W9 : Nat}
theorem vx_backW {ws : List Cond} {rm : Room} {Pc : Array Value → State → Prop} {Qc : Array Value → State → Outcome → State → Prop} {XC : String → State → State → Prop} {mc ms : Nat} {free : Addr → Prop} {bytes : ByteArray} {maxL : Nat} {ret : Option FieldType} {hh : List (Nat × Nat × Nat × Nat)}
    (hM : vx_Met l y ws rm Pc Qc XC mc ms free) (hblind : FrameBlind Pc) (hrc : rm.cells = mc) (hrs : rm.slots = ms)
    (hframes : rm.frames + 1 ≤ R.frames) (hlocals : W9 + (maxL + 11) + rm.locals ≤ R.locals)
    (hws : ∀ w ∈ ws, ∀ a' U, s.WarmedH U.vm → w.before a' U = true) (hcode : Cond.codeWith y bytes maxL ret hh ∈ ws) (hinit : ∀ a' U, s.WarmedH U.vm → (Cond.initialized y.cls).before a' U = true) :
    vx_Back l R p e below s sargs y len W9 (PreOf R mc ms Pc) (PostOf Qc mc ms free) (vx_Post XC mc ms free) := by
  intro m meth c A g ig mk a X hg hsize hdg hW hn hp
  have h1 : (headSpec ws rm).pre.before a A.U = true := atoms_intro fun w hw => hws w hw _ _ X.warmed
  have h2 : (Cond.codeWith y bytes maxL ret hh).before a A.U = true := hws _ hcode _ _ X.warmed
  have h3 : (Cond.initialized y.cls).before a A.U = true := hinit _ _ X.warmed
  have h4 : A.cells + (headSpec ws rm).room.cells ≤ R.cells := by rw [show (headSpec ws rm).room.cells = mc from hrc]; exact hp.1
  have h5 : A.slots + (headSpec ws rm).room.slots ≤ R.slots := by rw [show (headSpec ws rm).room.slots = ms from hrs]; exact hp.2.1
  have hPc : Pc a (A.U.calling g mk a) := hblind _ _ _ _ hp.2.2
  obtain ⟨U, Ls, c0, s0⟩ := A
  dsimp only [Pt.U, Pt.locs, Pt.cells, Pt.slots] at h1 h2 h3 h4 h5 X hn hPc ⊢
  obtain ⟨m9, methY, cY, hn9, hmY, hcY, -, hlY, -⟩ := Cond.codeWith_spec h2
  cases Option.some.inj (hn9.symm.trans hn)
  obtain ⟨kY, hkY, -⟩ := className_of_methodNamed hn
  have hinitY : kY.init = .initialized := Cond.initialized_spec (findClass_of_methodNamed hn) hkY h3
  have h : At U g.method c below := by rw [hg]; exact X.here
  have hlocals9 : W9 + (maxL + 11) + (headSpec ws rm).room.locals ≤ R.locals := hlocals
  have happ : (headSpec ws rm).appliesLoose y e.platform (U.calling g mk a) = true :=
    Spec.appliesLoose_calling (g := g) h hdg hn hkY hinitY
      (X.room_calling (g := g) (R' := (headSpec ws rm).room) hsize hmY hcY hframes (by rw [hlY]; omega) h4 h5) h1
  obtain ⟨mid, hmid⟩ := h.above
  have hfr : (U.setTop g).frames = (.java g :: mid) ++ below := by rw [State.frames_setTop' g h.top, hmid]; rfl
  obtain ⟨o, s₂, hsteps, -, hend, hq⟩ := Steps.callFree hM p X.admits X.cas X.clock (acts := []) hfr happ hPc trivial
  have hq' : vx_Q Qc XC mc ms free a (U.calling g mk a) o s₂ := hq
  rw [State.frames_setTop' g h.top] at hend
  obtain ⟨g₀, hg0⟩ := Option.isSome_iff_exists.mp h.top
  obtain ⟨r, hr⟩ := State.topJava?_eq_some.mp hg0
  have hr' : (({ U with heap := s₂.heap, slotsUsed := s₂.slotsUsed } : State).setVm s₂.vm).frames = .java g₀ :: r := hr
  rcases hq' with ⟨hqc, L, hfe, hL⟩ | ⟨q, rfl, E, ce, L, hx, hce, hcv, hcl, hW₂, hsm, hL⟩
  · obtain ⟨⟨v, rfl⟩, hW₂, e2, q2, q3, q4, q5, q6⟩ := id hfe
    have e3 : s₂ = ({ (U.calling g mk a).setFrames s₂.frames with heap := s₂.heap, slotsUsed := s₂.slotsUsed } : State).setVm s₂.vm := by
      have : s₂ = ({ s₂ with vm := (U.calling g mk a).vm } : State).setVm s₂.vm := rfl
      rw [e2] at this
      exact this
    obtain ⟨c₂, i₂, len₂, hc₂, hd₂, hf₂⟩ := hend
    have hW' : U.WarmedH s₂.vm := hW₂
    have hcc : c₂ = c := by
      have h1 : s₂.code? g.method = U.code? g.method := by
        rw [State.code?_eq, State.code?_eq, hW'.alike.method?]
      exact Option.some.inj (hc₂.symm.trans (h1.trans h.code))
    subst hcc
    have hlen : len₂ = len := by rw [hdg] at hd₂; cases hd₂; rfl
    subst hlen
    have hs₂ : s₂ = (({ U with heap := s₂.heap, slotsUsed := s₂.slotsUsed } : State).setVm s₂.vm).setTop { g with pc := g.pc + len₂, stack := v.toList ++ g.stack } := by
      refine e3.trans ?_
      rw [hf₂, State.calling_eq h.top, State.setFrames_setFrames, State.setTop_of_frames _ hr', hr]
      rfl
    have hsame : U.sameButNew ({ U with heap := s₂.heap, slotsUsed := s₂.slotsUsed } : State) L mc ms := by
      refine ⟨?_, q2, q3, q4, q5, q6⟩
      obtain ⟨t, ht, -⟩ := State.frames_cons hr
      show ({ U with heap := s₂.heap, slotsUsed := s₂.slotsUsed } : State) = { U.setFrames U.frames with heap := s₂.heap, slotsUsed := s₂.slotsUsed }
      rw [State.setFrames_self ht]
    subst hg
    refine Or.inl ⟨v, ⟨(({ U with heap := s₂.heap, slotsUsed := s₂.slotsUsed } : State).setVm s₂.vm), Ls ++ L, c0 + mc, s0 + ms⟩,
      ⟨X.admits, X.cas, X.clock, X.frames, X.room, X.hears, X.method, X.code, (X.here.setHeapUsed s₂.heap s₂.slotsUsed).setVm hW'.alike, X.tail, State.WarmedH.trans X.warmed hW', X.limits, X.bytes, X.same.trans (hsame.setVm s.vm)⟩,
      ⟨g, mk, s₂, L, rfl, rfl, hqc, rfl, hL, rfl, rfl⟩, ?_⟩
    show Steps p.tables e below _ ((({ U with heap := s₂.heap, slotsUsed := s₂.slotsUsed } : State).setVm s₂.vm).setTop { g with pc := g.pc + len₂, stack := v.toList ++ g.stack })
    rw [← hs₂]
    exact hsteps
  · obtain ⟨e2, q2, q3, q4, q5, q6⟩ := id hsm
    have e3 : s₂ = ({ (U.calling g mk a).setFrames s₂.frames with heap := s₂.heap, slotsUsed := s₂.slotsUsed } : State).setVm s₂.vm := by
      have : s₂ = ({ s₂ with vm := (U.calling g mk a).vm } : State).setVm s₂.vm := rfl
      rw [e2] at this
      exact this
    have hf₂ : s₂.frames = .throwing q :: .java g :: U.frames.tail := hend
    have hW' : U.WarmedH s₂.vm := hW₂
    have hs₂ : s₂ = ((({ U with heap := s₂.heap, slotsUsed := s₂.slotsUsed } : State).setVm s₂.vm).setTop g).pushFrame (.throwing q) := by
      refine e3.trans ?_
      rw [hf₂, State.calling_eq h.top, State.setFrames_setFrames, State.pushFrame, State.frames_setTop _ hr', State.setTop_of_frames _ hr', State.setFrames_setFrames, hr]
      rfl
    have hsame : U.sameButNew ({ U with heap := s₂.heap, slotsUsed := s₂.slotsUsed } : State) L mc ms := by
      refine ⟨?_, q2, q3, q4, q5, q6⟩
      obtain ⟨t, ht, -⟩ := State.frames_cons hr
      show ({ U with heap := s₂.heap, slotsUsed := s₂.slotsUsed } : State) = { U.setFrames U.frames with heap := s₂.heap, slotsUsed := s₂.slotsUsed }
      rw [State.setFrames_self ht]
    subst hg
    refine Or.inr ⟨q, ⟨(({ U with heap := s₂.heap, slotsUsed := s₂.slotsUsed } : State).setVm s₂.vm), Ls ++ L, c0 + mc, s0 + ms⟩,
      ⟨X.admits, X.cas, X.clock, X.frames, X.room, X.hears, X.method, X.code, (X.here.setHeapUsed s₂.heap s₂.slotsUsed).setVm hW'.alike, X.tail, State.WarmedH.trans X.warmed hW', X.limits, X.bytes, X.same.trans (hsame.setVm s.vm)⟩,
      ⟨g, mk, s₂, L, E, ce, rfl, rfl, hx, hce, hcv, hcl, rfl, hL, rfl, rfl⟩, ?_⟩
    show Steps p.tables e below _ (((({ U with heap := s₂.heap, slotsUsed := s₂.slotsUsed } : State).setVm s₂.vm).setTop g).pushFrame (.throwing q))
    rw [← hs₂]
    exact hsteps
end
variable {p : Program} {l : Launch} {e : Env} {R : Room} {s : State} {m : MethodId} {args : Array Value} {below : List Frame} {meth : Method} {c : Code} {T : State} {H : Heap} {locs : List Loc} {cells slots : Nat}
theorem vx_callVX (X : Stand p l e R s m args below meth c T locs cells slots) (hexec : p.tables.exec = Jvm.exec) {own C : String} {index : Nat} {y : MethodName} {bytes : ByteArray} {maxL : Nat} {ret : Option FieldType} {hh : List (Nat × Nat × Nat × Nat)}
    (hown : s.vm.findClass own = some m.cls) (hlink : (Cond.methodLink own index y).before args s = true) (hinst : (Cond.instanceMethod y).before args s = true) (hsel : (Cond.selects C y y).before args s = true)
    (hcode : (Cond.codeWith y bytes maxL ret hh).before args s = true) (hy : y.cls ≠ "java/lang/invoke/MethodHandle" ∧ y.cls ≠ "java/lang/invoke/VarHandle")
    {W9 : Nat} {Pre : Pt → Array Value → Prop} {Post : Pt → Array Value → Option Value → Pt → Prop} {PostX : Pt → Array Value → Addr → Pt → Prop} (hK : vx_Back l R p e below s args y 3 W9 Pre Post PostX)
    {b : Addr} {cellB : Cell} (hcell : T.heap[b]? = some cellB) (hobj : cellB.vm.isStatics = false) (hcls : s.vm.findClass C = some cellB.cls)
    {g : JFrame} (hg : g.method = m) (hsize : g.locals.size = c.maxLocals) {argsL rest : List Value} (hlen : ∀ sig, parseMethodDescriptor y.desc = some sig → argsL.length = sig.parameters.length)
    (hstack : g.stack = argsL.reverse ++ .ref b :: rest) (hW : 2 * g.monitorRoom + (rest.map fun v => v.category).sum ≤ W9) (hdg : decode c.code g.pc = .ok (.invokevirtual index, 3))
    (hpre : ∀ vm₁, s.WarmedH vm₁ → Pre ⟨T.setVm vm₁, locs, cells, slots⟩ (Value.ref b :: argsL).toArray) :
    (∃ (v : Option Value) (vm₁ : Vm) (B : Pt), s.WarmedH vm₁ ∧ Stand p l e R s m args below meth c B.U B.locs B.cells B.slots ∧ Post ⟨T.setVm vm₁, locs, cells, slots⟩ (Value.ref b :: argsL).toArray v B ∧
      ∀ target, Steps p.tables e below (B.U.setTop { g with pc := g.pc + 3, stack := v.toList ++ rest }) target → Steps p.tables e below (T.setTop g) target) ∨
    (∃ (q : Addr) (vm₁ : Vm) (B : Pt), s.WarmedH vm₁ ∧ Stand p l e R s m args below meth c B.U B.locs B.cells B.slots ∧ PostX ⟨T.setVm vm₁, locs, cells, slots⟩ (Value.ref b :: argsL).toArray q B ∧
      Steps p.tables e below (T.setTop g) ((B.U.setTop { g with stack := rest }).pushFrame (.throwing q))) := by
  obtain ⟨mk, methM, hnamed, hmethM, hstM, habM⟩ := Cond.instanceMethod_spec hinst
  obtain ⟨m8, methM', cM, hn8, hmethM', -, -, -, -, -, -, hsigM⟩ := Cond.codeWith_spec hcode
  cases Option.some.inj (hn8.symm.trans hnamed)
  cases hmethM.symm.trans hmethM'
  obtain ⟨c2, r2, m2, q1, q2, q3, q4, kP, hkP, hkPi⟩ := Cond.selects_spec hsel
  cases hcls.symm.trans q1
  cases (State.methodFound?_of_named hnamed hy).symm.trans q2
  cases hnamed.symm.trans q3
  have hselP : selectMethod e.platform s.vm cellB.cls mk = .method mk := by rw [Launch.admits_selectMethod X.admits]; exact q4
  obtain ⟨vm₁, X₁, hstep₁⟩ := X.invokevirtual hexec hown hlink hnamed hmethM hstM hkP hkPi hy (a := b) (cell := cellB) hcell
    (fun z h => by rw [h] at hobj; cases hobj) hselP hmethM habM hkP hkPi (g := g) hg (argsL := argsL) (rest := rest) (hlen _ hsigM) hstack hdg
  rcases hK m meth c ⟨T.setVm vm₁, locs, cells, slots⟩ { g with stack := rest } (.invokevirtual index) mk (Value.ref b :: argsL).toArray X₁ hg hsize hdg hW (X₁.named hnamed) (hpre vm₁ X₁.warmed) with ⟨v, B, X', hpost, hsteps⟩ | ⟨q, B, X', hpost, hsteps⟩
  · exact Or.inl ⟨v, vm₁, B, X₁.warmed, X', hpost, fun target h => hstep₁ _ fun acts => by rw [doInvoke_state]; exact hsteps.trans h⟩
  · exact Or.inr ⟨q, vm₁, B, X₁.warmed, X', hpost, hstep₁ _ fun acts => by rw [doInvoke_state]; exact hsteps⟩
theorem vx_callSX (X : Stand p l e R s m args below meth c T locs cells slots) (hexec : p.tables.exec = Jvm.exec) {own : String} {index : Nat} {y : MethodName} {bytes : ByteArray} {maxL : Nat} {ret : Option FieldType} {hh : List (Nat × Nat × Nat × Nat)}
    (hown : s.vm.findClass own = some m.cls) (hlink : (Cond.methodLink own index y).before args s = true) (hstat : (Cond.static y).before args s = true) (hinit : (Cond.initialized y.cls).before args s = true)
    (hcode : (Cond.codeWith y bytes maxL ret hh).before args s = true) (hy : y.cls ≠ "java/lang/invoke/MethodHandle" ∧ y.cls ≠ "java/lang/invoke/VarHandle")
    {W9 : Nat} {Pre : Pt → Array Value → Prop} {Post : Pt → Array Value → Option Value → Pt → Prop} {PostX : Pt → Array Value → Addr → Pt → Prop} (hK : vx_Back l R p e below s args y 3 W9 Pre Post PostX)
    {g : JFrame} (hg : g.method = m) (hsize : g.locals.size = c.maxLocals) {argsL rest : List Value} (hlen : ∀ sig, parseMethodDescriptor y.desc = some sig → argsL.length = sig.parameters.length)
    (hstack : g.stack = argsL.reverse ++ rest) (hW : 2 * g.monitorRoom + (rest.map fun v => v.category).sum ≤ W9) (hdg : decode c.code g.pc = .ok (.invokestatic index, 3))
    (hpre : ∀ vm₁, s.WarmedH vm₁ → Pre ⟨T.setVm vm₁, locs, cells, slots⟩ argsL.toArray) :
    (∃ (v : Option Value) (vm₁ : Vm) (B : Pt), s.WarmedH vm₁ ∧ Stand p l e R s m args below meth c B.U B.locs B.cells B.slots ∧ Post ⟨T.setVm vm₁, locs, cells, slots⟩ argsL.toArray v B ∧
      ∀ target, Steps p.tables e below (B.U.setTop { g with pc := g.pc + 3, stack := v.toList ++ rest }) target → Steps p.tables e below (T.setTop g) target) ∨
    (∃ (q : Addr) (vm₁ : Vm) (B : Pt), s.WarmedH vm₁ ∧ Stand p l e R s m args below meth c B.U B.locs B.cells B.slots ∧ PostX ⟨T.setVm vm₁, locs, cells, slots⟩ argsL.toArray q B ∧
      Steps p.tables e below (T.setTop g) ((B.U.setTop { g with stack := rest }).pushFrame (.throwing q))) := by
  obtain ⟨mk, methM, cM, hnamed, hmethM, -, -, -, -, -, -, hsigM⟩ := Cond.codeWith_spec hcode
  have hstatic : methM.isStatic = true := Cond.static_spec hnamed hmethM hstat
  obtain ⟨kP, hkP, -⟩ := className_of_methodNamed hnamed
  have hinitP : kP.init = .initialized := Cond.initialized_spec (findClass_of_methodNamed hnamed) hkP hinit
  obtain ⟨vm₁, X₁, hstep₁⟩ := X.invokestatic hexec hown hlink hnamed hmethM hstatic hkP hinitP hy (g := g) hg (argsL := argsL) (rest := rest) (hlen _ hsigM) hstack hdg
  rcases hK m meth c ⟨T.setVm vm₁, locs, cells, slots⟩ { g with stack := rest } (.invokestatic index) mk argsL.toArray X₁ hg hsize hdg hW (X₁.named hnamed) (hpre vm₁ X₁.warmed) with ⟨v, B, X', hpost, hsteps⟩ | ⟨q, B, X', hpost, hsteps⟩
  · exact Or.inl ⟨v, vm₁, B, X₁.warmed, X', hpost, fun target h => hstep₁ _ fun acts => by rw [doInvoke_state]; exact hsteps.trans h⟩
  · exact Or.inr ⟨q, vm₁, B, X₁.warmed, X', hpost, hstep₁ _ fun acts => by rw [doInvoke_state]; exact hsteps⟩
theorem vx_callVW (X : Stand p l e R s m args below meth c T locs cells slots) (hexec : p.tables.exec = Jvm.exec) {own C : String} {index : Nat} {y : MethodName} {bytes : ByteArray} {maxL : Nat} {ret : Option FieldType} {hh : List (Nat × Nat × Nat × Nat)}
    (hown : s.vm.findClass own = some m.cls) (hlink : (Cond.methodLink own index y).before args s = true) (hinst : (Cond.instanceMethod y).before args s = true) (hsel : (Cond.selects C y y).before args s = true)
    (hcode : (Cond.codeWith y bytes maxL ret hh).before args s = true) (hy : y.cls ≠ "java/lang/invoke/MethodHandle" ∧ y.cls ≠ "java/lang/invoke/VarHandle")
    {W9 : Nat} {Pre : Pt → Array Value → Prop} {Post : Pt → Array Value → Option Value → Pt → Prop} (hK : Back l R p e below s args y 3 W9 Pre Post)
    {b : Addr} {cellB : Cell} (hcell : T.heap[b]? = some cellB) (hobj : cellB.vm.isStatics = false) (hcls : s.vm.findClass C = some cellB.cls)
    {g : JFrame} (hg : g.method = m) (hsize : g.locals.size = c.maxLocals) {argsL rest : List Value} (hlen : ∀ sig, parseMethodDescriptor y.desc = some sig → argsL.length = sig.parameters.length)
    (hstack : g.stack = argsL.reverse ++ .ref b :: rest) (hW : 2 * g.monitorRoom + (rest.map fun v => v.category).sum ≤ W9) (hdg : decode c.code g.pc = .ok (.invokevirtual index, 3))
    (hpre : ∀ vm₁, s.WarmedH vm₁ → Pre ⟨T.setVm vm₁, locs, cells, slots⟩ (Value.ref b :: argsL).toArray) :
    ∃ (v : Option Value) (vm₁ : Vm) (B : Pt), s.WarmedH vm₁ ∧ Stand p l e R s m args below meth c B.U B.locs B.cells B.slots ∧ Post ⟨T.setVm vm₁, locs, cells, slots⟩ (Value.ref b :: argsL).toArray v B ∧
      ∀ target, Steps p.tables e below (B.U.setTop { g with pc := g.pc + 3, stack := v.toList ++ rest }) target → Steps p.tables e below (T.setTop g) target := by
  obtain ⟨mk, methM, hnamed, hmethM, hstM, habM⟩ := Cond.instanceMethod_spec hinst
  obtain ⟨m8, methM', cM, hn8, hmethM', -, -, -, -, -, -, hsigM⟩ := Cond.codeWith_spec hcode
  cases Option.some.inj (hn8.symm.trans hnamed)
  cases hmethM.symm.trans hmethM'
  obtain ⟨c2, r2, m2, q1, q2, q3, q4, kP, hkP, hkPi⟩ := Cond.selects_spec hsel
  cases hcls.symm.trans q1
  cases (State.methodFound?_of_named hnamed hy).symm.trans q2
  cases hnamed.symm.trans q3
  have hselP : selectMethod e.platform s.vm cellB.cls mk = .method mk := by rw [Launch.admits_selectMethod X.admits]; exact q4
  obtain ⟨vm₁, X₁, hstep₁⟩ := X.invokevirtual hexec hown hlink hnamed hmethM hstM hkP hkPi hy (a := b) (cell := cellB) hcell
    (fun z h => by rw [h] at hobj; cases hobj) hselP hmethM habM hkP hkPi (g := g) hg (argsL := argsL) (rest := rest) (hlen _ hsigM) hstack hdg
  obtain ⟨v, B, X', hpost, hsteps⟩ := hK m meth c ⟨T.setVm vm₁, locs, cells, slots⟩ { g with stack := rest } (.invokevirtual index) mk (Value.ref b :: argsL).toArray X₁ hg hsize hdg hW (X₁.named hnamed) (hpre vm₁ X₁.warmed)
  exact ⟨v, vm₁, B, X₁.warmed, X', hpost, fun target h => hstep₁ _ fun acts => by rw [doInvoke_state]; exact hsteps.trans h⟩
abbrev vx_CVW (R : Room) (s : State) (args : Array Value) (own C : String) (index : Nat) (y : MethodName) (bytes : ByteArray) (maxL : Nat) (ret : Option FieldType) (hh : List (Nat × Nat × Nat × Nat)) (ws : List Cond) (rm : Room) (mc ms n : Nat) : Prop :=
  (rm.cells = mc ∧ rm.slots = ms ∧ rm.frames + 1 ≤ R.frames ∧ 8 + (maxL + 11) + rm.locals ≤ R.locals ∧ (∀ w ∈ ws, ∀ (a' : Array Value) (U : State), s.WarmedH U.vm → w.before a' U = true) ∧ Cond.codeWith y bytes maxL ret hh ∈ ws) ∧
  (Cond.codeWith y bytes maxL ret hh).before args s = true ∧ (Cond.initialized y.cls).before args s = true ∧ (y.cls ≠ "java/lang/invoke/MethodHandle" ∧ y.cls ≠ "java/lang/invoke/VarHandle") ∧
  (∀ sig, parseMethodDescriptor y.desc = some sig → n = sig.parameters.length) ∧ (Cond.methodLink own index y).before args s = true ∧ (Cond.instanceMethod y).before args s = true ∧ (Cond.selects C y y).before args s = true
theorem vx_cwVW {own C : String} {index maxL mc ms : Nat} {y : MethodName} {bytes : ByteArray} {ret : Option FieldType} {hh : List (Nat × Nat × Nat × Nat)} {Ts ws ws' : List Cond} {rm : Room} (n : Nat) (ht : ∀ w ∈ Ts, w.before args s = true) (hT : GoodIn Ts (wsV own index C y ws)) (hw : ws = Cond.codeWith y bytes maxL ret hh :: ws') (hrc : rm.cells = mc) (hrs : rm.slots = ms)
    (hd : y.cls = C ∧ y.cls ≠ "java/lang/invoke/MethodHandle" ∧ y.cls ≠ "java/lang/invoke/VarHandle" ∧ (parseMethodDescriptor y.desc).map (fun d => d.parameters.length) = some n) (hR : rm.frames + 1 ≤ R.frames ∧ 8 + (maxL + 11) + rm.locals ≤ R.locals) :
    vx_CVW R s args own C index y bytes maxL ret hh ws rm mc ms n := by
  obtain ⟨hC, hd⟩ := hd
  subst hC
  have ok : ∀ w ∈ wsV own index y.cls y ws, w.before args s = true := fun w h => ht w (hT w h).1
  have hG : GoodIn Ts ws := fun w h => hT w (by unfold wsV; exact List.mem_append_right _ h)
  have hc : Cond.codeWith y bytes maxL ret hh ∈ ws := by rw [hw]; exact List.mem_cons_self
  refine ⟨⟨hrc, hrs, hR.1, hR.2, pay_in ht hG, hc⟩, ht _ (hG _ hc).1, ok _ (by simp [wsV]), ⟨hd.1, hd.2.1⟩, fun sig h => ?_, ok _ (by simp [wsV]), ok _ (by simp [wsV]), ok _ (by simp [wsV])⟩
  have h2 := hd.2.2
  rw [h] at h2
  exact (Option.some.inj h2).symm
theorem vx_runVW {y : MethodName} {bytes cc : ByteArray} {maxL nL mc ms n index : Nat} {ret : Option FieldType} {hh : List (Nat × Nat × Nat × Nat)} {ws : List Cond} {rm : Room} {Pc : Array Value → State → Prop} {Qc : Array Value → State → Outcome → State → Prop} {free : Addr → Prop} {Ts : List Cond} {own C : String} {b : Addr} {As rest : List Value} {g : JFrame}
    (S : CallFix p m c cc nL s args Ts own) (hM : Met l y ws rm Pc Qc mc ms free) (cw : vx_CVW R s args own C index y bytes maxL ret hh ws rm mc ms n) (hp : PreV s H C b Pc As)
    (hg : g.method = m) (hn : As.length = n) (hsize : g.locals.size = nL) (hstack : g.stack = As.reverse ++ .ref b :: rest) (hW : 2 * g.monitorRoom + (rest.map fun v => v.category).sum ≤ 8) (hdg : decode cc g.pc = .ok (.invokevirtual index, 3)) (hf : cells + mc ≤ R.cells ∧ slots + ms ≤ R.slots) :
    va_Run p l e R s m args below meth c H locs cells slots mc ms g rest (Qc (Value.ref b :: As).toArray) free := by
  obtain ⟨⟨hrc, hrs, hfr, hlo, hws, hcw⟩, hcode, hini, hy, hlen, hl, hin, hse⟩ := cw
  have hK : Back l R p e below s args y 3 8 (PreOf R mc ms Pc) (PostOf Qc mc ms free) := va_backW (hh := hh) (bytes := bytes) (maxL := maxL) (ret := ret) hM hp.1 hrc hrs hfr hlo hws hcw (fun a' U hW => word_at hW (Or.inl (by first | rfl | simp [Cond.onTables, Cond.keeps, Cond.steady])) hini)
  obtain ⟨hx, hb, hml, ho, -⟩ := S
  obtain ⟨-, ⟨cellB, hcB, hoB, hclB⟩, hPc⟩ := hp
  intro T hT X
  obtain ⟨v, vm₁, ⟨U', l2, c2, s2⟩, hW₁, X', ⟨g', mk, t, L, e1, e2, hq, h1, hL, h2, h3⟩, st⟩ := vx_callVW X hx (C := C) (hh := hh) (bytes := bytes) (maxL := maxL) (ret := ret) ho hl hin hse hcode hy hK (by rw [hT]; exact hcB) hoB hclB hg (hsize.trans hml.symm) (argsL := As) (rest := rest) (fun sig h => hn.trans (hlen sig h)) hstack hW (by rw [hb]; exact hdg)
    (fun vm₁ hW₁ => ⟨hf.1, hf.2, hPc (T.setVm vm₁) hT hW₁⟩)
  dsimp only [Pt.U, Pt.locs, Pt.cells, Pt.slots] at X' e1 e2 h1 h2 h3 st
  subst h1; subst h2; subst h3
  exact ⟨v, (T.setVm vm₁).calling g' mk (Value.ref b :: As).toArray, t, U', L, hT, X', hL, e1, e2, hq, st⟩
section
variable {y : MethodName} {bytes cc : ByteArray} {maxL nL mc ms n index : Nat} {ret : Option FieldType} {ws : List Cond} {rm : Room} {Pc : Array Value → State → Prop} {Qc : Array Value → State → Outcome → State → Prop} {XC : String → State → State → Prop} {free : Addr → Prop} {Ts : List Cond} {own C : String} {b : Addr} {As rest : List Value} {g : JFrame}
theorem vx_runVX {hh : List (Nat × Nat × Nat × Nat)} (S : CallFix p m c cc nL s args Ts own) (hM : vx_Met l y ws rm Pc Qc XC mc ms free) (cw : vx_CVW R s args own C index y bytes maxL ret hh ws rm mc ms n) (hp : PreV s H C b Pc As)
    (hg : g.method = m) (hn : As.length = n) (hsize : g.locals.size = nL) (hstack : g.stack = As.reverse ++ .ref b :: rest) (hW : 2 * g.monitorRoom + (rest.map fun v => v.category).sum ≤ 8) (hdg : decode cc g.pc = .ok (.invokevirtual index, 3)) (hf : cells + mc ≤ R.cells ∧ slots + ms ≤ R.slots) :
    vx_Run p l e R s m args below meth c H locs cells slots mc ms g rest (Qc (Value.ref b :: As).toArray) XC free := by
  obtain ⟨⟨hrc, hrs, hfr, hlo, hws, hcw⟩, hcode, hini, hy, hlen, hl, hin, hse⟩ := cw
  have hK : vx_Back l R p e below s args y 3 8 (PreOf R mc ms Pc) (PostOf Qc mc ms free) (vx_Post XC mc ms free) := vx_backW (hh := hh) (bytes := bytes) (maxL := maxL) (ret := ret) hM hp.1 hrc hrs hfr hlo hws hcw (fun a' U hW => word_at hW (Or.inl (by first | rfl | simp [Cond.onTables, Cond.keeps, Cond.steady])) hini)
  obtain ⟨hx, hb, hml, ho, -⟩ := S
  obtain ⟨-, ⟨cellB, hcB, hoB, hclB⟩, hPc⟩ := hp
  intro T hT X
  rcases vx_callVX X hx (C := C) (hh := hh) (bytes := bytes) (maxL := maxL) (ret := ret) ho hl hin hse hcode hy hK (by rw [hT]; exact hcB) hoB hclB hg (hsize.trans hml.symm) (argsL := As) (rest := rest) (fun sig h => hn.trans (hlen sig h)) hstack hW (by rw [hb]; exact hdg)
    (fun vm₁ hW₁ => ⟨hf.1, hf.2, hPc (T.setVm vm₁) hT hW₁⟩) with ⟨v, vm₁, ⟨U', l2, c2, s2⟩, hW₁, X', ⟨g', mk, t, L, e1, e2, hq, h1, hL, h2, h3⟩, st⟩ | ⟨q, vm₁, ⟨U', l2, c2, s2⟩, hW₁, X', ⟨g', mk, t, L, E, ce, e1, e2, hq, hce, hcv, hcl, h1, hL, h2, h3⟩, st⟩
  · dsimp only [Pt.U, Pt.locs, Pt.cells, Pt.slots] at X' e1 e2 h1 h2 h3 st
    subst h1; subst h2; subst h3
    exact Or.inl ⟨v, (T.setVm vm₁).calling g' mk (Value.ref b :: As).toArray, t, U', L, hT, X', hL, e1, e2, hq, st⟩
  · dsimp only [Pt.U, Pt.locs, Pt.cells, Pt.slots] at X' e1 e2 h1 h2 h3 st hcl
    subst h1; subst h2; subst h3
    exact Or.inr ⟨q, (T.setVm vm₁).calling g' mk (Value.ref b :: As).toArray, t, U', L, E, ce, hT, X', hL, e1, e2, hq, hce, hcv, vx_cls hW₁ hcl, st⟩
theorem vx_runSX {hh : List (Nat × Nat × Nat × Nat)} (S : CallFix p m c cc nL s args Ts own) (hM : vx_Met l y ws rm Pc Qc XC mc ms free) (cw : vx_CSW R s args own index y bytes maxL ret hh ws rm mc ms n) (hp : PreS s H Pc As)
    (hg : g.method = m) (hn : As.length = n) (hsize : g.locals.size = nL) (hstack : g.stack = As.reverse ++ rest) (hW : 2 * g.monitorRoom + (rest.map fun v => v.category).sum ≤ 8) (hdg : decode cc g.pc = .ok (.invokestatic index, 3)) (hf : cells + mc ≤ R.cells ∧ slots + ms ≤ R.slots) :
    vx_Run p l e R s m args below meth c H locs cells slots mc ms g rest (Qc As.toArray) XC free := by
  obtain ⟨⟨hrc, hrs, hfr, hlo, hws, hcw⟩, hcode, hini, hy, hlen, hl, hstt⟩ := cw
  have hK : vx_Back l R p e below s args y 3 8 (PreOf R mc ms Pc) (PostOf Qc mc ms free) (vx_Post XC mc ms free) := vx_backW (hh := hh) (bytes := bytes) (maxL := maxL) (ret := ret) hM hp.1 hrc hrs hfr hlo hws hcw (fun a' U hW => word_at hW (Or.inl (by first | rfl | simp [Cond.onTables, Cond.keeps, Cond.steady])) hini)
  obtain ⟨hx, hb, hml, ho, -⟩ := S
  intro T hT X
  rcases vx_callSX X hx (hh := hh) (bytes := bytes) (maxL := maxL) (ret := ret) ho hl hstt hini hcode hy hK hg (hsize.trans hml.symm) (argsL := As) (rest := rest) (fun sig h => hn.trans (hlen sig h)) hstack hW (by rw [hb]; exact hdg)
    (fun vm₁ hW₁ => ⟨hf.1, hf.2, hp.2 (T.setVm vm₁) hT hW₁⟩) with ⟨v, vm₁, ⟨U', l2, c2, s2⟩, hW₁, X', ⟨g', mk, t, L, e1, e2, hq, h1, hL, h2, h3⟩, st⟩ | ⟨q, vm₁, ⟨U', l2, c2, s2⟩, hW₁, X', ⟨g', mk, t, L, E, ce, e1, e2, hq, hce, hcv, hcl, h1, hL, h2, h3⟩, st⟩
  · dsimp only [Pt.U, Pt.locs, Pt.cells, Pt.slots] at X' e1 e2 h1 h2 h3 st
    subst h1; subst h2; subst h3
    exact Or.inl ⟨v, (T.setVm vm₁).calling g' mk As.toArray, t, U', L, hT, X', hL, e1, e2, hq, st⟩
  · dsimp only [Pt.U, Pt.locs, Pt.cells, Pt.slots] at X' e1 e2 h1 h2 h3 st hcl
    subst h1; subst h2; subst h3
    exact Or.inr ⟨q, (T.setVm vm₁).calling g' mk As.toArray, t, U', L, E, ce, hT, X', hL, e1, e2, hq, hce, hcv, vx_cls hW₁ hcl, st⟩
end
end VXH
theorem vx_ofWH {l : Launch} {y : MethodName} {ws ws' : List Cond} {rm : Room} {Pc : Array Value → State → Prop} {Qc : Array Value → State → Outcome → State → Prop} {XC : String → State → State → Prop} {mc ms : Nat} {free : Addr → Prop} {cc : ByteArray} {maxL : Nat} {ret : Option FieldType} {hh : List (Nat × Nat × Nat × Nat)}
    (hy : plainName y.cls = true) (hw : ws = Cond.codeWith y cc maxL ret hh :: ws')
    (body : ∀ p e s m args below meth c s₁, BodyLoose p l y (headSpec ws rm) cc maxL ret e s m args below meth c s₁ → c.maxLocals = maxL → Pc args s →
      W p l e (headSpec ws rm).room s m args below meth c s.heap [] 0 0 (vx_MQ below Qc XC args s mc ms free) (entryFrame m args maxL)) : vx_Met l y ws rm Pc Qc XC mc ms free := by
  refine MetFree.of_bodyS (code := cc) (maxLocals := maxL) (ret := ret) hy ?_ ?_
  · intro args s m h hn
    obtain ⟨m9, meth, c, hn9, h1, h2, h3, h4, -, h5, h6, -⟩ := Cond.codeWith_spec (atoms_spec (ws := ws) h _ (by rw [hw]; exact List.mem_cons_self))
    cases hn.symm.trans hn9
    exact ⟨meth, c, h1, h2, h3, h4, h5, h6⟩
  · intro p e s m args below meth c s₁ B hml hP _
    have hh0 : s₁.heap = s.heap := by rw [B.state]; rfl
    obtain ⟨t, a1, o, b1, b2, b3⟩ := body p e s m args below meth c s₁ B hml hP s₁ hh0 (Stand.of_body B)
    exact ⟨t, o, a1, b1, b2, b3⟩
/-! ===== END ===== -/
end
section
def RX0 : String := "LampMural$CommandText"
def TX0 : u_T := fun k => match k with
  | 0 => ("LampMural$CommandText", "bytes", "LLampMural$Row;", true)
  | 1 => ("LampMural$CommandText", "numbers", "LLampMural$Row;", true)
  | 2 => ("LampMural$CommandText", "length", "I", false)
  | 3 => ("LampMural$CommandText", "position", "I", false)
  | 4 => ("LampMural$CommandText", "fault", "I", false)
  | _ => ("LampMural$CommandText", "word", "I", false)
def tyX0 : Nat → FieldType := fun k => match k with
  | 0 => .object "LampMural$Row"
  | 1 => .object "LampMural$Row"
  | 2 => .int
  | 3 => .int
  | 4 => .int
  | _ => .int
abbrev wsX00 : List Cond := u_ws RX0 TX0 6
theorem nmX0 : ∀ a, a < 6 → ∀ b, b < 6 → a ≠ b → (TX0 a).2.1 ≠ (TX0 b).2.1 := by decide +kernel
theorem tyX0_ok : ∀ k, k < 6 → parseFieldDescriptor (TX0 k).2.2.1 = some (tyX0 k) := by decide +kernel
abbrev cX0_init : ByteArray := prog_2_method_1_code
def yX0_init : MethodName := ⟨RX0, "<init>", "()V"⟩
abbrev cX0_append : ByteArray := prog_2_method_2_code
def yX0_append : MethodName := ⟨RX0, "append", "(I)I"⟩
abbrev cX0_empty : ByteArray := prog_2_method_3_code
def yX0_empty : MethodName := ⟨RX0, "empty", "()I"⟩
abbrev cX0_rewind : ByteArray := prog_2_method_4_code
def yX0_rewind : MethodName := ⟨RX0, "rewind", "()V"⟩
abbrev cX0_findFault : ByteArray := prog_2_method_5_code
def yX0_findFault : MethodName := ⟨RX0, "findFault", "()I"⟩
abbrev cX0_readCommand : ByteArray := prog_2_method_6_code
def yX0_readCommand : MethodName := ⟨RX0, "readCommand", "()Z"⟩
abbrev cX0_number : ByteArray := prog_2_method_7_code
def yX0_number : MethodName := ⟨RX0, "number", "(I)I"⟩
abbrev cX0_readWord : ByteArray := prog_2_method_8_code
def yX0_readWord : MethodName := ⟨RX0, "readWord", "()Z"⟩
abbrev cX0_readNumber : ByteArray := prog_2_method_9_code
def yX0_readNumber : MethodName := ⟨RX0, "readNumber", "(I)Z"⟩
abbrev cX0_skipSpaces : ByteArray := prog_2_method_10_code
def yX0_skipSpaces : MethodName := ⟨RX0, "skipSpaces", "()V"⟩
abbrev cX0_failAt : ByteArray := prog_2_method_11_code
def yX0_failAt : MethodName := ⟨RX0, "failAt", "(I)Z"⟩
abbrev cX0_isDigit : ByteArray := prog_2_method_12_code
def yX0_isDigit : MethodName := ⟨RX0, "isDigit", "(I)Z"⟩
abbrev cX0_wordBetween : ByteArray := prog_2_method_13_code
def yX0_wordBetween : MethodName := ⟨RX0, "wordBetween", "(II)I"⟩
abbrev cX0_isWord : ByteArray := prog_2_method_14_code
def yX0_isWord : MethodName := ⟨RX0, "isWord", "(Ljava/lang/String;II)Z"⟩
abbrev cX0_numbersOf : ByteArray := prog_2_method_15_code
def yX0_numbersOf : MethodName := ⟨RX0, "numbersOf", "(I)I"⟩
def RX1 : String := "LampMural$Dimmer"
def TX1 : u_T := fun k => match k with
  | 0 => ("LampMural$Dimmer", "limits", "LLampMural$Row;", true)
  | 1 => ("LampMural$Dimmer", "floors", "LLampMural$Row;", true)
  | 2 => ("LampMural$Dimmer", "weights", "LLampMural$Row;", true)
  | 3 => ("LampMural$Dimmer", "lights", "LLampMural$Row;", true)
  | 4 => ("LampMural$Dimmer", "shining", "I", false)
  | 5 => ("LampMural$Dimmer", "covering", "I", false)
  | 6 => ("LampMural$Dimmer", "brightness", "I", false)
  | _ => ("LampMural$Dimmer", "state", "I", false)
def tyX1 : Nat → FieldType := fun k => match k with
  | 0 => .object "LampMural$Row"
  | 1 => .object "LampMural$Row"
  | 2 => .object "LampMural$Row"
  | 3 => .object "LampMural$Row"
  | 4 => .int
  | 5 => .int
  | 6 => .int
  | _ => .int
abbrev wsX10 : List Cond := u_ws RX1 TX1 8
theorem nmX1 : ∀ a, a < 8 → ∀ b, b < 8 → a ≠ b → (TX1 a).2.1 ≠ (TX1 b).2.1 := by decide +kernel
theorem tyX1_ok : ∀ k, k < 8 → parseFieldDescriptor (TX1 k).2.2.1 = some (tyX1 k) := by decide +kernel
abbrev cX1_init : ByteArray := prog_3_method_1_code
def yX1_init : MethodName := ⟨RX1, "<init>", "()V"⟩
abbrev cX1_prepare : ByteArray := prog_3_method_2_code
def yX1_prepare : MethodName := ⟨RX1, "prepare", "(LLampMural$Scene;I)V"⟩
abbrev cX1_countWrong : ByteArray := prog_3_method_3_code
def yX1_countWrong : MethodName := ⟨RX1, "countWrong", "(LLampMural$Scene;III)I"⟩
abbrev cX1_dimPoint : ByteArray := prog_3_method_4_code
def yX1_dimPoint : MethodName := ⟨RX1, "dimPoint", "(LLampMural$Scene;III)V"⟩
abbrev cX1_shareOut : ByteArray := prog_3_method_5_code
def yX1_shareOut : MethodName := ⟨RX1, "shareOut", "(I)V"⟩
abbrev cX1_keepToLimits : ByteArray := prog_3_method_6_code
def yX1_keepToLimits : MethodName := ⟨RX1, "keepToLimits", "()V"⟩
abbrev cX1_balance : ByteArray := prog_3_method_7_code
def yX1_balance : MethodName := ⟨RX1, "balance", "(I)V"⟩
abbrev cX1_stateFor : ByteArray := prog_3_method_8_code
def yX1_stateFor : MethodName := ⟨RX1, "stateFor", "(I)I"⟩
def RX2 : String := "LampMural$History"
def TX2 : u_T := fun k => match k with
  | 0 => ("LampMural$History", "saved", "[LLampMural$Scene;", true)
  | 1 => ("LampMural$History", "latest", "I", false)
  | _ => ("LampMural$History", "count", "I", false)
def tyX2 : Nat → FieldType := fun k => match k with
  | 0 => .array (.object "LampMural$Scene")
  | 1 => .int
  | _ => .int
abbrev wsX20 : List Cond := u_ws RX2 TX2 3
theorem nmX2 : ∀ a, a < 3 → ∀ b, b < 3 → a ≠ b → (TX2 a).2.1 ≠ (TX2 b).2.1 := by decide +kernel
theorem tyX2_ok : ∀ k, k < 3 → parseFieldDescriptor (TX2 k).2.2.1 = some (tyX2 k) := by decide +kernel
abbrev cX2_init : ByteArray := prog_4_method_1_code
def yX2_init : MethodName := ⟨RX2, "<init>", "()V"⟩
abbrev cX2_save : ByteArray := prog_4_method_2_code
def yX2_save : MethodName := ⟨RX2, "save", "(LLampMural$Scene;)V"⟩
abbrev cX2_restore : ByteArray := prog_4_method_3_code
def yX2_restore : MethodName := ⟨RX2, "restore", "(LLampMural$Scene;)V"⟩
abbrev cX2_latestSlot : ByteArray := prog_4_method_4_code
def yX2_latestSlot : MethodName := ⟨RX2, "latestSlot", "()LLampMural$Scene;"⟩
def RX3 : String := "LampMural$Row"
def TX3 : u_T := fun k => match k with
  | _ => ("LampMural$Row", "cells", "[I", true)
def tyX3 : Nat → FieldType := fun k => match k with
  | _ => .array .int
abbrev wsX30 : List Cond := u_ws RX3 TX3 1
theorem nmX3 : ∀ a, a < 1 → ∀ b, b < 1 → a ≠ b → (TX3 a).2.1 ≠ (TX3 b).2.1 := by decide +kernel
theorem tyX3_ok : ∀ k, k < 1 → parseFieldDescriptor (TX3 k).2.2.1 = some (tyX3 k) := by decide +kernel
abbrev cX3_init : ByteArray := prog_5_method_1_code
def yX3_init : MethodName := ⟨RX3, "<init>", "(I)V"⟩
abbrev cX3_get : ByteArray := prog_5_method_2_code
def yX3_get : MethodName := ⟨RX3, "get", "(I)I"⟩
abbrev cX3_set : ByteArray := prog_5_method_3_code
def yX3_set : MethodName := ⟨RX3, "set", "(II)V"⟩
abbrev cX3_clear : ByteArray := prog_5_method_4_code
def yX3_clear : MethodName := ⟨RX3, "clear", "()V"⟩
abbrev cX3_copyFrom : ByteArray := prog_5_method_5_code
def yX3_copyFrom : MethodName := ⟨RX3, "copyFrom", "(LLampMural$Row;)V"⟩
def RX4 : String := "LampMural$Scene"
def TX4 : u_T := fun k => match k with
  | 0 => ("LampMural$Scene", "columns", "I", false)
  | 1 => ("LampMural$Scene", "rows", "I", false)
  | 2 => ("LampMural$Scene", "shiftX", "I", false)
  | 3 => ("LampMural$Scene", "shiftY", "I", false)
  | 4 => ("LampMural$Scene", "hours", "I", false)
  | 5 => ("LampMural$Scene", "lampCount", "I", false)
  | 6 => ("LampMural$Scene", "changed", "Z", false)
  | 7 => ("LampMural$Scene", "targets", "LLampMural$Row;", true)
  | 8 => ("LampMural$Scene", "greatest", "LLampMural$Row;", true)
  | 9 => ("LampMural$Scene", "least", "LLampMural$Row;", true)
  | 10 => ("LampMural$Scene", "wear", "LLampMural$Row;", true)
  | 11 => ("LampMural$Scene", "working", "LLampMural$Row;", true)
  | 12 => ("LampMural$Scene", "cornersX", "LLampMural$Row;", true)
  | _ => ("LampMural$Scene", "cornersY", "LLampMural$Row;", true)
def tyX4 : Nat → FieldType := fun k => match k with
  | 0 => .int
  | 1 => .int
  | 2 => .int
  | 3 => .int
  | 4 => .int
  | 5 => .int
  | 6 => .boolean
  | 7 => .object "LampMural$Row"
  | 8 => .object "LampMural$Row"
  | 9 => .object "LampMural$Row"
  | 10 => .object "LampMural$Row"
  | 11 => .object "LampMural$Row"
  | 12 => .object "LampMural$Row"
  | _ => .object "LampMural$Row"
abbrev wsX40 : List Cond := u_ws RX4 TX4 14
theorem nmX4 : ∀ a, a < 14 → ∀ b, b < 14 → a ≠ b → (TX4 a).2.1 ≠ (TX4 b).2.1 := by decide +kernel
theorem tyX4_ok : ∀ k, k < 14 → parseFieldDescriptor (TX4 k).2.2.1 = some (tyX4 k) := by decide +kernel
abbrev cX4_init : ByteArray := prog_6_method_1_code
def yX4_init : MethodName := ⟨RX4, "<init>", "()V"⟩
abbrev cX4_copyFrom : ByteArray := prog_6_method_2_code
def yX4_copyFrom : MethodName := ⟨RX4, "copyFrom", "(LLampMural$Scene;)V"⟩
abbrev cX4_startWall : ByteArray := prog_6_method_3_code
def yX4_startWall : MethodName := ⟨RX4, "startWall", "(II)V"⟩
abbrev cX4_setTargets : ByteArray := prog_6_method_4_code
def yX4_setTargets : MethodName := ⟨RX4, "setTargets", "(IIIII)I"⟩
abbrev cX4_hangLamp : ByteArray := prog_6_method_5_code
def yX4_hangLamp : MethodName := ⟨RX4, "hangLamp", "(II)I"⟩
abbrev cX4_moveCorner : ByteArray := prog_6_method_6_code
def yX4_moveCorner : MethodName := ⟨RX4, "moveCorner", "(IIII)V"⟩
abbrev cX4_setLampValue : ByteArray := prog_6_method_7_code
def yX4_setLampValue : MethodName := ⟨RX4, "setLampValue", "(III)V"⟩
abbrev cX4_switchLamp : ByteArray := prog_6_method_8_code
def yX4_switchLamp : MethodName := ⟨RX4, "switchLamp", "(IZ)V"⟩
abbrev cX4_moveWall : ByteArray := prog_6_method_9_code
def yX4_moveWall : MethodName := ⟨RX4, "moveWall", "(II)V"⟩
abbrev cX4_wearOut : ByteArray := prog_6_method_10_code
def yX4_wearOut : MethodName := ⟨RX4, "wearOut", "(II)V"⟩
abbrev cX4_countHours : ByteArray := prog_6_method_11_code
def yX4_countHours : MethodName := ⟨RX4, "countHours", "(I)V"⟩
abbrev cX4_hasPlace : ByteArray := prog_6_method_12_code
def yX4_hasPlace : MethodName := ⟨RX4, "hasPlace", "(II)Z"⟩
abbrev cX4_hasLamp : ByteArray := prog_6_method_13_code
def yX4_hasLamp : MethodName := ⟨RX4, "hasLamp", "(I)Z"⟩
abbrev cX4_placeCount : ByteArray := prog_6_method_14_code
def yX4_placeCount : MethodName := ⟨RX4, "placeCount", "()I"⟩
abbrev cX4_indexOfPlace : ByteArray := prog_6_method_15_code
def yX4_indexOfPlace : MethodName := ⟨RX4, "indexOfPlace", "(II)I"⟩
abbrev cX4_targetAt : ByteArray := prog_6_method_16_code
def yX4_targetAt : MethodName := ⟨RX4, "targetAt", "(I)I"⟩
abbrev cX4_sumOfTargets : ByteArray := prog_6_method_17_code
def yX4_sumOfTargets : MethodName := ⟨RX4, "sumOfTargets", "()I"⟩
abbrev cX4_cornerValue : ByteArray := prog_6_method_18_code
def yX4_cornerValue : MethodName := ⟨RX4, "cornerValue", "(III)I"⟩
abbrev cX4_isWorking : ByteArray := prog_6_method_19_code
def yX4_isWorking : MethodName := ⟨RX4, "isWorking", "(I)Z"⟩
abbrev cX4_workingLamps : ByteArray := prog_6_method_20_code
def yX4_workingLamps : MethodName := ⟨RX4, "workingLamps", "()I"⟩
abbrev cX4_greatestWear : ByteArray := prog_6_method_21_code
def yX4_greatestWear : MethodName := ⟨RX4, "greatestWear", "()I"⟩
abbrev cX4_limitOf : ByteArray := prog_6_method_22_code
def yX4_limitOf : MethodName := ⟨RX4, "limitOf", "(I)I"⟩
abbrev cX4_floorOf : ByteArray := prog_6_method_23_code
def yX4_floorOf : MethodName := ⟨RX4, "floorOf", "(I)I"⟩
abbrev cX4_sumOfLimits : ByteArray := prog_6_method_24_code
def yX4_sumOfLimits : MethodName := ⟨RX4, "sumOfLimits", "(I)I"⟩
abbrev cX4_sumOfFloors : ByteArray := prog_6_method_25_code
def yX4_sumOfFloors : MethodName := ⟨RX4, "sumOfFloors", "(I)I"⟩
abbrev cX4_isGood : ByteArray := prog_6_method_26_code
def yX4_isGood : MethodName := ⟨RX4, "isGood", "(I)Z"⟩
abbrev cX4_shiningLamps : ByteArray := prog_6_method_27_code
def yX4_shiningLamps : MethodName := ⟨RX4, "shiningLamps", "()I"⟩
abbrev cX4_weightAt : ByteArray := prog_6_method_28_code
def yX4_weightAt : MethodName := ⟨RX4, "weightAt", "(III)I"⟩
def RX5 : String := "LampMural$Survey"
def TX5 : u_T := fun k => match k with
  | 0 => ("LampMural$Survey", "dimmer", "LLampMural$Dimmer;", true)
  | 1 => ("LampMural$Survey", "lights", "LLampMural$Row;", true)
  | 2 => ("LampMural$Survey", "covering", "LLampMural$Row;", true)
  | 3 => ("LampMural$Survey", "brightness", "LLampMural$Row;", true)
  | 4 => ("LampMural$Survey", "states", "LLampMural$Row;", true)
  | _ => ("LampMural$Survey", "places", "I", false)
def tyX5 : Nat → FieldType := fun k => match k with
  | 0 => .object "LampMural$Dimmer"
  | 1 => .object "LampMural$Row"
  | 2 => .object "LampMural$Row"
  | 3 => .object "LampMural$Row"
  | 4 => .object "LampMural$Row"
  | _ => .int
abbrev wsX50 : List Cond := u_ws RX5 TX5 6
theorem nmX5 : ∀ a, a < 6 → ∀ b, b < 6 → a ≠ b → (TX5 a).2.1 ≠ (TX5 b).2.1 := by decide +kernel
theorem tyX5_ok : ∀ k, k < 6 → parseFieldDescriptor (TX5 k).2.2.1 = some (tyX5 k) := by decide +kernel
abbrev cX5_init : ByteArray := prog_7_method_1_code
def yX5_init : MethodName := ⟨RX5, "<init>", "()V"⟩
abbrev cX5_refresh : ByteArray := prog_7_method_2_code
def yX5_refresh : MethodName := ⟨RX5, "refresh", "(LLampMural$Scene;)V"⟩
abbrev cX5_keepPlace : ByteArray := prog_7_method_3_code
def yX5_keepPlace : MethodName := ⟨RX5, "keepPlace", "()V"⟩
abbrev cX5_coveringAt : ByteArray := prog_7_method_4_code
def yX5_coveringAt : MethodName := ⟨RX5, "coveringAt", "(I)I"⟩
abbrev cX5_brightnessAt : ByteArray := prog_7_method_5_code
def yX5_brightnessAt : MethodName := ⟨RX5, "brightnessAt", "(I)I"⟩
abbrev cX5_stateAt : ByteArray := prog_7_method_6_code
def yX5_stateAt : MethodName := ⟨RX5, "stateAt", "(I)I"⟩
abbrev cX5_isCovered : ByteArray := prog_7_method_7_code
def yX5_isCovered : MethodName := ⟨RX5, "isCovered", "(II)Z"⟩
abbrev cX5_lightOf : ByteArray := prog_7_method_8_code
def yX5_lightOf : MethodName := ⟨RX5, "lightOf", "(II)I"⟩
abbrev cX5_placesOf : ByteArray := prog_7_method_9_code
def yX5_placesOf : MethodName := ⟨RX5, "placesOf", "(I)I"⟩
abbrev cX5_placesOnlyOf : ByteArray := prog_7_method_10_code
def yX5_placesOnlyOf : MethodName := ⟨RX5, "placesOnlyOf", "(I)I"⟩
abbrev cX5_placesOfSeveral : ByteArray := prog_7_method_11_code
def yX5_placesOfSeveral : MethodName := ⟨RX5, "placesOfSeveral", "()I"⟩
abbrev cX5_placesInState : ByteArray := prog_7_method_12_code
def yX5_placesInState : MethodName := ⟨RX5, "placesInState", "(I)I"⟩
abbrev cX5_wrongPlaces : ByteArray := prog_7_method_13_code
def yX5_wrongPlaces : MethodName := ⟨RX5, "wrongPlaces", "()I"⟩
abbrev cX5_sumOfBrightness : ByteArray := prog_7_method_14_code
def yX5_sumOfBrightness : MethodName := ⟨RX5, "sumOfBrightness", "()I"⟩
abbrev cX5_sumOfLights : ByteArray := prog_7_method_15_code
def yX5_sumOfLights : MethodName := ⟨RX5, "sumOfLights", "(I)I"⟩
abbrev cX5_greatestLightOf : ByteArray := prog_7_method_16_code
def yX5_greatestLightOf : MethodName := ⟨RX5, "greatestLightOf", "(I)I"⟩
abbrev cX5_loadOf : ByteArray := prog_7_method_17_code
def yX5_loadOf : MethodName := ⟨RX5, "loadOf", "(II)I"⟩
def RX6 : String := "LampMural"
def TX6 : u_T := fun k => match k with
  | 0 => ("LampMural", "scene", "LLampMural$Scene;", true)
  | 1 => ("LampMural", "survey", "LLampMural$Survey;", true)
  | 2 => ("LampMural", "whatIf", "LLampMural$Dimmer;", true)
  | 3 => ("LampMural", "history", "LLampMural$History;", true)
  | _ => ("LampMural", "commands", "LLampMural$CommandText;", true)
def tyX6 : Nat → FieldType := fun k => match k with
  | 0 => .object "LampMural$Scene"
  | 1 => .object "LampMural$Survey"
  | 2 => .object "LampMural$Dimmer"
  | 3 => .object "LampMural$History"
  | _ => .object "LampMural$CommandText"
abbrev wsX60 : List Cond := u_ws RX6 TX6 5
theorem nmX6 : ∀ a, a < 5 → ∀ b, b < 5 → a ≠ b → (TX6 a).2.1 ≠ (TX6 b).2.1 := by decide +kernel
theorem tyX6_ok : ∀ k, k < 5 → parseFieldDescriptor (TX6 k).2.2.1 = some (tyX6 k) := by decide +kernel
abbrev cX6_init : ByteArray := prog_1_method_1_code
def yX6_init : MethodName := ⟨RX6, "<init>", "()V"⟩
abbrev cX6_begin : ByteArray := prog_1_method_2_code
def yX6_begin : MethodName := ⟨RX6, "begin", "(II)I"⟩
abbrev cX6_paint : ByteArray := prog_1_method_3_code
def yX6_paint : MethodName := ⟨RX6, "paint", "(IIIII)I"⟩
abbrev cX6_addLamp : ByteArray := prog_1_method_4_code
def yX6_addLamp : MethodName := ⟨RX6, "addLamp", "(II)I"⟩
abbrev cX6_setCorner : ByteArray := prog_1_method_5_code
def yX6_setCorner : MethodName := ⟨RX6, "setCorner", "(IIII)I"⟩
abbrev cX6_setRectangle : ByteArray := prog_1_method_6_code
def yX6_setRectangle : MethodName := ⟨RX6, "setRectangle", "(IIIII)I"⟩
abbrev cX6_setLamp : ByteArray := prog_1_method_7_code
def yX6_setLamp : MethodName := ⟨RX6, "setLamp", "(III)I"⟩
abbrev cX6_setWorks : ByteArray := prog_1_method_8_code
def yX6_setWorks : MethodName := ⟨RX6, "setWorks", "(IZ)I"⟩
abbrev cX6_shift : ByteArray := prog_1_method_9_code
def yX6_shift : MethodName := ⟨RX6, "shift", "(II)I"⟩
abbrev cX6_burn : ByteArray := prog_1_method_10_code
def yX6_burn : MethodName := ⟨RX6, "burn", "(I)I"⟩
abbrev cX6_place : ByteArray := prog_1_method_11_code
def yX6_place : MethodName := ⟨RX6, "place", "(III)I"⟩
abbrev cX6_light : ByteArray := prog_1_method_12_code
def yX6_light : MethodName := ⟨RX6, "light", "(III)I"⟩
abbrev cX6_weight : ByteArray := prog_1_method_13_code
def yX6_weight : MethodName := ⟨RX6, "weight", "(III)I"⟩
abbrev cX6_lamp : ByteArray := prog_1_method_14_code
def yX6_lamp : MethodName := ⟨RX6, "lamp", "(II)I"⟩
abbrev cX6_corner : ByteArray := prog_1_method_15_code
def yX6_corner : MethodName := ⟨RX6, "corner", "(III)I"⟩
abbrev cX6_whole : ByteArray := prog_1_method_16_code
def yX6_whole : MethodName := ⟨RX6, "whole", "(I)I"⟩
abbrev cX6_wrong : ByteArray := prog_1_method_17_code
def yX6_wrong : MethodName := ⟨RX6, "wrong", "(I)I"⟩
abbrev cX6_wrongWithout : ByteArray := prog_1_method_18_code
def yX6_wrongWithout : MethodName := ⟨RX6, "wrongWithout", "(I)I"⟩
abbrev cX6_dearestLamp : ByteArray := prog_1_method_19_code
def yX6_dearestLamp : MethodName := ⟨RX6, "dearestLamp", "()I"⟩
abbrev cX6_wrongShifted : ByteArray := prog_1_method_20_code
def yX6_wrongShifted : MethodName := ⟨RX6, "wrongShifted", "(II)I"⟩
abbrev cX6_bestShift : ByteArray := prog_1_method_21_code
def yX6_bestShift : MethodName := ⟨RX6, "bestShift", "(I)I"⟩
abbrev cX6_neededLimit : ByteArray := prog_1_method_22_code
def yX6_neededLimit : MethodName := ⟨RX6, "neededLimit", "(I)I"⟩
abbrev cX6_type : ByteArray := prog_1_method_23_code
def yX6_type : MethodName := ⟨RX6, "type", "(I)I"⟩
abbrev cX6_clearCommands : ByteArray := prog_1_method_24_code
def yX6_clearCommands : MethodName := ⟨RX6, "clearCommands", "()I"⟩
abbrev cX6_runCommands : ByteArray := prog_1_method_25_code
def yX6_runCommands : MethodName := ⟨RX6, "runCommands", "()I"⟩
abbrev cX6_undo : ByteArray := prog_1_method_26_code
def yX6_undo : MethodName := ⟨RX6, "undo", "()I"⟩
abbrev cX6_digest : ByteArray := prog_1_method_27_code
def yX6_digest : MethodName := ⟨RX6, "digest", "()J"⟩
abbrev cX6_addLampTo : ByteArray := prog_1_method_28_code
def yX6_addLampTo : MethodName := ⟨RX6, "addLampTo", "(JI)J"⟩
abbrev cX6_addPlaceTo : ByteArray := prog_1_method_29_code
def yX6_addPlaceTo : MethodName := ⟨RX6, "addPlaceTo", "(JI)J"⟩
abbrev cX6_placeValue : ByteArray := prog_1_method_30_code
def yX6_placeValue : MethodName := ⟨RX6, "placeValue", "(II)I"⟩
abbrev cX6_lampValue : ByteArray := prog_1_method_31_code
def yX6_lampValue : MethodName := ⟨RX6, "lampValue", "(II)I"⟩
abbrev cX6_wholeValue : ByteArray := prog_1_method_32_code
def yX6_wholeValue : MethodName := ⟨RX6, "wholeValue", "(I)I"⟩
abbrev cX6_wrongIfFailed : ByteArray := prog_1_method_33_code
def yX6_wrongIfFailed : MethodName := ⟨RX6, "wrongIfFailed", "(I)I"⟩
abbrev cX6_burnHours : ByteArray := prog_1_method_34_code
def yX6_burnHours : MethodName := ⟨RX6, "burnHours", "(I)V"⟩
abbrev cX6_carryOut : ByteArray := prog_1_method_35_code
def yX6_carryOut : MethodName := ⟨RX6, "carryOut", "()Z"⟩
abbrev cX6_faultOfCommand : ByteArray := prog_1_method_36_code
def yX6_faultOfCommand : MethodName := ⟨RX6, "faultOfCommand", "(IIIII)I"⟩
abbrev cX6_faultOfWall : ByteArray := prog_1_method_37_code
def yX6_faultOfWall : MethodName := ⟨RX6, "faultOfWall", "(II)I"⟩
abbrev cX6_faultOfPainting : ByteArray := prog_1_method_38_code
def yX6_faultOfPainting : MethodName := ⟨RX6, "faultOfPainting", "(IIIII)I"⟩
abbrev cX6_faultOfNewLamp : ByteArray := prog_1_method_39_code
def yX6_faultOfNewLamp : MethodName := ⟨RX6, "faultOfNewLamp", "(II)I"⟩
abbrev cX6_faultOfCorner : ByteArray := prog_1_method_40_code
def yX6_faultOfCorner : MethodName := ⟨RX6, "faultOfCorner", "(IIII)I"⟩
abbrev cX6_faultOfRectangle : ByteArray := prog_1_method_41_code
def yX6_faultOfRectangle : MethodName := ⟨RX6, "faultOfRectangle", "(IIIII)I"⟩
abbrev cX6_faultOfLampValue : ByteArray := prog_1_method_42_code
def yX6_faultOfLampValue : MethodName := ⟨RX6, "faultOfLampValue", "(III)I"⟩
abbrev cX6_faultOfLamp : ByteArray := prog_1_method_43_code
def yX6_faultOfLamp : MethodName := ⟨RX6, "faultOfLamp", "(I)I"⟩
abbrev cX6_faultOfPlace : ByteArray := prog_1_method_44_code
def yX6_faultOfPlace : MethodName := ⟨RX6, "faultOfPlace", "(II)I"⟩
abbrev cX6_faultOfShift : ByteArray := prog_1_method_45_code
def yX6_faultOfShift : MethodName := ⟨RX6, "faultOfShift", "(II)I"⟩
abbrev cX6_faultOfHours : ByteArray := prog_1_method_46_code
def yX6_faultOfHours : MethodName := ⟨RX6, "faultOfHours", "(I)I"⟩
abbrev cX6_faultOfRange : ByteArray := prog_1_method_47_code
def yX6_faultOfRange : MethodName := ⟨RX6, "faultOfRange", "(III)I"⟩
abbrev cX6_refuseIndex : ByteArray := prog_1_method_48_code
def yX6_refuseIndex : MethodName := ⟨RX6, "refuseIndex", "(I)V"⟩
abbrev cX6_refuseArgument : ByteArray := prog_1_method_49_code
def yX6_refuseArgument : MethodName := ⟨RX6, "refuseArgument", "(I)V"⟩
abbrev cX6_refuseState : ByteArray := prog_1_method_50_code
def yX6_refuseState : MethodName := ⟨RX6, "refuseState", "(I)V"⟩
abbrev cX6_within : ByteArray := prog_1_method_51_code
def yX6_within : MethodName := ⟨RX6, "within", "(III)Z"⟩
abbrev cX6_cross : ByteArray := prog_1_method_52_code
def yX6_cross : MethodName := ⟨RX6, "cross", "(IIII)I"⟩
abbrev cX6_pointOf : ByteArray := prog_1_method_53_code
def yX6_pointOf : MethodName := ⟨RX6, "pointOf", "(II)I"⟩
abbrev cX6_isIn : ByteArray := prog_1_method_54_code
def yX6_isIn : MethodName := ⟨RX6, "isIn", "(II)Z"⟩
def RX7 : String := "LampMuralModel"
def TX7 : u_T := fun k => match k with
  | 0 => ("LampMuralModel", "st", "[I", true)
  | 1 => ("LampMuralModel", "past", "[I", true)
  | 2 => ("LampMuralModel", "aside", "[I", true)
  | 3 => ("LampMuralModel", "pasts", "I", false)
  | 4 => ("LampMuralModel", "text", "[I", true)
  | 5 => ("LampMuralModel", "length", "I", false)
  | 6 => ("LampMuralModel", "thrown", "I", false)
  | 7 => ("LampMuralModel", "answer", "I", false)
  | 8 => ("LampMuralModel", "without", "I", false)
  | 9 => ("LampMuralModel", "weights", "[I", true)
  | 10 => ("LampMuralModel", "lights", "[I", true)
  | 11 => ("LampMuralModel", "covers", "I", false)
  | 12 => ("LampMuralModel", "bright", "I", false)
  | 13 => ("LampMuralModel", "places", "I", false)
  | 14 => ("LampMuralModel", "allLights", "I", false)
  | 15 => ("LampMuralModel", "greatestLight", "I", false)
  | 16 => ("LampMuralModel", "alone", "I", false)
  | 17 => ("LampMuralModel", "needed", "I", false)
  | 18 => ("LampMuralModel", "loads", "[I", true)
  | 19 => ("LampMuralModel", "spot", "I", false)
  | 20 => ("LampMuralModel", "word", "I", false)
  | 21 => ("LampMuralModel", "numbers", "[I", true)
  | _ => ("LampMuralModel", "h", "J", false)
def tyX7 : Nat → FieldType := fun k => match k with
  | 0 => .array .int
  | 1 => .array .int
  | 2 => .array .int
  | 3 => .int
  | 4 => .array .int
  | 5 => .int
  | 6 => .int
  | 7 => .int
  | 8 => .int
  | 9 => .array .int
  | 10 => .array .int
  | 11 => .int
  | 12 => .int
  | 13 => .int
  | 14 => .int
  | 15 => .int
  | 16 => .int
  | 17 => .int
  | 18 => .array .int
  | 19 => .int
  | 20 => .int
  | 21 => .array .int
  | _ => .long
abbrev wsX70 : List Cond := u_ws RX7 TX7 23
theorem nmX7 : ∀ a, a < 23 → ∀ b, b < 23 → a ≠ b → (TX7 a).2.1 ≠ (TX7 b).2.1 := by decide +kernel
theorem tyX7_ok : ∀ k, k < 23 → parseFieldDescriptor (TX7 k).2.2.1 = some (tyX7 k) := by decide +kernel
abbrev cX7_init : ByteArray := prog_9_method_1_code
def yX7_init : MethodName := ⟨RX7, "<init>", "()V"⟩
abbrev cX7_thrown : ByteArray := prog_9_method_2_code
def yX7_thrown : MethodName := ⟨RX7, "thrown", "()I"⟩
abbrev cX7_in : ByteArray := prog_9_method_3_code
def yX7_in : MethodName := ⟨RX7, "in", "(III)Z"⟩
abbrev cX7_size : ByteArray := prog_9_method_4_code
def yX7_size : MethodName := ⟨RX7, "size", "(I)I"⟩
abbrev cX7_lesser : ByteArray := prog_9_method_5_code
def yX7_lesser : MethodName := ⟨RX7, "lesser", "(II)I"⟩
abbrev cX7_fails : ByteArray := prog_9_method_6_code
def yX7_fails : MethodName := ⟨RX7, "fails", "(I)I"⟩
abbrev cX7_tells : ByteArray := prog_9_method_7_code
def yX7_tells : MethodName := ⟨RX7, "tells", "(I)I"⟩
abbrev cX7_of : ByteArray := prog_9_method_8_code
def yX7_of : MethodName := ⟨RX7, "of", "(II)I"⟩
abbrev cX7_put : ByteArray := prog_9_method_9_code
def yX7_put : MethodName := ⟨RX7, "put", "(III)V"⟩
abbrev cX7_isLamp : ByteArray := prog_9_method_10_code
def yX7_isLamp : MethodName := ⟨RX7, "isLamp", "(I)Z"⟩
abbrev cX7_isPlace : ByteArray := prog_9_method_11_code
def yX7_isPlace : MethodName := ⟨RX7, "isPlace", "(II)Z"⟩
abbrev cX7_target : ByteArray := prog_9_method_12_code
def yX7_target : MethodName := ⟨RX7, "target", "(II)I"⟩
abbrev cX7_laysAside : ByteArray := prog_9_method_13_code
def yX7_laysAside : MethodName := ⟨RX7, "laysAside", "()V"⟩
abbrev cX7_bringsBack : ByteArray := prog_9_method_14_code
def yX7_bringsBack : MethodName := ⟨RX7, "bringsBack", "()V"⟩
abbrev cX7_saves : ByteArray := prog_9_method_15_code
def yX7_saves : MethodName := ⟨RX7, "saves", "()V"⟩
abbrev cX7_ends : ByteArray := prog_9_method_16_code
def yX7_ends : MethodName := ⟨RX7, "ends", "(I)I"⟩
abbrev cX7_undo : ByteArray := prog_9_method_17_code
def yX7_undo : MethodName := ⟨RX7, "undo", "()I"⟩
abbrev cX7_limit : ByteArray := prog_9_method_18_code
def yX7_limit : MethodName := ⟨RX7, "limit", "(I)I"⟩
abbrev cX7_floor : ByteArray := prog_9_method_19_code
def yX7_floor : MethodName := ⟨RX7, "floor", "(I)I"⟩
abbrev cX7_pointX : ByteArray := prog_9_method_20_code
def yX7_pointX : MethodName := ⟨RX7, "pointX", "(II)I"⟩
abbrev cX7_pointY : ByteArray := prog_9_method_21_code
def yX7_pointY : MethodName := ⟨RX7, "pointY", "(II)I"⟩
abbrev cX7_isGood : ByteArray := prog_9_method_22_code
def yX7_isGood : MethodName := ⟨RX7, "isGood", "(I)Z"⟩
abbrev cX7_weightAt : ByteArray := prog_9_method_23_code
def yX7_weightAt : MethodName := ⟨RX7, "weightAt", "(III)I"⟩
abbrev cX7_weighs : ByteArray := prog_9_method_24_code
def yX7_weighs : MethodName := ⟨RX7, "weighs", "(II)V"⟩
abbrev cX7_isOn : ByteArray := prog_9_method_25_code
def yX7_isOn : MethodName := ⟨RX7, "isOn", "(I)Z"⟩
abbrev cX7_shares : ByteArray := prog_9_method_26_code
def yX7_shares : MethodName := ⟨RX7, "shares", "(I)V"⟩
abbrev cX7_sumOfLights : ByteArray := prog_9_method_27_code
def yX7_sumOfLights : MethodName := ⟨RX7, "sumOfLights", "()I"⟩
abbrev cX7_shines : ByteArray := prog_9_method_28_code
def yX7_shines : MethodName := ⟨RX7, "shines", "(II)V"⟩
abbrev cX7_state : ByteArray := prog_9_method_29_code
def yX7_state : MethodName := ⟨RX7, "state", "(II)I"⟩
abbrev cX7_wrongOnes : ByteArray := prog_9_method_30_code
def yX7_wrongOnes : MethodName := ⟨RX7, "wrongOnes", "()I"⟩
abbrev cX7_bits : ByteArray := prog_9_method_31_code
def yX7_bits : MethodName := ⟨RX7, "bits", "(I)I"⟩
abbrev cX7_sums : ByteArray := prog_9_method_32_code
def yX7_sums : MethodName := ⟨RX7, "sums", "(I)V"⟩
abbrev cX7_load : ByteArray := prog_9_method_33_code
def yX7_load : MethodName := ⟨RX7, "load", "(I)I"⟩
abbrev cX7_begins : ByteArray := prog_9_method_34_code
def yX7_begins : MethodName := ⟨RX7, "begins", "(II)I"⟩
abbrev cX7_paints : ByteArray := prog_9_method_35_code
def yX7_paints : MethodName := ⟨RX7, "paints", "(IIIII)I"⟩
abbrev cX7_adds : ByteArray := prog_9_method_36_code
def yX7_adds : MethodName := ⟨RX7, "adds", "(II)I"⟩
abbrev cX7_isCorner : ByteArray := prog_9_method_37_code
def yX7_isCorner : MethodName := ⟨RX7, "isCorner", "(I)Z"⟩
abbrev cX7_corners : ByteArray := prog_9_method_38_code
def yX7_corners : MethodName := ⟨RX7, "corners", "(IIII)I"⟩
abbrev cX7_shifts : ByteArray := prog_9_method_39_code
def yX7_shifts : MethodName := ⟨RX7, "shifts", "(II)I"⟩
abbrev cX7_works : ByteArray := prog_9_method_40_code
def yX7_works : MethodName := ⟨RX7, "works", "(IZ)I"⟩
abbrev cX7_burns : ByteArray := prog_9_method_41_code
def yX7_burns : MethodName := ⟨RX7, "burns", "(I)I"⟩
abbrev cX7_begin : ByteArray := prog_9_method_42_code
def yX7_begin : MethodName := ⟨RX7, "begin", "(II)I"⟩
abbrev cX7_paint : ByteArray := prog_9_method_43_code
def yX7_paint : MethodName := ⟨RX7, "paint", "(IIIII)I"⟩
abbrev cX7_addLamp : ByteArray := prog_9_method_44_code
def yX7_addLamp : MethodName := ⟨RX7, "addLamp", "(II)I"⟩
abbrev cX7_setCorner : ByteArray := prog_9_method_45_code
def yX7_setCorner : MethodName := ⟨RX7, "setCorner", "(IIII)I"⟩
abbrev cX7_setRectangle : ByteArray := prog_9_method_46_code
def yX7_setRectangle : MethodName := ⟨RX7, "setRectangle", "(IIIII)I"⟩
abbrev cX7_setLamp : ByteArray := prog_9_method_47_code
def yX7_setLamp : MethodName := ⟨RX7, "setLamp", "(III)I"⟩
abbrev cX7_setWorks : ByteArray := prog_9_method_48_code
def yX7_setWorks : MethodName := ⟨RX7, "setWorks", "(IZ)I"⟩
abbrev cX7_shift : ByteArray := prog_9_method_49_code
def yX7_shift : MethodName := ⟨RX7, "shift", "(II)I"⟩
abbrev cX7_burn : ByteArray := prog_9_method_50_code
def yX7_burn : MethodName := ⟨RX7, "burn", "(I)I"⟩
abbrev cX7_limits : ByteArray := prog_9_method_51_code
def yX7_limits : MethodName := ⟨RX7, "limits", "(Z)I"⟩
abbrev cX7_placeOf : ByteArray := prog_9_method_52_code
def yX7_placeOf : MethodName := ⟨RX7, "placeOf", "(III)I"⟩
abbrev cX7_place : ByteArray := prog_9_method_53_code
def yX7_place : MethodName := ⟨RX7, "place", "(III)I"⟩
abbrev cX7_lightOf : ByteArray := prog_9_method_54_code
def yX7_lightOf : MethodName := ⟨RX7, "lightOf", "(III)I"⟩
abbrev cX7_light : ByteArray := prog_9_method_55_code
def yX7_light : MethodName := ⟨RX7, "light", "(III)I"⟩
abbrev cX7_weight : ByteArray := prog_9_method_56_code
def yX7_weight : MethodName := ⟨RX7, "weight", "(III)I"⟩
abbrev cX7_lampOf : ByteArray := prog_9_method_57_code
def yX7_lampOf : MethodName := ⟨RX7, "lampOf", "(II)I"⟩
abbrev cX7_lamp : ByteArray := prog_9_method_58_code
def yX7_lamp : MethodName := ⟨RX7, "lamp", "(II)I"⟩
abbrev cX7_corner : ByteArray := prog_9_method_59_code
def yX7_corner : MethodName := ⟨RX7, "corner", "(III)I"⟩
abbrev cX7_working : ByteArray := prog_9_method_60_code
def yX7_working : MethodName := ⟨RX7, "working", "()I"⟩
abbrev cX7_overPlaces : ByteArray := prog_9_method_61_code
def yX7_overPlaces : MethodName := ⟨RX7, "overPlaces", "(I)I"⟩
abbrev cX7_wholeOf : ByteArray := prog_9_method_62_code
def yX7_wholeOf : MethodName := ⟨RX7, "wholeOf", "(I)I"⟩
abbrev cX7_whole : ByteArray := prog_9_method_63_code
def yX7_whole : MethodName := ⟨RX7, "whole", "(I)I"⟩
abbrev cX7_wrong : ByteArray := prog_9_method_64_code
def yX7_wrong : MethodName := ⟨RX7, "wrong", "(I)I"⟩
abbrev cX7_wrongBut : ByteArray := prog_9_method_65_code
def yX7_wrongBut : MethodName := ⟨RX7, "wrongBut", "(I)I"⟩
abbrev cX7_wrongWithout : ByteArray := prog_9_method_66_code
def yX7_wrongWithout : MethodName := ⟨RX7, "wrongWithout", "(I)I"⟩
abbrev cX7_dearestLamp : ByteArray := prog_9_method_67_code
def yX7_dearestLamp : MethodName := ⟨RX7, "dearestLamp", "()I"⟩
abbrev cX7_wrongBy : ByteArray := prog_9_method_68_code
def yX7_wrongBy : MethodName := ⟨RX7, "wrongBy", "(II)I"⟩
abbrev cX7_wrongShifted : ByteArray := prog_9_method_69_code
def yX7_wrongShifted : MethodName := ⟨RX7, "wrongShifted", "(II)I"⟩
abbrev cX7_bestShift : ByteArray := prog_9_method_70_code
def yX7_bestShift : MethodName := ⟨RX7, "bestShift", "(I)I"⟩
abbrev cX7_neededLimit : ByteArray := prog_9_method_71_code
def yX7_neededLimit : MethodName := ⟨RX7, "neededLimit", "(I)I"⟩
abbrev cX7_type : ByteArray := prog_9_method_72_code
def yX7_type : MethodName := ⟨RX7, "type", "(I)I"⟩
abbrev cX7_clearCommands : ByteArray := prog_9_method_73_code
def yX7_clearCommands : MethodName := ⟨RX7, "clearCommands", "()I"⟩
abbrev cX7_here : ByteArray := prog_9_method_74_code
def yX7_here : MethodName := ⟨RX7, "here", "()I"⟩
abbrev cX7_skips : ByteArray := prog_9_method_75_code
def yX7_skips : MethodName := ⟨RX7, "skips", "()Z"⟩
abbrev cX7_isWord : ByteArray := prog_9_method_76_code
def yX7_isWord : MethodName := ⟨RX7, "isWord", "(IIIIII)Z"⟩
abbrev cX7_wordFrom : ByteArray := prog_9_method_77_code
def yX7_wordFrom : MethodName := ⟨RX7, "wordFrom", "(I)I"⟩
abbrev cX7_numbersOf : ByteArray := prog_9_method_78_code
def yX7_numbersOf : MethodName := ⟨RX7, "numbersOf", "(I)I"⟩
abbrev cX7_isNumber : ByteArray := prog_9_method_79_code
def yX7_isNumber : MethodName := ⟨RX7, "isNumber", "(I)Z"⟩
abbrev cX7_isCommand : ByteArray := prog_9_method_80_code
def yX7_isCommand : MethodName := ⟨RX7, "isCommand", "()Z"⟩
abbrev cX7_faultOfText : ByteArray := prog_9_method_81_code
def yX7_faultOfText : MethodName := ⟨RX7, "faultOfText", "()I"⟩
abbrev cX7_does : ByteArray := prog_9_method_82_code
def yX7_does : MethodName := ⟨RX7, "does", "()I"⟩
abbrev cX7_runCommands : ByteArray := prog_9_method_83_code
def yX7_runCommands : MethodName := ⟨RX7, "runCommands", "()I"⟩
abbrev cX7_mix : ByteArray := prog_9_method_84_code
def yX7_mix : MethodName := ⟨RX7, "mix", "(I)V"⟩
abbrev cX7_mixPlace : ByteArray := prog_9_method_85_code
def yX7_mixPlace : MethodName := ⟨RX7, "mixPlace", "(II)V"⟩
abbrev cX7_digest : ByteArray := prog_9_method_86_code
def yX7_digest : MethodName := ⟨RX7, "digest", "()J"⟩
def RJ6 : String := "java/lang/Integer"
def TJ6 : u_T := fun k => match k with
  | _ => ("", "", "", false)
def tyJ6 : Nat → FieldType := fun k => match k with
  | _ => .int
abbrev cJ6_bitCount_0f7a4 : ByteArray := prog_14_method_49_code
def yJ6_bitCount_0f7a4 : MethodName := ⟨RJ6, "bitCount", "(I)I"⟩
def RJ9 : String := "java/lang/Math"
def TJ9 : u_T := fun k => match k with
  | _ => ("", "", "", false)
def tyJ9 : Nat → FieldType := fun k => match k with
  | _ => .int
abbrev cJ9_abs_0f7a4 : ByteArray := prog_15_method_59_code
def yJ9_abs_0f7a4 : MethodName := ⟨RJ9, "abs", "(I)I"⟩
abbrev cJ9_max_7cf53 : ByteArray := prog_15_method_65_code
def yJ9_max_7cf53 : MethodName := ⟨RJ9, "max", "(II)I"⟩
abbrev cJ9_min_7cf53 : ByteArray := prog_15_method_69_code
def yJ9_min_7cf53 : MethodName := ⟨RJ9, "min", "(II)I"⟩
def RJ0 : String := "java/lang/String"
def TJ0 : u_T := fun k => match k with
  | _ => ("", "", "", false)
def tyJ0 : Nat → FieldType := fun k => match k with
  | _ => .int
abbrev cJ0_length_8abf5 : ByteArray := prog_17_method_54_code
def yJ0_length_8abf5 : MethodName := ⟨RJ0, "length", "()I"⟩
abbrev cJ0_charAt_5068e : ByteArray := prog_17_method_56_code
def yJ0_charAt_5068e : MethodName := ⟨RJ0, "charAt", "(I)C"⟩
abbrev cJ0_coder_7d493 : ByteArray := prog_17_method_152_code
def yJ0_coder_7d493 : MethodName := ⟨RJ0, "coder", "()B"⟩
abbrev cJ0_isLatin1_aae02 : ByteArray := prog_17_method_154_code
def yJ0_isLatin1_aae02 : MethodName := ⟨RJ0, "isLatin1", "()Z"⟩
abbrev cJ0_checkIndex_df160 : ByteArray := prog_17_method_155_code
def yJ0_checkIndex_df160 : MethodName := ⟨RJ0, "checkIndex", "(II)V"⟩
def RJ1 : String := "java/lang/StringLatin1"
def TJ1 : u_T := fun k => match k with
  | _ => ("", "", "", false)
def tyJ1 : Nat → FieldType := fun k => match k with
  | _ => .int
abbrev cJ1_charAt_3b067 : ByteArray := prog_18_method_2_code
def yJ1_charAt_3b067 : MethodName := ⟨RJ1, "charAt", "([BI)C"⟩
def RJ2 : String := "java/lang/StringUTF16"
def TJ2 : u_T := fun k => match k with
  | _ => ("", "", "", false)
def tyJ2 : Nat → FieldType := fun k => match k with
  | _ => .int
abbrev cJ2_getChar_3b067 : ByteArray := prog_19_method_5_code
def yJ2_getChar_3b067 : MethodName := ⟨RJ2, "getChar", "([BI)C"⟩
abbrev cJ2_length_9d52b : ByteArray := prog_19_method_6_code
def yJ2_length_9d52b : MethodName := ⟨RJ2, "length", "([B)I"⟩
abbrev cJ2_charAt_3b067 : ByteArray := prog_19_method_83_code
def yJ2_charAt_3b067 : MethodName := ⟨RJ2, "charAt", "([BI)C"⟩
abbrev cJ2_checkIndex_2214a : ByteArray := prog_19_method_91_code
def yJ2_checkIndex_2214a : MethodName := ⟨RJ2, "checkIndex", "(I[B)V"⟩
def RJ3 : String := "jdk/internal/util/Preconditions"
def TJ3 : u_T := fun k => match k with
  | _ => ("", "", "", false)
def tyJ3 : Nat → FieldType := fun k => match k with
  | _ => .int
abbrev cJ3_checkIndex_8e157 : ByteArray := prog_21_method_11_code
def yJ3_checkIndex_8e157 : MethodName := ⟨RJ3, "checkIndex", "(IILjava/util/function/BiFunction;)I"⟩
def RL : String := "LampMuralLaw"
abbrev cL_begin : ByteArray := method_3_code
def yL_begin : MethodName := ⟨RL, "begin", "(LLampMural;II[J)I"⟩
abbrev cL_paint : ByteArray := method_4_code
def yL_paint : MethodName := ⟨RL, "paint", "(LLampMural;IIIII[J)I"⟩
abbrev cL_addLamp : ByteArray := method_5_code
def yL_addLamp : MethodName := ⟨RL, "addLamp", "(LLampMural;II[J)I"⟩
abbrev cL_setCorner : ByteArray := method_6_code
def yL_setCorner : MethodName := ⟨RL, "setCorner", "(LLampMural;IIII[J)I"⟩
abbrev cL_setRectangle : ByteArray := method_7_code
def yL_setRectangle : MethodName := ⟨RL, "setRectangle", "(LLampMural;IIIII[J)I"⟩
abbrev cL_setLamp : ByteArray := method_8_code
def yL_setLamp : MethodName := ⟨RL, "setLamp", "(LLampMural;III[J)I"⟩
abbrev cL_setWorks : ByteArray := method_9_code
def yL_setWorks : MethodName := ⟨RL, "setWorks", "(LLampMural;IZ[J)I"⟩
abbrev cL_shift : ByteArray := method_10_code
def yL_shift : MethodName := ⟨RL, "shift", "(LLampMural;II[J)I"⟩
abbrev cL_burn : ByteArray := method_11_code
def yL_burn : MethodName := ⟨RL, "burn", "(LLampMural;I[J)I"⟩
abbrev cL_place : ByteArray := method_12_code
def yL_place : MethodName := ⟨RL, "place", "(LLampMural;III[J)I"⟩
abbrev cL_light : ByteArray := method_13_code
def yL_light : MethodName := ⟨RL, "light", "(LLampMural;III[J)I"⟩
abbrev cL_weight : ByteArray := method_14_code
def yL_weight : MethodName := ⟨RL, "weight", "(LLampMural;III[J)I"⟩
abbrev cL_lamp : ByteArray := method_15_code
def yL_lamp : MethodName := ⟨RL, "lamp", "(LLampMural;II[J)I"⟩
abbrev cL_corner : ByteArray := method_16_code
def yL_corner : MethodName := ⟨RL, "corner", "(LLampMural;III[J)I"⟩
abbrev cL_whole : ByteArray := method_17_code
def yL_whole : MethodName := ⟨RL, "whole", "(LLampMural;I[J)I"⟩
abbrev cL_wrong : ByteArray := method_18_code
def yL_wrong : MethodName := ⟨RL, "wrong", "(LLampMural;I[J)I"⟩
abbrev cL_wrongWithout : ByteArray := method_19_code
def yL_wrongWithout : MethodName := ⟨RL, "wrongWithout", "(LLampMural;I[J)I"⟩
abbrev cL_wrongShifted : ByteArray := method_20_code
def yL_wrongShifted : MethodName := ⟨RL, "wrongShifted", "(LLampMural;II[J)I"⟩
abbrev cL_bestShift : ByteArray := method_21_code
def yL_bestShift : MethodName := ⟨RL, "bestShift", "(LLampMural;I[J)I"⟩
abbrev cL_neededLimit : ByteArray := method_22_code
def yL_neededLimit : MethodName := ⟨RL, "neededLimit", "(LLampMural;I[J)I"⟩
abbrev cL_type : ByteArray := method_23_code
def yL_type : MethodName := ⟨RL, "type", "(LLampMural;I[J)I"⟩
abbrev cL_undo : ByteArray := method_24_code
def yL_undo : MethodName := ⟨RL, "undo", "(LLampMural;[J)I"⟩
abbrev cL_law : ByteArray := code
def yL_law : MethodName := ⟨RL, "law", "([I)Z"⟩
abbrev vwCl : List vw_C := [(RX0, TX0, 6), (RX1, TX1, 8), (RX2, TX2, 3), (RX3, TX3, 1), (RX4, TX4, 14), (RX5, TX5, 6), (RX6, TX6, 5), (RX7, TX7, 23)]
end
section
theorem dX0_init_0 : decode cX0_init 0 = .ok (.aload_n 0, 1) := by decide +kernel
theorem dX0_init_1 : decode cX0_init 1 = .ok (.invokespecial 3, 3) := by decide +kernel
theorem dX0_init_4 : decode cX0_init 4 = .ok (.aload_n 0, 1) := by decide +kernel
theorem dX0_init_5 : decode cX0_init 5 = .ok (.new 9, 3) := by decide +kernel
theorem dX0_init_8 : decode cX0_init 8 = .ok (.dup, 1) := by decide +kernel
theorem dX0_init_9 : decode cX0_init 9 = .ok (.sipush 150, 3) := by decide +kernel
theorem dX0_init_12 : decode cX0_init 12 = .ok (.invokespecial 11, 3) := by decide +kernel
theorem dX0_init_15 : decode cX0_init 15 = .ok (.putfield 14, 3) := by decide +kernel
theorem dX0_init_18 : decode cX0_init 18 = .ok (.aload_n 0, 1) := by decide +kernel
theorem dX0_init_19 : decode cX0_init 19 = .ok (.new 9, 3) := by decide +kernel
theorem dX0_init_22 : decode cX0_init 22 = .ok (.dup, 1) := by decide +kernel
theorem dX0_init_23 : decode cX0_init 23 = .ok (.iconst 5, 1) := by decide +kernel
theorem dX0_init_24 : decode cX0_init 24 = .ok (.invokespecial 11, 3) := by decide +kernel
theorem dX0_init_27 : decode cX0_init 27 = .ok (.putfield 20, 3) := by decide +kernel
theorem dX0_init_30 : decode cX0_init 30 = .ok (.aload_n 0, 1) := by decide +kernel
theorem dX0_init_31 : decode cX0_init 31 = .ok (.sipush (-1000), 3) := by decide +kernel
theorem dX0_init_34 : decode cX0_init 34 = .ok (.putfield 23, 3) := by decide +kernel
theorem dX0_init_37 : decode cX0_init 37 = .ok (.aload_n 0, 1) := by decide +kernel
theorem dX0_init_38 : decode cX0_init 38 = .ok (.iconst 0, 1) := by decide +kernel
theorem dX0_init_39 : decode cX0_init 39 = .ok (.putfield 27, 3) := by decide +kernel
theorem dX0_init_42 : decode cX0_init 42 = .ok (.return_, 1) := by decide +kernel
theorem dX0_append_0 : decode cX0_append 0 = .ok (.aload_n 0, 1) := by decide +kernel
theorem dX0_append_1 : decode cX0_append 1 = .ok (.getfield 14, 3) := by decide +kernel
theorem dX0_append_4 : decode cX0_append 4 = .ok (.aload_n 0, 1) := by decide +kernel
theorem dX0_append_5 : decode cX0_append 5 = .ok (.getfield 30, 3) := by decide +kernel
theorem dX0_append_8 : decode cX0_append 8 = .ok (.iload_n 1, 1) := by decide +kernel
theorem dX0_append_9 : decode cX0_append 9 = .ok (.invokevirtual 33, 3) := by decide +kernel
theorem dX0_append_12 : decode cX0_append 12 = .ok (.aload_n 0, 1) := by decide +kernel
theorem dX0_append_13 : decode cX0_append 13 = .ok (.dup, 1) := by decide +kernel
theorem dX0_append_14 : decode cX0_append 14 = .ok (.getfield 30, 3) := by decide +kernel
theorem dX0_append_17 : decode cX0_append 17 = .ok (.iconst 1, 1) := by decide +kernel
theorem dX0_append_18 : decode cX0_append 18 = .ok (.iadd, 1) := by decide +kernel
theorem dX0_append_19 : decode cX0_append 19 = .ok (.putfield 30, 3) := by decide +kernel
theorem dX0_append_22 : decode cX0_append 22 = .ok (.aload_n 0, 1) := by decide +kernel
theorem dX0_append_23 : decode cX0_append 23 = .ok (.getfield 30, 3) := by decide +kernel
theorem dX0_append_26 : decode cX0_append 26 = .ok (.ireturn, 1) := by decide +kernel
theorem dX0_empty_0 : decode cX0_empty 0 = .ok (.aload_n 0, 1) := by decide +kernel
theorem dX0_empty_1 : decode cX0_empty 1 = .ok (.getfield 30, 3) := by decide +kernel
theorem dX0_empty_4 : decode cX0_empty 4 = .ok (.istore_n 1, 1) := by decide +kernel
theorem dX0_empty_5 : decode cX0_empty 5 = .ok (.aload_n 0, 1) := by decide +kernel
theorem dX0_empty_6 : decode cX0_empty 6 = .ok (.iconst 0, 1) := by decide +kernel
theorem dX0_empty_7 : decode cX0_empty 7 = .ok (.putfield 30, 3) := by decide +kernel
theorem dX0_empty_10 : decode cX0_empty 10 = .ok (.aload_n 0, 1) := by decide +kernel
theorem dX0_empty_11 : decode cX0_empty 11 = .ok (.getfield 14, 3) := by decide +kernel
theorem dX0_empty_14 : decode cX0_empty 14 = .ok (.invokevirtual 37, 3) := by decide +kernel
theorem dX0_empty_17 : decode cX0_empty 17 = .ok (.iload_n 1, 1) := by decide +kernel
theorem dX0_empty_18 : decode cX0_empty 18 = .ok (.ireturn, 1) := by decide +kernel
theorem dX0_rewind_0 : decode cX0_rewind 0 = .ok (.aload_n 0, 1) := by decide +kernel
theorem dX0_rewind_1 : decode cX0_rewind 1 = .ok (.iconst 0, 1) := by decide +kernel
theorem dX0_rewind_2 : decode cX0_rewind 2 = .ok (.putfield 40, 3) := by decide +kernel
theorem dX0_rewind_5 : decode cX0_rewind 5 = .ok (.aload_n 0, 1) := by decide +kernel
theorem dX0_rewind_6 : decode cX0_rewind 6 = .ok (.sipush (-1000), 3) := by decide +kernel
theorem dX0_rewind_9 : decode cX0_rewind 9 = .ok (.putfield 23, 3) := by decide +kernel
theorem dX0_rewind_12 : decode cX0_rewind 12 = .ok (.return_, 1) := by decide +kernel
theorem dX0_findFault_0 : decode cX0_findFault 0 = .ok (.aload_n 0, 1) := by decide +kernel
theorem dX0_findFault_1 : decode cX0_findFault 1 = .ok (.invokevirtual 43, 3) := by decide +kernel
theorem dX0_findFault_4 : decode cX0_findFault 4 = .ok (.iconst 0, 1) := by decide +kernel
theorem dX0_findFault_5 : decode cX0_findFault 5 = .ok (.istore_n 1, 1) := by decide +kernel
theorem dX0_findFault_6 : decode cX0_findFault 6 = .ok (.iload_n 1, 1) := by decide +kernel
theorem dX0_findFault_7 : decode cX0_findFault 7 = .ok (.sipush 150, 3) := by decide +kernel
theorem dX0_findFault_10 : decode cX0_findFault 10 = .ok (.if_icmp .ge 19, 3) := by decide +kernel
theorem dX0_findFault_13 : decode cX0_findFault 13 = .ok (.aload_n 0, 1) := by decide +kernel
theorem dX0_findFault_14 : decode cX0_findFault 14 = .ok (.invokevirtual 46, 3) := by decide +kernel
theorem dX0_findFault_17 : decode cX0_findFault 17 = .ok (.ifCond .ne 6, 3) := by decide +kernel
theorem dX0_findFault_20 : decode cX0_findFault 20 = .ok (.goto 9, 3) := by decide +kernel
theorem dX0_findFault_23 : decode cX0_findFault 23 = .ok (.iinc 1 1, 3) := by decide +kernel
theorem dX0_findFault_26 : decode cX0_findFault 26 = .ok (.goto (-20), 3) := by decide +kernel
theorem dX0_findFault_29 : decode cX0_findFault 29 = .ok (.aload_n 0, 1) := by decide +kernel
theorem dX0_findFault_30 : decode cX0_findFault 30 = .ok (.getfield 23, 3) := by decide +kernel
theorem dX0_findFault_33 : decode cX0_findFault 33 = .ok (.ireturn, 1) := by decide +kernel
theorem dX0_readCommand_0 : decode cX0_readCommand 0 = .ok (.aload_n 0, 1) := by decide +kernel
theorem dX0_readCommand_1 : decode cX0_readCommand 1 = .ok (.invokevirtual 50, 3) := by decide +kernel
theorem dX0_readCommand_4 : decode cX0_readCommand 4 = .ok (.aload_n 0, 1) := by decide +kernel
theorem dX0_readCommand_5 : decode cX0_readCommand 5 = .ok (.getfield 40, 3) := by decide +kernel
theorem dX0_readCommand_8 : decode cX0_readCommand 8 = .ok (.aload_n 0, 1) := by decide +kernel
theorem dX0_readCommand_9 : decode cX0_readCommand 9 = .ok (.getfield 30, 3) := by decide +kernel
theorem dX0_readCommand_12 : decode cX0_readCommand 12 = .ok (.if_icmp .ge 10, 3) := by decide +kernel
theorem dX0_readCommand_15 : decode cX0_readCommand 15 = .ok (.aload_n 0, 1) := by decide +kernel
theorem dX0_readCommand_16 : decode cX0_readCommand 16 = .ok (.invokevirtual 53, 3) := by decide +kernel
theorem dX0_readCommand_19 : decode cX0_readCommand 19 = .ok (.ifCond .ne 5, 3) := by decide +kernel
theorem dX0_readCommand_22 : decode cX0_readCommand 22 = .ok (.iconst 0, 1) := by decide +kernel
theorem dX0_readCommand_23 : decode cX0_readCommand 23 = .ok (.ireturn, 1) := by decide +kernel
theorem dX0_readCommand_24 : decode cX0_readCommand 24 = .ok (.aload_n 0, 1) := by decide +kernel
theorem dX0_readCommand_25 : decode cX0_readCommand 25 = .ok (.getfield 20, 3) := by decide +kernel
theorem dX0_readCommand_28 : decode cX0_readCommand 28 = .ok (.invokevirtual 37, 3) := by decide +kernel
theorem dX0_readCommand_31 : decode cX0_readCommand 31 = .ok (.iconst 0, 1) := by decide +kernel
theorem dX0_readCommand_32 : decode cX0_readCommand 32 = .ok (.istore_n 1, 1) := by decide +kernel
theorem dX0_readCommand_33 : decode cX0_readCommand 33 = .ok (.iload_n 1, 1) := by decide +kernel
theorem dX0_readCommand_34 : decode cX0_readCommand 34 = .ok (.aload_n 0, 1) := by decide +kernel
theorem dX0_readCommand_35 : decode cX0_readCommand 35 = .ok (.getfield 27, 3) := by decide +kernel
theorem dX0_readCommand_38 : decode cX0_readCommand 38 = .ok (.invokestatic 56, 3) := by decide +kernel
theorem dX0_readCommand_41 : decode cX0_readCommand 41 = .ok (.if_icmp .ge 19, 3) := by decide +kernel
theorem dX0_readCommand_44 : decode cX0_readCommand 44 = .ok (.aload_n 0, 1) := by decide +kernel
theorem dX0_readCommand_45 : decode cX0_readCommand 45 = .ok (.iload_n 1, 1) := by decide +kernel
theorem dX0_readCommand_46 : decode cX0_readCommand 46 = .ok (.invokevirtual 60, 3) := by decide +kernel
theorem dX0_readCommand_49 : decode cX0_readCommand 49 = .ok (.ifCond .ne 5, 3) := by decide +kernel
theorem dX0_readCommand_52 : decode cX0_readCommand 52 = .ok (.iconst 0, 1) := by decide +kernel
theorem dX0_readCommand_53 : decode cX0_readCommand 53 = .ok (.ireturn, 1) := by decide +kernel
theorem dX0_readCommand_54 : decode cX0_readCommand 54 = .ok (.iinc 1 1, 3) := by decide +kernel
theorem dX0_readCommand_57 : decode cX0_readCommand 57 = .ok (.goto (-24), 3) := by decide +kernel
theorem dX0_readCommand_60 : decode cX0_readCommand 60 = .ok (.aload_n 0, 1) := by decide +kernel
theorem dX0_readCommand_61 : decode cX0_readCommand 61 = .ok (.invokevirtual 50, 3) := by decide +kernel
theorem dX0_readCommand_64 : decode cX0_readCommand 64 = .ok (.aload_n 0, 1) := by decide +kernel
theorem dX0_readCommand_65 : decode cX0_readCommand 65 = .ok (.getfield 14, 3) := by decide +kernel
theorem dX0_readCommand_68 : decode cX0_readCommand 68 = .ok (.aload_n 0, 1) := by decide +kernel
theorem dX0_readCommand_69 : decode cX0_readCommand 69 = .ok (.getfield 40, 3) := by decide +kernel
theorem dX0_readCommand_72 : decode cX0_readCommand 72 = .ok (.invokevirtual 64, 3) := by decide +kernel
theorem dX0_readCommand_75 : decode cX0_readCommand 75 = .ok (.bipush 59, 2) := by decide +kernel
theorem dX0_readCommand_77 : decode cX0_readCommand 77 = .ok (.if_icmp .eq 12, 3) := by decide +kernel
theorem dX0_readCommand_80 : decode cX0_readCommand 80 = .ok (.aload_n 0, 1) := by decide +kernel
theorem dX0_readCommand_81 : decode cX0_readCommand 81 = .ok (.aload_n 0, 1) := by decide +kernel
theorem dX0_readCommand_82 : decode cX0_readCommand 82 = .ok (.getfield 40, 3) := by decide +kernel
theorem dX0_readCommand_85 : decode cX0_readCommand 85 = .ok (.invokevirtual 67, 3) := by decide +kernel
theorem dX0_readCommand_88 : decode cX0_readCommand 88 = .ok (.ireturn, 1) := by decide +kernel
theorem dX0_readCommand_89 : decode cX0_readCommand 89 = .ok (.aload_n 0, 1) := by decide +kernel
theorem dX0_readCommand_90 : decode cX0_readCommand 90 = .ok (.dup, 1) := by decide +kernel
theorem dX0_readCommand_91 : decode cX0_readCommand 91 = .ok (.getfield 40, 3) := by decide +kernel
theorem dX0_readCommand_94 : decode cX0_readCommand 94 = .ok (.iconst 1, 1) := by decide +kernel
theorem dX0_readCommand_95 : decode cX0_readCommand 95 = .ok (.iadd, 1) := by decide +kernel
theorem dX0_readCommand_96 : decode cX0_readCommand 96 = .ok (.putfield 40, 3) := by decide +kernel
theorem dX0_readCommand_99 : decode cX0_readCommand 99 = .ok (.iconst 1, 1) := by decide +kernel
theorem dX0_readCommand_100 : decode cX0_readCommand 100 = .ok (.ireturn, 1) := by decide +kernel
theorem dX0_number_0 : decode cX0_number 0 = .ok (.aload_n 0, 1) := by decide +kernel
theorem dX0_number_1 : decode cX0_number 1 = .ok (.getfield 20, 3) := by decide +kernel
theorem dX0_number_4 : decode cX0_number 4 = .ok (.iload_n 1, 1) := by decide +kernel
theorem dX0_number_5 : decode cX0_number 5 = .ok (.invokevirtual 64, 3) := by decide +kernel
theorem dX0_number_8 : decode cX0_number 8 = .ok (.ireturn, 1) := by decide +kernel
theorem dX0_readWord_0 : decode cX0_readWord 0 = .ok (.aload_n 0, 1) := by decide +kernel
theorem dX0_readWord_1 : decode cX0_readWord 1 = .ok (.getfield 40, 3) := by decide +kernel
theorem dX0_readWord_4 : decode cX0_readWord 4 = .ok (.istore_n 1, 1) := by decide +kernel
theorem dX0_readWord_5 : decode cX0_readWord 5 = .ok (.aload_n 0, 1) := by decide +kernel
theorem dX0_readWord_6 : decode cX0_readWord 6 = .ok (.getfield 40, 3) := by decide +kernel
theorem dX0_readWord_9 : decode cX0_readWord 9 = .ok (.aload_n 0, 1) := by decide +kernel
theorem dX0_readWord_10 : decode cX0_readWord 10 = .ok (.getfield 30, 3) := by decide +kernel
theorem dX0_readWord_13 : decode cX0_readWord 13 = .ok (.if_icmp .ge 37, 3) := by decide +kernel
theorem dX0_readWord_16 : decode cX0_readWord 16 = .ok (.aload_n 0, 1) := by decide +kernel
theorem dX0_readWord_17 : decode cX0_readWord 17 = .ok (.getfield 14, 3) := by decide +kernel
theorem dX0_readWord_20 : decode cX0_readWord 20 = .ok (.aload_n 0, 1) := by decide +kernel
theorem dX0_readWord_21 : decode cX0_readWord 21 = .ok (.getfield 40, 3) := by decide +kernel
theorem dX0_readWord_24 : decode cX0_readWord 24 = .ok (.invokevirtual 64, 3) := by decide +kernel
theorem dX0_readWord_27 : decode cX0_readWord 27 = .ok (.bipush 97, 2) := by decide +kernel
theorem dX0_readWord_29 : decode cX0_readWord 29 = .ok (.bipush 122, 2) := by decide +kernel
theorem dX0_readWord_31 : decode cX0_readWord 31 = .ok (.invokestatic 70, 3) := by decide +kernel
theorem dX0_readWord_34 : decode cX0_readWord 34 = .ok (.ifCond .eq 16, 3) := by decide +kernel
theorem dX0_readWord_37 : decode cX0_readWord 37 = .ok (.aload_n 0, 1) := by decide +kernel
theorem dX0_readWord_38 : decode cX0_readWord 38 = .ok (.dup, 1) := by decide +kernel
theorem dX0_readWord_39 : decode cX0_readWord 39 = .ok (.getfield 40, 3) := by decide +kernel
theorem dX0_readWord_42 : decode cX0_readWord 42 = .ok (.iconst 1, 1) := by decide +kernel
theorem dX0_readWord_43 : decode cX0_readWord 43 = .ok (.iadd, 1) := by decide +kernel
theorem dX0_readWord_44 : decode cX0_readWord 44 = .ok (.putfield 40, 3) := by decide +kernel
theorem dX0_readWord_47 : decode cX0_readWord 47 = .ok (.goto (-42), 3) := by decide +kernel
theorem dX0_readWord_50 : decode cX0_readWord 50 = .ok (.aload_n 0, 1) := by decide +kernel
theorem dX0_readWord_51 : decode cX0_readWord 51 = .ok (.aload_n 0, 1) := by decide +kernel
theorem dX0_readWord_52 : decode cX0_readWord 52 = .ok (.iload_n 1, 1) := by decide +kernel
theorem dX0_readWord_53 : decode cX0_readWord 53 = .ok (.aload_n 0, 1) := by decide +kernel
theorem dX0_readWord_54 : decode cX0_readWord 54 = .ok (.getfield 40, 3) := by decide +kernel
theorem dX0_readWord_57 : decode cX0_readWord 57 = .ok (.invokevirtual 74, 3) := by decide +kernel
theorem dX0_readWord_60 : decode cX0_readWord 60 = .ok (.putfield 27, 3) := by decide +kernel
theorem dX0_readWord_63 : decode cX0_readWord 63 = .ok (.aload_n 0, 1) := by decide +kernel
theorem dX0_readWord_64 : decode cX0_readWord 64 = .ok (.getfield 27, 3) := by decide +kernel
theorem dX0_readWord_67 : decode cX0_readWord 67 = .ok (.ifCond .ne 11, 3) := by decide +kernel
theorem dX0_readWord_70 : decode cX0_readWord 70 = .ok (.aload_n 0, 1) := by decide +kernel
theorem dX0_readWord_71 : decode cX0_readWord 71 = .ok (.iload_n 1, 1) := by decide +kernel
theorem dX0_readWord_72 : decode cX0_readWord 72 = .ok (.invokevirtual 67, 3) := by decide +kernel
theorem dX0_readWord_75 : decode cX0_readWord 75 = .ok (.ifCond .eq 7, 3) := by decide +kernel
theorem dX0_readWord_78 : decode cX0_readWord 78 = .ok (.iconst 1, 1) := by decide +kernel
theorem dX0_readWord_79 : decode cX0_readWord 79 = .ok (.goto 4, 3) := by decide +kernel
theorem dX0_readWord_82 : decode cX0_readWord 82 = .ok (.iconst 0, 1) := by decide +kernel
theorem dX0_readWord_83 : decode cX0_readWord 83 = .ok (.ireturn, 1) := by decide +kernel
theorem dX0_readNumber_0 : decode cX0_readNumber 0 = .ok (.aload_n 0, 1) := by decide +kernel
theorem dX0_readNumber_1 : decode cX0_readNumber 1 = .ok (.getfield 14, 3) := by decide +kernel
theorem dX0_readNumber_4 : decode cX0_readNumber 4 = .ok (.aload_n 0, 1) := by decide +kernel
theorem dX0_readNumber_5 : decode cX0_readNumber 5 = .ok (.getfield 40, 3) := by decide +kernel
theorem dX0_readNumber_8 : decode cX0_readNumber 8 = .ok (.invokevirtual 64, 3) := by decide +kernel
theorem dX0_readNumber_11 : decode cX0_readNumber 11 = .ok (.bipush 32, 2) := by decide +kernel
theorem dX0_readNumber_13 : decode cX0_readNumber 13 = .ok (.if_icmp .eq 12, 3) := by decide +kernel
theorem dX0_readNumber_16 : decode cX0_readNumber 16 = .ok (.aload_n 0, 1) := by decide +kernel
theorem dX0_readNumber_17 : decode cX0_readNumber 17 = .ok (.aload_n 0, 1) := by decide +kernel
theorem dX0_readNumber_18 : decode cX0_readNumber 18 = .ok (.getfield 40, 3) := by decide +kernel
theorem dX0_readNumber_21 : decode cX0_readNumber 21 = .ok (.invokevirtual 67, 3) := by decide +kernel
theorem dX0_readNumber_24 : decode cX0_readNumber 24 = .ok (.ireturn, 1) := by decide +kernel
theorem dX0_readNumber_25 : decode cX0_readNumber 25 = .ok (.aload_n 0, 1) := by decide +kernel
theorem dX0_readNumber_26 : decode cX0_readNumber 26 = .ok (.invokevirtual 50, 3) := by decide +kernel
theorem dX0_readNumber_29 : decode cX0_readNumber 29 = .ok (.aload_n 0, 1) := by decide +kernel
theorem dX0_readNumber_30 : decode cX0_readNumber 30 = .ok (.getfield 14, 3) := by decide +kernel
theorem dX0_readNumber_33 : decode cX0_readNumber 33 = .ok (.aload_n 0, 1) := by decide +kernel
theorem dX0_readNumber_34 : decode cX0_readNumber 34 = .ok (.getfield 40, 3) := by decide +kernel
theorem dX0_readNumber_37 : decode cX0_readNumber 37 = .ok (.invokevirtual 64, 3) := by decide +kernel
theorem dX0_readNumber_40 : decode cX0_readNumber 40 = .ok (.bipush 45, 2) := by decide +kernel
theorem dX0_readNumber_42 : decode cX0_readNumber 42 = .ok (.if_icmp .ne 7, 3) := by decide +kernel
theorem dX0_readNumber_45 : decode cX0_readNumber 45 = .ok (.iconst 1, 1) := by decide +kernel
theorem dX0_readNumber_46 : decode cX0_readNumber 46 = .ok (.goto 4, 3) := by decide +kernel
theorem dX0_readNumber_49 : decode cX0_readNumber 49 = .ok (.iconst 0, 1) := by decide +kernel
theorem dX0_readNumber_50 : decode cX0_readNumber 50 = .ok (.istore_n 2, 1) := by decide +kernel
theorem dX0_readNumber_51 : decode cX0_readNumber 51 = .ok (.iload_n 2, 1) := by decide +kernel
theorem dX0_readNumber_52 : decode cX0_readNumber 52 = .ok (.ifCond .eq 13, 3) := by decide +kernel
theorem dX0_readNumber_55 : decode cX0_readNumber 55 = .ok (.aload_n 0, 1) := by decide +kernel
theorem dX0_readNumber_56 : decode cX0_readNumber 56 = .ok (.dup, 1) := by decide +kernel
theorem dX0_readNumber_57 : decode cX0_readNumber 57 = .ok (.getfield 40, 3) := by decide +kernel
theorem dX0_readNumber_60 : decode cX0_readNumber 60 = .ok (.iconst 1, 1) := by decide +kernel
theorem dX0_readNumber_61 : decode cX0_readNumber 61 = .ok (.iadd, 1) := by decide +kernel
theorem dX0_readNumber_62 : decode cX0_readNumber 62 = .ok (.putfield 40, 3) := by decide +kernel
theorem dX0_readNumber_65 : decode cX0_readNumber 65 = .ok (.aload_n 0, 1) := by decide +kernel
theorem dX0_readNumber_66 : decode cX0_readNumber 66 = .ok (.getfield 14, 3) := by decide +kernel
theorem dX0_readNumber_69 : decode cX0_readNumber 69 = .ok (.aload_n 0, 1) := by decide +kernel
theorem dX0_readNumber_70 : decode cX0_readNumber 70 = .ok (.getfield 40, 3) := by decide +kernel
theorem dX0_readNumber_73 : decode cX0_readNumber 73 = .ok (.invokevirtual 64, 3) := by decide +kernel
theorem dX0_readNumber_76 : decode cX0_readNumber 76 = .ok (.invokestatic 78, 3) := by decide +kernel
theorem dX0_readNumber_79 : decode cX0_readNumber 79 = .ok (.ifCond .ne 12, 3) := by decide +kernel
theorem dX0_readNumber_82 : decode cX0_readNumber 82 = .ok (.aload_n 0, 1) := by decide +kernel
theorem dX0_readNumber_83 : decode cX0_readNumber 83 = .ok (.aload_n 0, 1) := by decide +kernel
theorem dX0_readNumber_84 : decode cX0_readNumber 84 = .ok (.getfield 40, 3) := by decide +kernel
theorem dX0_readNumber_87 : decode cX0_readNumber 87 = .ok (.invokevirtual 67, 3) := by decide +kernel
theorem dX0_readNumber_90 : decode cX0_readNumber 90 = .ok (.ireturn, 1) := by decide +kernel
theorem dX0_readNumber_91 : decode cX0_readNumber 91 = .ok (.iconst 0, 1) := by decide +kernel
theorem dX0_readNumber_92 : decode cX0_readNumber 92 = .ok (.istore_n 3, 1) := by decide +kernel
theorem dX0_readNumber_93 : decode cX0_readNumber 93 = .ok (.iconst 0, 1) := by decide +kernel
theorem dX0_readNumber_94 : decode cX0_readNumber 94 = .ok (.istore 4, 2) := by decide +kernel
theorem dX0_readNumber_96 : decode cX0_readNumber 96 = .ok (.iload 4, 2) := by decide +kernel
theorem dX0_readNumber_98 : decode cX0_readNumber 98 = .ok (.iconst 4, 1) := by decide +kernel
theorem dX0_readNumber_99 : decode cX0_readNumber 99 = .ok (.if_icmp .ge 56, 3) := by decide +kernel
theorem dX0_readNumber_102 : decode cX0_readNumber 102 = .ok (.aload_n 0, 1) := by decide +kernel
theorem dX0_readNumber_103 : decode cX0_readNumber 103 = .ok (.getfield 14, 3) := by decide +kernel
theorem dX0_readNumber_106 : decode cX0_readNumber 106 = .ok (.aload_n 0, 1) := by decide +kernel
theorem dX0_readNumber_107 : decode cX0_readNumber 107 = .ok (.getfield 40, 3) := by decide +kernel
theorem dX0_readNumber_110 : decode cX0_readNumber 110 = .ok (.invokevirtual 64, 3) := by decide +kernel
theorem dX0_readNumber_113 : decode cX0_readNumber 113 = .ok (.invokestatic 78, 3) := by decide +kernel
theorem dX0_readNumber_116 : decode cX0_readNumber 116 = .ok (.ifCond .eq 39, 3) := by decide +kernel
theorem dX0_readNumber_119 : decode cX0_readNumber 119 = .ok (.bipush 10, 2) := by decide +kernel
theorem dX0_readNumber_121 : decode cX0_readNumber 121 = .ok (.iload_n 3, 1) := by decide +kernel
theorem dX0_readNumber_122 : decode cX0_readNumber 122 = .ok (.imul, 1) := by decide +kernel
theorem dX0_readNumber_123 : decode cX0_readNumber 123 = .ok (.aload_n 0, 1) := by decide +kernel
theorem dX0_readNumber_124 : decode cX0_readNumber 124 = .ok (.getfield 14, 3) := by decide +kernel
theorem dX0_readNumber_127 : decode cX0_readNumber 127 = .ok (.aload_n 0, 1) := by decide +kernel
theorem dX0_readNumber_128 : decode cX0_readNumber 128 = .ok (.getfield 40, 3) := by decide +kernel
theorem dX0_readNumber_131 : decode cX0_readNumber 131 = .ok (.invokevirtual 64, 3) := by decide +kernel
theorem dX0_readNumber_134 : decode cX0_readNumber 134 = .ok (.iadd, 1) := by decide +kernel
theorem dX0_readNumber_135 : decode cX0_readNumber 135 = .ok (.bipush 48, 2) := by decide +kernel
theorem dX0_readNumber_137 : decode cX0_readNumber 137 = .ok (.isub, 1) := by decide +kernel
theorem dX0_readNumber_138 : decode cX0_readNumber 138 = .ok (.istore_n 3, 1) := by decide +kernel
theorem dX0_readNumber_139 : decode cX0_readNumber 139 = .ok (.aload_n 0, 1) := by decide +kernel
theorem dX0_readNumber_140 : decode cX0_readNumber 140 = .ok (.dup, 1) := by decide +kernel
theorem dX0_readNumber_141 : decode cX0_readNumber 141 = .ok (.getfield 40, 3) := by decide +kernel
theorem dX0_readNumber_144 : decode cX0_readNumber 144 = .ok (.iconst 1, 1) := by decide +kernel
theorem dX0_readNumber_145 : decode cX0_readNumber 145 = .ok (.iadd, 1) := by decide +kernel
theorem dX0_readNumber_146 : decode cX0_readNumber 146 = .ok (.putfield 40, 3) := by decide +kernel
theorem dX0_readNumber_149 : decode cX0_readNumber 149 = .ok (.iinc 4 1, 3) := by decide +kernel
theorem dX0_readNumber_152 : decode cX0_readNumber 152 = .ok (.goto (-56), 3) := by decide +kernel
theorem dX0_readNumber_155 : decode cX0_readNumber 155 = .ok (.aload_n 0, 1) := by decide +kernel
theorem dX0_readNumber_156 : decode cX0_readNumber 156 = .ok (.getfield 20, 3) := by decide +kernel
theorem dX0_readNumber_159 : decode cX0_readNumber 159 = .ok (.iload_n 1, 1) := by decide +kernel
theorem dX0_readNumber_160 : decode cX0_readNumber 160 = .ok (.iload_n 2, 1) := by decide +kernel
theorem dX0_readNumber_161 : decode cX0_readNumber 161 = .ok (.ifCond .eq 8, 3) := by decide +kernel
theorem dX0_readNumber_164 : decode cX0_readNumber 164 = .ok (.iload_n 3, 1) := by decide +kernel
theorem dX0_readNumber_165 : decode cX0_readNumber 165 = .ok (.ineg, 1) := by decide +kernel
theorem dX0_readNumber_166 : decode cX0_readNumber 166 = .ok (.goto 4, 3) := by decide +kernel
theorem dX0_readNumber_169 : decode cX0_readNumber 169 = .ok (.iload_n 3, 1) := by decide +kernel
theorem dX0_readNumber_170 : decode cX0_readNumber 170 = .ok (.invokevirtual 33, 3) := by decide +kernel
theorem dX0_readNumber_173 : decode cX0_readNumber 173 = .ok (.iconst 1, 1) := by decide +kernel
theorem dX0_readNumber_174 : decode cX0_readNumber 174 = .ok (.ireturn, 1) := by decide +kernel
theorem dX0_skipSpaces_0 : decode cX0_skipSpaces 0 = .ok (.aload_n 0, 1) := by decide +kernel
theorem dX0_skipSpaces_1 : decode cX0_skipSpaces 1 = .ok (.getfield 40, 3) := by decide +kernel
theorem dX0_skipSpaces_4 : decode cX0_skipSpaces 4 = .ok (.aload_n 0, 1) := by decide +kernel
theorem dX0_skipSpaces_5 : decode cX0_skipSpaces 5 = .ok (.getfield 30, 3) := by decide +kernel
theorem dX0_skipSpaces_8 : decode cX0_skipSpaces 8 = .ok (.if_icmp .ge 32, 3) := by decide +kernel
theorem dX0_skipSpaces_11 : decode cX0_skipSpaces 11 = .ok (.aload_n 0, 1) := by decide +kernel
theorem dX0_skipSpaces_12 : decode cX0_skipSpaces 12 = .ok (.getfield 14, 3) := by decide +kernel
theorem dX0_skipSpaces_15 : decode cX0_skipSpaces 15 = .ok (.aload_n 0, 1) := by decide +kernel
theorem dX0_skipSpaces_16 : decode cX0_skipSpaces 16 = .ok (.getfield 40, 3) := by decide +kernel
theorem dX0_skipSpaces_19 : decode cX0_skipSpaces 19 = .ok (.invokevirtual 64, 3) := by decide +kernel
theorem dX0_skipSpaces_22 : decode cX0_skipSpaces 22 = .ok (.bipush 32, 2) := by decide +kernel
theorem dX0_skipSpaces_24 : decode cX0_skipSpaces 24 = .ok (.if_icmp .ne 16, 3) := by decide +kernel
theorem dX0_skipSpaces_27 : decode cX0_skipSpaces 27 = .ok (.aload_n 0, 1) := by decide +kernel
theorem dX0_skipSpaces_28 : decode cX0_skipSpaces 28 = .ok (.dup, 1) := by decide +kernel
theorem dX0_skipSpaces_29 : decode cX0_skipSpaces 29 = .ok (.getfield 40, 3) := by decide +kernel
theorem dX0_skipSpaces_32 : decode cX0_skipSpaces 32 = .ok (.iconst 1, 1) := by decide +kernel
theorem dX0_skipSpaces_33 : decode cX0_skipSpaces 33 = .ok (.iadd, 1) := by decide +kernel
theorem dX0_skipSpaces_34 : decode cX0_skipSpaces 34 = .ok (.putfield 40, 3) := by decide +kernel
theorem dX0_skipSpaces_37 : decode cX0_skipSpaces 37 = .ok (.goto (-37), 3) := by decide +kernel
theorem dX0_skipSpaces_40 : decode cX0_skipSpaces 40 = .ok (.return_, 1) := by decide +kernel
theorem dX0_failAt_0 : decode cX0_failAt 0 = .ok (.aload_n 0, 1) := by decide +kernel
theorem dX0_failAt_1 : decode cX0_failAt 1 = .ok (.iload_n 1, 1) := by decide +kernel
theorem dX0_failAt_2 : decode cX0_failAt 2 = .ok (.putfield 23, 3) := by decide +kernel
theorem dX0_failAt_5 : decode cX0_failAt 5 = .ok (.iconst 0, 1) := by decide +kernel
theorem dX0_failAt_6 : decode cX0_failAt 6 = .ok (.ireturn, 1) := by decide +kernel
theorem dX0_isDigit_0 : decode cX0_isDigit 0 = .ok (.iload_n 0, 1) := by decide +kernel
theorem dX0_isDigit_1 : decode cX0_isDigit 1 = .ok (.bipush 48, 2) := by decide +kernel
theorem dX0_isDigit_3 : decode cX0_isDigit 3 = .ok (.bipush 57, 2) := by decide +kernel
theorem dX0_isDigit_5 : decode cX0_isDigit 5 = .ok (.invokestatic 70, 3) := by decide +kernel
theorem dX0_isDigit_8 : decode cX0_isDigit 8 = .ok (.ireturn, 1) := by decide +kernel
theorem dX0_wordBetween_0 : decode cX0_wordBetween 0 = .ok (.aload_n 0, 1) := by decide +kernel
theorem dX0_wordBetween_1 : decode cX0_wordBetween 1 = .ok (.ldc 81, 2) := by decide +kernel
theorem dX0_wordBetween_3 : decode cX0_wordBetween 3 = .ok (.iload_n 1, 1) := by decide +kernel
theorem dX0_wordBetween_4 : decode cX0_wordBetween 4 = .ok (.iload_n 2, 1) := by decide +kernel
theorem dX0_wordBetween_5 : decode cX0_wordBetween 5 = .ok (.invokevirtual 83, 3) := by decide +kernel
theorem dX0_wordBetween_8 : decode cX0_wordBetween 8 = .ok (.ifCond .eq 5, 3) := by decide +kernel
theorem dX0_wordBetween_11 : decode cX0_wordBetween 11 = .ok (.iconst 1, 1) := by decide +kernel
theorem dX0_wordBetween_12 : decode cX0_wordBetween 12 = .ok (.ireturn, 1) := by decide +kernel
theorem dX0_wordBetween_13 : decode cX0_wordBetween 13 = .ok (.aload_n 0, 1) := by decide +kernel
theorem dX0_wordBetween_14 : decode cX0_wordBetween 14 = .ok (.ldc 87, 2) := by decide +kernel
theorem dX0_wordBetween_16 : decode cX0_wordBetween 16 = .ok (.iload_n 1, 1) := by decide +kernel
theorem dX0_wordBetween_17 : decode cX0_wordBetween 17 = .ok (.iload_n 2, 1) := by decide +kernel
theorem dX0_wordBetween_18 : decode cX0_wordBetween 18 = .ok (.invokevirtual 83, 3) := by decide +kernel
theorem dX0_wordBetween_21 : decode cX0_wordBetween 21 = .ok (.ifCond .eq 5, 3) := by decide +kernel
theorem dX0_wordBetween_24 : decode cX0_wordBetween 24 = .ok (.iconst 2, 1) := by decide +kernel
theorem dX0_wordBetween_25 : decode cX0_wordBetween 25 = .ok (.ireturn, 1) := by decide +kernel
theorem dX0_wordBetween_26 : decode cX0_wordBetween 26 = .ok (.aload_n 0, 1) := by decide +kernel
theorem dX0_wordBetween_27 : decode cX0_wordBetween 27 = .ok (.ldc 89, 2) := by decide +kernel
theorem dX0_wordBetween_29 : decode cX0_wordBetween 29 = .ok (.iload_n 1, 1) := by decide +kernel
theorem dX0_wordBetween_30 : decode cX0_wordBetween 30 = .ok (.iload_n 2, 1) := by decide +kernel
theorem dX0_wordBetween_31 : decode cX0_wordBetween 31 = .ok (.invokevirtual 83, 3) := by decide +kernel
theorem dX0_wordBetween_34 : decode cX0_wordBetween 34 = .ok (.ifCond .eq 5, 3) := by decide +kernel
theorem dX0_wordBetween_37 : decode cX0_wordBetween 37 = .ok (.iconst 3, 1) := by decide +kernel
theorem dX0_wordBetween_38 : decode cX0_wordBetween 38 = .ok (.ireturn, 1) := by decide +kernel
theorem dX0_wordBetween_39 : decode cX0_wordBetween 39 = .ok (.aload_n 0, 1) := by decide +kernel
theorem dX0_wordBetween_40 : decode cX0_wordBetween 40 = .ok (.ldc 91, 2) := by decide +kernel
theorem dX0_wordBetween_42 : decode cX0_wordBetween 42 = .ok (.iload_n 1, 1) := by decide +kernel
theorem dX0_wordBetween_43 : decode cX0_wordBetween 43 = .ok (.iload_n 2, 1) := by decide +kernel
theorem dX0_wordBetween_44 : decode cX0_wordBetween 44 = .ok (.invokevirtual 83, 3) := by decide +kernel
theorem dX0_wordBetween_47 : decode cX0_wordBetween 47 = .ok (.ifCond .eq 5, 3) := by decide +kernel
theorem dX0_wordBetween_50 : decode cX0_wordBetween 50 = .ok (.iconst 4, 1) := by decide +kernel
theorem dX0_wordBetween_51 : decode cX0_wordBetween 51 = .ok (.ireturn, 1) := by decide +kernel
theorem dX0_wordBetween_52 : decode cX0_wordBetween 52 = .ok (.aload_n 0, 1) := by decide +kernel
theorem dX0_wordBetween_53 : decode cX0_wordBetween 53 = .ok (.ldc 93, 2) := by decide +kernel
theorem dX0_wordBetween_55 : decode cX0_wordBetween 55 = .ok (.iload_n 1, 1) := by decide +kernel
theorem dX0_wordBetween_56 : decode cX0_wordBetween 56 = .ok (.iload_n 2, 1) := by decide +kernel
theorem dX0_wordBetween_57 : decode cX0_wordBetween 57 = .ok (.invokevirtual 83, 3) := by decide +kernel
theorem dX0_wordBetween_60 : decode cX0_wordBetween 60 = .ok (.ifCond .eq 5, 3) := by decide +kernel
theorem dX0_wordBetween_63 : decode cX0_wordBetween 63 = .ok (.iconst 5, 1) := by decide +kernel
theorem dX0_wordBetween_64 : decode cX0_wordBetween 64 = .ok (.ireturn, 1) := by decide +kernel
theorem dX0_wordBetween_65 : decode cX0_wordBetween 65 = .ok (.aload_n 0, 1) := by decide +kernel
theorem dX0_wordBetween_66 : decode cX0_wordBetween 66 = .ok (.ldc 95, 2) := by decide +kernel
theorem dX0_wordBetween_68 : decode cX0_wordBetween 68 = .ok (.iload_n 1, 1) := by decide +kernel
theorem dX0_wordBetween_69 : decode cX0_wordBetween 69 = .ok (.iload_n 2, 1) := by decide +kernel
theorem dX0_wordBetween_70 : decode cX0_wordBetween 70 = .ok (.invokevirtual 83, 3) := by decide +kernel
theorem dX0_wordBetween_73 : decode cX0_wordBetween 73 = .ok (.ifCond .eq 6, 3) := by decide +kernel
theorem dX0_wordBetween_76 : decode cX0_wordBetween 76 = .ok (.bipush 6, 2) := by decide +kernel
theorem dX0_wordBetween_78 : decode cX0_wordBetween 78 = .ok (.ireturn, 1) := by decide +kernel
theorem dX0_wordBetween_79 : decode cX0_wordBetween 79 = .ok (.aload_n 0, 1) := by decide +kernel
theorem dX0_wordBetween_80 : decode cX0_wordBetween 80 = .ok (.ldc 97, 2) := by decide +kernel
theorem dX0_wordBetween_82 : decode cX0_wordBetween 82 = .ok (.iload_n 1, 1) := by decide +kernel
theorem dX0_wordBetween_83 : decode cX0_wordBetween 83 = .ok (.iload_n 2, 1) := by decide +kernel
theorem dX0_wordBetween_84 : decode cX0_wordBetween 84 = .ok (.invokevirtual 83, 3) := by decide +kernel
theorem dX0_wordBetween_87 : decode cX0_wordBetween 87 = .ok (.ifCond .eq 6, 3) := by decide +kernel
theorem dX0_wordBetween_90 : decode cX0_wordBetween 90 = .ok (.bipush 7, 2) := by decide +kernel
theorem dX0_wordBetween_92 : decode cX0_wordBetween 92 = .ok (.ireturn, 1) := by decide +kernel
theorem dX0_wordBetween_93 : decode cX0_wordBetween 93 = .ok (.aload_n 0, 1) := by decide +kernel
theorem dX0_wordBetween_94 : decode cX0_wordBetween 94 = .ok (.ldc 99, 2) := by decide +kernel
theorem dX0_wordBetween_96 : decode cX0_wordBetween 96 = .ok (.iload_n 1, 1) := by decide +kernel
theorem dX0_wordBetween_97 : decode cX0_wordBetween 97 = .ok (.iload_n 2, 1) := by decide +kernel
theorem dX0_wordBetween_98 : decode cX0_wordBetween 98 = .ok (.invokevirtual 83, 3) := by decide +kernel
theorem dX0_wordBetween_101 : decode cX0_wordBetween 101 = .ok (.ifCond .eq 8, 3) := by decide +kernel
theorem dX0_wordBetween_104 : decode cX0_wordBetween 104 = .ok (.bipush 8, 2) := by decide +kernel
theorem dX0_wordBetween_106 : decode cX0_wordBetween 106 = .ok (.goto 4, 3) := by decide +kernel
theorem dX0_wordBetween_109 : decode cX0_wordBetween 109 = .ok (.iconst 0, 1) := by decide +kernel
theorem dX0_wordBetween_110 : decode cX0_wordBetween 110 = .ok (.ireturn, 1) := by decide +kernel
theorem dX0_isWord_0 : decode cX0_isWord 0 = .ok (.aload_n 1, 1) := by decide +kernel
theorem dX0_isWord_1 : decode cX0_isWord 1 = .ok (.ifnull 13, 3) := by decide +kernel
theorem dX0_isWord_4 : decode cX0_isWord 4 = .ok (.aload_n 1, 1) := by decide +kernel
theorem dX0_isWord_5 : decode cX0_isWord 5 = .ok (.invokevirtual 101, 3) := by decide +kernel
theorem dX0_isWord_8 : decode cX0_isWord 8 = .ok (.iload_n 3, 1) := by decide +kernel
theorem dX0_isWord_9 : decode cX0_isWord 9 = .ok (.iload_n 2, 1) := by decide +kernel
theorem dX0_isWord_10 : decode cX0_isWord 10 = .ok (.isub, 1) := by decide +kernel
theorem dX0_isWord_11 : decode cX0_isWord 11 = .ok (.if_icmp .eq 5, 3) := by decide +kernel
theorem dX0_isWord_14 : decode cX0_isWord 14 = .ok (.iconst 0, 1) := by decide +kernel
theorem dX0_isWord_15 : decode cX0_isWord 15 = .ok (.ireturn, 1) := by decide +kernel
theorem dX0_isWord_16 : decode cX0_isWord 16 = .ok (.iconst 0, 1) := by decide +kernel
theorem dX0_isWord_17 : decode cX0_isWord 17 = .ok (.istore 4, 2) := by decide +kernel
theorem dX0_isWord_19 : decode cX0_isWord 19 = .ok (.iload 4, 2) := by decide +kernel
theorem dX0_isWord_21 : decode cX0_isWord 21 = .ok (.aload_n 1, 1) := by decide +kernel
theorem dX0_isWord_22 : decode cX0_isWord 22 = .ok (.invokevirtual 101, 3) := by decide +kernel
theorem dX0_isWord_25 : decode cX0_isWord 25 = .ok (.if_icmp .ge 31, 3) := by decide +kernel
theorem dX0_isWord_28 : decode cX0_isWord 28 = .ok (.aload_n 0, 1) := by decide +kernel
theorem dX0_isWord_29 : decode cX0_isWord 29 = .ok (.getfield 14, 3) := by decide +kernel
theorem dX0_isWord_32 : decode cX0_isWord 32 = .ok (.iload_n 2, 1) := by decide +kernel
theorem dX0_isWord_33 : decode cX0_isWord 33 = .ok (.iload 4, 2) := by decide +kernel
theorem dX0_isWord_35 : decode cX0_isWord 35 = .ok (.iadd, 1) := by decide +kernel
theorem dX0_isWord_36 : decode cX0_isWord 36 = .ok (.invokevirtual 64, 3) := by decide +kernel
theorem dX0_isWord_39 : decode cX0_isWord 39 = .ok (.aload_n 1, 1) := by decide +kernel
theorem dX0_isWord_40 : decode cX0_isWord 40 = .ok (.iload 4, 2) := by decide +kernel
theorem dX0_isWord_42 : decode cX0_isWord 42 = .ok (.invokevirtual 106, 3) := by decide +kernel
theorem dX0_isWord_45 : decode cX0_isWord 45 = .ok (.if_icmp .eq 5, 3) := by decide +kernel
theorem dX0_isWord_48 : decode cX0_isWord 48 = .ok (.iconst 0, 1) := by decide +kernel
theorem dX0_isWord_49 : decode cX0_isWord 49 = .ok (.ireturn, 1) := by decide +kernel
theorem dX0_isWord_50 : decode cX0_isWord 50 = .ok (.iinc 4 1, 3) := by decide +kernel
theorem dX0_isWord_53 : decode cX0_isWord 53 = .ok (.goto (-34), 3) := by decide +kernel
theorem dX0_isWord_56 : decode cX0_isWord 56 = .ok (.iconst 1, 1) := by decide +kernel
theorem dX0_isWord_57 : decode cX0_isWord 57 = .ok (.ireturn, 1) := by decide +kernel
theorem dX0_numbersOf_0 : decode cX0_numbersOf 0 = .ok (.iload_n 0, 1) := by decide +kernel
theorem dX0_numbersOf_1 : decode cX0_numbersOf 1 = .ok (.tableswitch 41 1 5 #[39, 35, 39, 37, 39], 35) := by decide +kernel
theorem dX0_numbersOf_36 : decode cX0_numbersOf 36 = .ok (.iconst 5, 1) := by decide +kernel
theorem dX0_numbersOf_37 : decode cX0_numbersOf 37 = .ok (.ireturn, 1) := by decide +kernel
theorem dX0_numbersOf_38 : decode cX0_numbersOf 38 = .ok (.iconst 4, 1) := by decide +kernel
theorem dX0_numbersOf_39 : decode cX0_numbersOf 39 = .ok (.ireturn, 1) := by decide +kernel
theorem dX0_numbersOf_40 : decode cX0_numbersOf 40 = .ok (.iconst 2, 1) := by decide +kernel
theorem dX0_numbersOf_41 : decode cX0_numbersOf 41 = .ok (.ireturn, 1) := by decide +kernel
theorem dX0_numbersOf_42 : decode cX0_numbersOf 42 = .ok (.iconst 1, 1) := by decide +kernel
theorem dX0_numbersOf_43 : decode cX0_numbersOf 43 = .ok (.ireturn, 1) := by decide +kernel
theorem dX1_init_0 : decode cX1_init 0 = .ok (.aload_n 0, 1) := by decide +kernel
theorem dX1_init_1 : decode cX1_init 1 = .ok (.invokespecial 3, 3) := by decide +kernel
theorem dX1_init_4 : decode cX1_init 4 = .ok (.aload_n 0, 1) := by decide +kernel
theorem dX1_init_5 : decode cX1_init 5 = .ok (.new 9, 3) := by decide +kernel
theorem dX1_init_8 : decode cX1_init 8 = .ok (.dup, 1) := by decide +kernel
theorem dX1_init_9 : decode cX1_init 9 = .ok (.bipush 8, 2) := by decide +kernel
theorem dX1_init_11 : decode cX1_init 11 = .ok (.invokespecial 11, 3) := by decide +kernel
theorem dX1_init_14 : decode cX1_init 14 = .ok (.putfield 14, 3) := by decide +kernel
theorem dX1_init_17 : decode cX1_init 17 = .ok (.aload_n 0, 1) := by decide +kernel
theorem dX1_init_18 : decode cX1_init 18 = .ok (.new 9, 3) := by decide +kernel
theorem dX1_init_21 : decode cX1_init 21 = .ok (.dup, 1) := by decide +kernel
theorem dX1_init_22 : decode cX1_init 22 = .ok (.bipush 8, 2) := by decide +kernel
theorem dX1_init_24 : decode cX1_init 24 = .ok (.invokespecial 11, 3) := by decide +kernel
theorem dX1_init_27 : decode cX1_init 27 = .ok (.putfield 20, 3) := by decide +kernel
theorem dX1_init_30 : decode cX1_init 30 = .ok (.aload_n 0, 1) := by decide +kernel
theorem dX1_init_31 : decode cX1_init 31 = .ok (.new 9, 3) := by decide +kernel
theorem dX1_init_34 : decode cX1_init 34 = .ok (.dup, 1) := by decide +kernel
theorem dX1_init_35 : decode cX1_init 35 = .ok (.bipush 8, 2) := by decide +kernel
theorem dX1_init_37 : decode cX1_init 37 = .ok (.invokespecial 11, 3) := by decide +kernel
theorem dX1_init_40 : decode cX1_init 40 = .ok (.putfield 23, 3) := by decide +kernel
theorem dX1_init_43 : decode cX1_init 43 = .ok (.aload_n 0, 1) := by decide +kernel
theorem dX1_init_44 : decode cX1_init 44 = .ok (.new 9, 3) := by decide +kernel
theorem dX1_init_47 : decode cX1_init 47 = .ok (.dup, 1) := by decide +kernel
theorem dX1_init_48 : decode cX1_init 48 = .ok (.bipush 8, 2) := by decide +kernel
theorem dX1_init_50 : decode cX1_init 50 = .ok (.invokespecial 11, 3) := by decide +kernel
theorem dX1_init_53 : decode cX1_init 53 = .ok (.putfield 26, 3) := by decide +kernel
theorem dX1_init_56 : decode cX1_init 56 = .ok (.return_, 1) := by decide +kernel
theorem dX1_prepare_0 : decode cX1_prepare 0 = .ok (.aload_n 0, 1) := by decide +kernel
theorem dX1_prepare_1 : decode cX1_prepare 1 = .ok (.iload_n 2, 1) := by decide +kernel
theorem dX1_prepare_2 : decode cX1_prepare 2 = .ok (.putfield 29, 3) := by decide +kernel
theorem dX1_prepare_5 : decode cX1_prepare 5 = .ok (.iconst 0, 1) := by decide +kernel
theorem dX1_prepare_6 : decode cX1_prepare 6 = .ok (.istore_n 3, 1) := by decide +kernel
theorem dX1_prepare_7 : decode cX1_prepare 7 = .ok (.iload_n 3, 1) := by decide +kernel
theorem dX1_prepare_8 : decode cX1_prepare 8 = .ok (.bipush 8, 2) := by decide +kernel
theorem dX1_prepare_10 : decode cX1_prepare 10 = .ok (.if_icmp .ge 39, 3) := by decide +kernel
theorem dX1_prepare_13 : decode cX1_prepare 13 = .ok (.aload_n 1, 1) := by decide +kernel
theorem dX1_prepare_14 : decode cX1_prepare 14 = .ok (.ifnull 35, 3) := by decide +kernel
theorem dX1_prepare_17 : decode cX1_prepare 17 = .ok (.aload_n 0, 1) := by decide +kernel
theorem dX1_prepare_18 : decode cX1_prepare 18 = .ok (.getfield 14, 3) := by decide +kernel
theorem dX1_prepare_21 : decode cX1_prepare 21 = .ok (.iload_n 3, 1) := by decide +kernel
theorem dX1_prepare_22 : decode cX1_prepare 22 = .ok (.aload_n 1, 1) := by decide +kernel
theorem dX1_prepare_23 : decode cX1_prepare 23 = .ok (.iload_n 3, 1) := by decide +kernel
theorem dX1_prepare_24 : decode cX1_prepare 24 = .ok (.invokevirtual 33, 3) := by decide +kernel
theorem dX1_prepare_27 : decode cX1_prepare 27 = .ok (.invokevirtual 39, 3) := by decide +kernel
theorem dX1_prepare_30 : decode cX1_prepare 30 = .ok (.aload_n 0, 1) := by decide +kernel
theorem dX1_prepare_31 : decode cX1_prepare 31 = .ok (.getfield 20, 3) := by decide +kernel
theorem dX1_prepare_34 : decode cX1_prepare 34 = .ok (.iload_n 3, 1) := by decide +kernel
theorem dX1_prepare_35 : decode cX1_prepare 35 = .ok (.aload_n 1, 1) := by decide +kernel
theorem dX1_prepare_36 : decode cX1_prepare 36 = .ok (.iload_n 3, 1) := by decide +kernel
theorem dX1_prepare_37 : decode cX1_prepare 37 = .ok (.invokevirtual 43, 3) := by decide +kernel
theorem dX1_prepare_40 : decode cX1_prepare 40 = .ok (.invokevirtual 39, 3) := by decide +kernel
theorem dX1_prepare_43 : decode cX1_prepare 43 = .ok (.iinc 3 1, 3) := by decide +kernel
theorem dX1_prepare_46 : decode cX1_prepare 46 = .ok (.goto (-39), 3) := by decide +kernel
theorem dX1_prepare_49 : decode cX1_prepare 49 = .ok (.return_, 1) := by decide +kernel
theorem dX1_countWrong_0 : decode cX1_countWrong 0 = .ok (.aload_n 1, 1) := by decide +kernel
theorem dX1_countWrong_1 : decode cX1_countWrong 1 = .ok (.ifnonnull 5, 3) := by decide +kernel
theorem dX1_countWrong_4 : decode cX1_countWrong 4 = .ok (.iconst 0, 1) := by decide +kernel
theorem dX1_countWrong_5 : decode cX1_countWrong 5 = .ok (.ireturn, 1) := by decide +kernel
theorem dX1_countWrong_6 : decode cX1_countWrong 6 = .ok (.aload_n 0, 1) := by decide +kernel
theorem dX1_countWrong_7 : decode cX1_countWrong 7 = .ok (.aload_n 1, 1) := by decide +kernel
theorem dX1_countWrong_8 : decode cX1_countWrong 8 = .ok (.iload_n 2, 1) := by decide +kernel
theorem dX1_countWrong_9 : decode cX1_countWrong 9 = .ok (.invokevirtual 46, 3) := by decide +kernel
theorem dX1_countWrong_12 : decode cX1_countWrong 12 = .ok (.iconst 0, 1) := by decide +kernel
theorem dX1_countWrong_13 : decode cX1_countWrong 13 = .ok (.istore 5, 2) := by decide +kernel
theorem dX1_countWrong_15 : decode cX1_countWrong 15 = .ok (.iconst 0, 1) := by decide +kernel
theorem dX1_countWrong_16 : decode cX1_countWrong 16 = .ok (.istore 6, 2) := by decide +kernel
theorem dX1_countWrong_18 : decode cX1_countWrong 18 = .ok (.iload 6, 2) := by decide +kernel
theorem dX1_countWrong_20 : decode cX1_countWrong 20 = .ok (.aload_n 1, 1) := by decide +kernel
theorem dX1_countWrong_21 : decode cX1_countWrong 21 = .ok (.getfield 50, 3) := by decide +kernel
theorem dX1_countWrong_24 : decode cX1_countWrong 24 = .ok (.if_icmp .ge 78, 3) := by decide +kernel
theorem dX1_countWrong_27 : decode cX1_countWrong 27 = .ok (.iconst 0, 1) := by decide +kernel
theorem dX1_countWrong_28 : decode cX1_countWrong 28 = .ok (.istore 7, 2) := by decide +kernel
theorem dX1_countWrong_30 : decode cX1_countWrong 30 = .ok (.iload 7, 2) := by decide +kernel
theorem dX1_countWrong_32 : decode cX1_countWrong 32 = .ok (.aload_n 1, 1) := by decide +kernel
theorem dX1_countWrong_33 : decode cX1_countWrong 33 = .ok (.getfield 53, 3) := by decide +kernel
theorem dX1_countWrong_36 : decode cX1_countWrong 36 = .ok (.if_icmp .ge 60, 3) := by decide +kernel
theorem dX1_countWrong_39 : decode cX1_countWrong 39 = .ok (.aload_n 1, 1) := by decide +kernel
theorem dX1_countWrong_40 : decode cX1_countWrong 40 = .ok (.aload_n 1, 1) := by decide +kernel
theorem dX1_countWrong_41 : decode cX1_countWrong 41 = .ok (.iload 7, 2) := by decide +kernel
theorem dX1_countWrong_43 : decode cX1_countWrong 43 = .ok (.iload 6, 2) := by decide +kernel
theorem dX1_countWrong_45 : decode cX1_countWrong 45 = .ok (.invokevirtual 56, 3) := by decide +kernel
theorem dX1_countWrong_48 : decode cX1_countWrong 48 = .ok (.invokevirtual 60, 3) := by decide +kernel
theorem dX1_countWrong_51 : decode cX1_countWrong 51 = .ok (.istore 8, 2) := by decide +kernel
theorem dX1_countWrong_53 : decode cX1_countWrong 53 = .ok (.aload_n 0, 1) := by decide +kernel
theorem dX1_countWrong_54 : decode cX1_countWrong 54 = .ok (.aload_n 1, 1) := by decide +kernel
theorem dX1_countWrong_55 : decode cX1_countWrong 55 = .ok (.iload 7, 2) := by decide +kernel
theorem dX1_countWrong_57 : decode cX1_countWrong 57 = .ok (.iload_n 3, 1) := by decide +kernel
theorem dX1_countWrong_58 : decode cX1_countWrong 58 = .ok (.invokestatic 63, 3) := by decide +kernel
theorem dX1_countWrong_61 : decode cX1_countWrong 61 = .ok (.iload 6, 2) := by decide +kernel
theorem dX1_countWrong_63 : decode cX1_countWrong 63 = .ok (.iload 4, 2) := by decide +kernel
theorem dX1_countWrong_65 : decode cX1_countWrong 65 = .ok (.invokestatic 63, 3) := by decide +kernel
theorem dX1_countWrong_68 : decode cX1_countWrong 68 = .ok (.iload 8, 2) := by decide +kernel
theorem dX1_countWrong_70 : decode cX1_countWrong 70 = .ok (.invokevirtual 66, 3) := by decide +kernel
theorem dX1_countWrong_73 : decode cX1_countWrong 73 = .ok (.iload 5, 2) := by decide +kernel
theorem dX1_countWrong_75 : decode cX1_countWrong 75 = .ok (.aload_n 0, 1) := by decide +kernel
theorem dX1_countWrong_76 : decode cX1_countWrong 76 = .ok (.getfield 70, 3) := by decide +kernel
theorem dX1_countWrong_79 : decode cX1_countWrong 79 = .ok (.ifCond .ne 7, 3) := by decide +kernel
theorem dX1_countWrong_82 : decode cX1_countWrong 82 = .ok (.iconst 0, 1) := by decide +kernel
theorem dX1_countWrong_83 : decode cX1_countWrong 83 = .ok (.goto 4, 3) := by decide +kernel
theorem dX1_countWrong_86 : decode cX1_countWrong 86 = .ok (.iconst 1, 1) := by decide +kernel
theorem dX1_countWrong_87 : decode cX1_countWrong 87 = .ok (.iadd, 1) := by decide +kernel
theorem dX1_countWrong_88 : decode cX1_countWrong 88 = .ok (.istore 5, 2) := by decide +kernel
theorem dX1_countWrong_90 : decode cX1_countWrong 90 = .ok (.iinc 7 1, 3) := by decide +kernel
theorem dX1_countWrong_93 : decode cX1_countWrong 93 = .ok (.goto (-63), 3) := by decide +kernel
theorem dX1_countWrong_96 : decode cX1_countWrong 96 = .ok (.iinc 6 1, 3) := by decide +kernel
theorem dX1_countWrong_99 : decode cX1_countWrong 99 = .ok (.goto (-81), 3) := by decide +kernel
theorem dX1_countWrong_102 : decode cX1_countWrong 102 = .ok (.iload 5, 2) := by decide +kernel
theorem dX1_countWrong_104 : decode cX1_countWrong 104 = .ok (.ireturn, 1) := by decide +kernel
theorem dX1_dimPoint_0 : decode cX1_dimPoint 0 = .ok (.aload_n 0, 1) := by decide +kernel
theorem dX1_dimPoint_1 : decode cX1_dimPoint 1 = .ok (.iconst 0, 1) := by decide +kernel
theorem dX1_dimPoint_2 : decode cX1_dimPoint 2 = .ok (.putfield 73, 3) := by decide +kernel
theorem dX1_dimPoint_5 : decode cX1_dimPoint 5 = .ok (.iconst 0, 1) := by decide +kernel
theorem dX1_dimPoint_6 : decode cX1_dimPoint 6 = .ok (.istore 5, 2) := by decide +kernel
theorem dX1_dimPoint_8 : decode cX1_dimPoint 8 = .ok (.iload 5, 2) := by decide +kernel
theorem dX1_dimPoint_10 : decode cX1_dimPoint 10 = .ok (.bipush 8, 2) := by decide +kernel
theorem dX1_dimPoint_12 : decode cX1_dimPoint 12 = .ok (.if_icmp .ge 82, 3) := by decide +kernel
theorem dX1_dimPoint_15 : decode cX1_dimPoint 15 = .ok (.aload_n 1, 1) := by decide +kernel
theorem dX1_dimPoint_16 : decode cX1_dimPoint 16 = .ok (.ifnull 26, 3) := by decide +kernel
theorem dX1_dimPoint_19 : decode cX1_dimPoint 19 = .ok (.iload 5, 2) := by decide +kernel
theorem dX1_dimPoint_21 : decode cX1_dimPoint 21 = .ok (.aload_n 0, 1) := by decide +kernel
theorem dX1_dimPoint_22 : decode cX1_dimPoint 22 = .ok (.getfield 29, 3) := by decide +kernel
theorem dX1_dimPoint_25 : decode cX1_dimPoint 25 = .ok (.invokestatic 76, 3) := by decide +kernel
theorem dX1_dimPoint_28 : decode cX1_dimPoint 28 = .ok (.ifCond .eq 14, 3) := by decide +kernel
theorem dX1_dimPoint_31 : decode cX1_dimPoint 31 = .ok (.aload_n 1, 1) := by decide +kernel
theorem dX1_dimPoint_32 : decode cX1_dimPoint 32 = .ok (.iload 5, 2) := by decide +kernel
theorem dX1_dimPoint_34 : decode cX1_dimPoint 34 = .ok (.iload_n 2, 1) := by decide +kernel
theorem dX1_dimPoint_35 : decode cX1_dimPoint 35 = .ok (.iload_n 3, 1) := by decide +kernel
theorem dX1_dimPoint_36 : decode cX1_dimPoint 36 = .ok (.invokevirtual 80, 3) := by decide +kernel
theorem dX1_dimPoint_39 : decode cX1_dimPoint 39 = .ok (.goto 4, 3) := by decide +kernel
theorem dX1_dimPoint_42 : decode cX1_dimPoint 42 = .ok (.iconst 0, 1) := by decide +kernel
theorem dX1_dimPoint_43 : decode cX1_dimPoint 43 = .ok (.istore 6, 2) := by decide +kernel
theorem dX1_dimPoint_45 : decode cX1_dimPoint 45 = .ok (.aload_n 0, 1) := by decide +kernel
theorem dX1_dimPoint_46 : decode cX1_dimPoint 46 = .ok (.getfield 23, 3) := by decide +kernel
theorem dX1_dimPoint_49 : decode cX1_dimPoint 49 = .ok (.iload 5, 2) := by decide +kernel
theorem dX1_dimPoint_51 : decode cX1_dimPoint 51 = .ok (.iload 6, 2) := by decide +kernel
theorem dX1_dimPoint_53 : decode cX1_dimPoint 53 = .ok (.invokevirtual 39, 3) := by decide +kernel
theorem dX1_dimPoint_56 : decode cX1_dimPoint 56 = .ok (.aload_n 0, 1) := by decide +kernel
theorem dX1_dimPoint_57 : decode cX1_dimPoint 57 = .ok (.getfield 26, 3) := by decide +kernel
theorem dX1_dimPoint_60 : decode cX1_dimPoint 60 = .ok (.iload 5, 2) := by decide +kernel
theorem dX1_dimPoint_62 : decode cX1_dimPoint 62 = .ok (.iconst 0, 1) := by decide +kernel
theorem dX1_dimPoint_63 : decode cX1_dimPoint 63 = .ok (.invokevirtual 39, 3) := by decide +kernel
theorem dX1_dimPoint_66 : decode cX1_dimPoint 66 = .ok (.aload_n 0, 1) := by decide +kernel
theorem dX1_dimPoint_67 : decode cX1_dimPoint 67 = .ok (.dup, 1) := by decide +kernel
theorem dX1_dimPoint_68 : decode cX1_dimPoint 68 = .ok (.getfield 73, 3) := by decide +kernel
theorem dX1_dimPoint_71 : decode cX1_dimPoint 71 = .ok (.iload 6, 2) := by decide +kernel
theorem dX1_dimPoint_73 : decode cX1_dimPoint 73 = .ok (.ifCond .le 10, 3) := by decide +kernel
theorem dX1_dimPoint_76 : decode cX1_dimPoint 76 = .ok (.iconst 1, 1) := by decide +kernel
theorem dX1_dimPoint_77 : decode cX1_dimPoint 77 = .ok (.iload 5, 2) := by decide +kernel
theorem dX1_dimPoint_79 : decode cX1_dimPoint 79 = .ok (.ishl, 1) := by decide +kernel
theorem dX1_dimPoint_80 : decode cX1_dimPoint 80 = .ok (.goto 4, 3) := by decide +kernel
theorem dX1_dimPoint_83 : decode cX1_dimPoint 83 = .ok (.iconst 0, 1) := by decide +kernel
theorem dX1_dimPoint_84 : decode cX1_dimPoint 84 = .ok (.ior, 1) := by decide +kernel
theorem dX1_dimPoint_85 : decode cX1_dimPoint 85 = .ok (.putfield 73, 3) := by decide +kernel
theorem dX1_dimPoint_88 : decode cX1_dimPoint 88 = .ok (.iinc 5 1, 3) := by decide +kernel
theorem dX1_dimPoint_91 : decode cX1_dimPoint 91 = .ok (.goto (-83), 3) := by decide +kernel
theorem dX1_dimPoint_94 : decode cX1_dimPoint 94 = .ok (.aload_n 0, 1) := by decide +kernel
theorem dX1_dimPoint_95 : decode cX1_dimPoint 95 = .ok (.iload 4, 2) := by decide +kernel
theorem dX1_dimPoint_97 : decode cX1_dimPoint 97 = .ok (.invokevirtual 84, 3) := by decide +kernel
theorem dX1_dimPoint_100 : decode cX1_dimPoint 100 = .ok (.aload_n 0, 1) := by decide +kernel
theorem dX1_dimPoint_101 : decode cX1_dimPoint 101 = .ok (.invokevirtual 87, 3) := by decide +kernel
theorem dX1_dimPoint_104 : decode cX1_dimPoint 104 = .ok (.aload_n 0, 1) := by decide +kernel
theorem dX1_dimPoint_105 : decode cX1_dimPoint 105 = .ok (.iload 4, 2) := by decide +kernel
theorem dX1_dimPoint_107 : decode cX1_dimPoint 107 = .ok (.invokevirtual 90, 3) := by decide +kernel
theorem dX1_dimPoint_110 : decode cX1_dimPoint 110 = .ok (.aload_n 0, 1) := by decide +kernel
theorem dX1_dimPoint_111 : decode cX1_dimPoint 111 = .ok (.aload_n 0, 1) := by decide +kernel
theorem dX1_dimPoint_112 : decode cX1_dimPoint 112 = .ok (.iload 4, 2) := by decide +kernel
theorem dX1_dimPoint_114 : decode cX1_dimPoint 114 = .ok (.invokevirtual 93, 3) := by decide +kernel
theorem dX1_dimPoint_117 : decode cX1_dimPoint 117 = .ok (.putfield 70, 3) := by decide +kernel
theorem dX1_dimPoint_120 : decode cX1_dimPoint 120 = .ok (.return_, 1) := by decide +kernel
theorem dX1_shareOut_0 : decode cX1_shareOut 0 = .ok (.iconst 0, 1) := by decide +kernel
theorem dX1_shareOut_1 : decode cX1_shareOut 1 = .ok (.istore_n 2, 1) := by decide +kernel
theorem dX1_shareOut_2 : decode cX1_shareOut 2 = .ok (.iconst 0, 1) := by decide +kernel
theorem dX1_shareOut_3 : decode cX1_shareOut 3 = .ok (.istore_n 3, 1) := by decide +kernel
theorem dX1_shareOut_4 : decode cX1_shareOut 4 = .ok (.iconst 0, 1) := by decide +kernel
theorem dX1_shareOut_5 : decode cX1_shareOut 5 = .ok (.istore 4, 2) := by decide +kernel
theorem dX1_shareOut_7 : decode cX1_shareOut 7 = .ok (.iload 4, 2) := by decide +kernel
theorem dX1_shareOut_9 : decode cX1_shareOut 9 = .ok (.bipush 8, 2) := by decide +kernel
theorem dX1_shareOut_11 : decode cX1_shareOut 11 = .ok (.if_icmp .ge 48, 3) := by decide +kernel
theorem dX1_shareOut_14 : decode cX1_shareOut 14 = .ok (.iload_n 2, 1) := by decide +kernel
theorem dX1_shareOut_15 : decode cX1_shareOut 15 = .ok (.aload_n 0, 1) := by decide +kernel
theorem dX1_shareOut_16 : decode cX1_shareOut 16 = .ok (.getfield 23, 3) := by decide +kernel
theorem dX1_shareOut_19 : decode cX1_shareOut 19 = .ok (.iload 4, 2) := by decide +kernel
theorem dX1_shareOut_21 : decode cX1_shareOut 21 = .ok (.invokevirtual 96, 3) := by decide +kernel
theorem dX1_shareOut_24 : decode cX1_shareOut 24 = .ok (.iadd, 1) := by decide +kernel
theorem dX1_shareOut_25 : decode cX1_shareOut 25 = .ok (.istore_n 2, 1) := by decide +kernel
theorem dX1_shareOut_26 : decode cX1_shareOut 26 = .ok (.aload_n 0, 1) := by decide +kernel
theorem dX1_shareOut_27 : decode cX1_shareOut 27 = .ok (.getfield 23, 3) := by decide +kernel
theorem dX1_shareOut_30 : decode cX1_shareOut 30 = .ok (.iload 4, 2) := by decide +kernel
theorem dX1_shareOut_32 : decode cX1_shareOut 32 = .ok (.invokevirtual 96, 3) := by decide +kernel
theorem dX1_shareOut_35 : decode cX1_shareOut 35 = .ok (.aload_n 0, 1) := by decide +kernel
theorem dX1_shareOut_36 : decode cX1_shareOut 36 = .ok (.getfield 23, 3) := by decide +kernel
theorem dX1_shareOut_39 : decode cX1_shareOut 39 = .ok (.iload_n 3, 1) := by decide +kernel
theorem dX1_shareOut_40 : decode cX1_shareOut 40 = .ok (.invokevirtual 96, 3) := by decide +kernel
theorem dX1_shareOut_43 : decode cX1_shareOut 43 = .ok (.if_icmp .le 8, 3) := by decide +kernel
theorem dX1_shareOut_46 : decode cX1_shareOut 46 = .ok (.iload 4, 2) := by decide +kernel
theorem dX1_shareOut_48 : decode cX1_shareOut 48 = .ok (.goto 4, 3) := by decide +kernel
theorem dX1_shareOut_51 : decode cX1_shareOut 51 = .ok (.iload_n 3, 1) := by decide +kernel
theorem dX1_shareOut_52 : decode cX1_shareOut 52 = .ok (.istore_n 3, 1) := by decide +kernel
theorem dX1_shareOut_53 : decode cX1_shareOut 53 = .ok (.iinc 4 1, 3) := by decide +kernel
theorem dX1_shareOut_56 : decode cX1_shareOut 56 = .ok (.goto (-49), 3) := by decide +kernel
theorem dX1_shareOut_59 : decode cX1_shareOut 59 = .ok (.iload_n 2, 1) := by decide +kernel
theorem dX1_shareOut_60 : decode cX1_shareOut 60 = .ok (.ifCond .gt 4, 3) := by decide +kernel
theorem dX1_shareOut_63 : decode cX1_shareOut 63 = .ok (.return_, 1) := by decide +kernel
theorem dX1_shareOut_64 : decode cX1_shareOut 64 = .ok (.iload_n 1, 1) := by decide +kernel
theorem dX1_shareOut_65 : decode cX1_shareOut 65 = .ok (.istore 4, 2) := by decide +kernel
theorem dX1_shareOut_67 : decode cX1_shareOut 67 = .ok (.iconst 0, 1) := by decide +kernel
theorem dX1_shareOut_68 : decode cX1_shareOut 68 = .ok (.istore 5, 2) := by decide +kernel
theorem dX1_shareOut_70 : decode cX1_shareOut 70 = .ok (.iload 5, 2) := by decide +kernel
theorem dX1_shareOut_72 : decode cX1_shareOut 72 = .ok (.bipush 8, 2) := by decide +kernel
theorem dX1_shareOut_74 : decode cX1_shareOut 74 = .ok (.if_icmp .ge 42, 3) := by decide +kernel
theorem dX1_shareOut_77 : decode cX1_shareOut 77 = .ok (.iload_n 1, 1) := by decide +kernel
theorem dX1_shareOut_78 : decode cX1_shareOut 78 = .ok (.aload_n 0, 1) := by decide +kernel
theorem dX1_shareOut_79 : decode cX1_shareOut 79 = .ok (.getfield 23, 3) := by decide +kernel
theorem dX1_shareOut_82 : decode cX1_shareOut 82 = .ok (.iload 5, 2) := by decide +kernel
theorem dX1_shareOut_84 : decode cX1_shareOut 84 = .ok (.invokevirtual 96, 3) := by decide +kernel
theorem dX1_shareOut_87 : decode cX1_shareOut 87 = .ok (.imul, 1) := by decide +kernel
theorem dX1_shareOut_88 : decode cX1_shareOut 88 = .ok (.iload_n 2, 1) := by decide +kernel
theorem dX1_shareOut_89 : decode cX1_shareOut 89 = .ok (.idiv, 1) := by decide +kernel
theorem dX1_shareOut_90 : decode cX1_shareOut 90 = .ok (.istore 6, 2) := by decide +kernel
theorem dX1_shareOut_92 : decode cX1_shareOut 92 = .ok (.aload_n 0, 1) := by decide +kernel
theorem dX1_shareOut_93 : decode cX1_shareOut 93 = .ok (.getfield 26, 3) := by decide +kernel
theorem dX1_shareOut_96 : decode cX1_shareOut 96 = .ok (.iload 5, 2) := by decide +kernel
theorem dX1_shareOut_98 : decode cX1_shareOut 98 = .ok (.iload 6, 2) := by decide +kernel
theorem dX1_shareOut_100 : decode cX1_shareOut 100 = .ok (.invokevirtual 39, 3) := by decide +kernel
theorem dX1_shareOut_103 : decode cX1_shareOut 103 = .ok (.iload 4, 2) := by decide +kernel
theorem dX1_shareOut_105 : decode cX1_shareOut 105 = .ok (.iload 6, 2) := by decide +kernel
theorem dX1_shareOut_107 : decode cX1_shareOut 107 = .ok (.isub, 1) := by decide +kernel
theorem dX1_shareOut_108 : decode cX1_shareOut 108 = .ok (.istore 4, 2) := by decide +kernel
theorem dX1_shareOut_110 : decode cX1_shareOut 110 = .ok (.iinc 5 1, 3) := by decide +kernel
theorem dX1_shareOut_113 : decode cX1_shareOut 113 = .ok (.goto (-43), 3) := by decide +kernel
theorem dX1_shareOut_116 : decode cX1_shareOut 116 = .ok (.aload_n 0, 1) := by decide +kernel
theorem dX1_shareOut_117 : decode cX1_shareOut 117 = .ok (.getfield 26, 3) := by decide +kernel
theorem dX1_shareOut_120 : decode cX1_shareOut 120 = .ok (.iload_n 3, 1) := by decide +kernel
theorem dX1_shareOut_121 : decode cX1_shareOut 121 = .ok (.aload_n 0, 1) := by decide +kernel
theorem dX1_shareOut_122 : decode cX1_shareOut 122 = .ok (.getfield 26, 3) := by decide +kernel
theorem dX1_shareOut_125 : decode cX1_shareOut 125 = .ok (.iload_n 3, 1) := by decide +kernel
theorem dX1_shareOut_126 : decode cX1_shareOut 126 = .ok (.invokevirtual 96, 3) := by decide +kernel
theorem dX1_shareOut_129 : decode cX1_shareOut 129 = .ok (.iload 4, 2) := by decide +kernel
theorem dX1_shareOut_131 : decode cX1_shareOut 131 = .ok (.iadd, 1) := by decide +kernel
theorem dX1_shareOut_132 : decode cX1_shareOut 132 = .ok (.invokevirtual 39, 3) := by decide +kernel
theorem dX1_shareOut_135 : decode cX1_shareOut 135 = .ok (.return_, 1) := by decide +kernel
theorem dX1_keepToLimits_0 : decode cX1_keepToLimits 0 = .ok (.iconst 0, 1) := by decide +kernel
theorem dX1_keepToLimits_1 : decode cX1_keepToLimits 1 = .ok (.istore_n 1, 1) := by decide +kernel
theorem dX1_keepToLimits_2 : decode cX1_keepToLimits 2 = .ok (.iload_n 1, 1) := by decide +kernel
theorem dX1_keepToLimits_3 : decode cX1_keepToLimits 3 = .ok (.bipush 8, 2) := by decide +kernel
theorem dX1_keepToLimits_5 : decode cX1_keepToLimits 5 = .ok (.if_icmp .ge 58, 3) := by decide +kernel
theorem dX1_keepToLimits_8 : decode cX1_keepToLimits 8 = .ok (.iload_n 1, 1) := by decide +kernel
theorem dX1_keepToLimits_9 : decode cX1_keepToLimits 9 = .ok (.aload_n 0, 1) := by decide +kernel
theorem dX1_keepToLimits_10 : decode cX1_keepToLimits 10 = .ok (.getfield 73, 3) := by decide +kernel
theorem dX1_keepToLimits_13 : decode cX1_keepToLimits 13 = .ok (.invokestatic 76, 3) := by decide +kernel
theorem dX1_keepToLimits_16 : decode cX1_keepToLimits 16 = .ok (.ifCond .eq 41, 3) := by decide +kernel
theorem dX1_keepToLimits_19 : decode cX1_keepToLimits 19 = .ok (.aload_n 0, 1) := by decide +kernel
theorem dX1_keepToLimits_20 : decode cX1_keepToLimits 20 = .ok (.getfield 26, 3) := by decide +kernel
theorem dX1_keepToLimits_23 : decode cX1_keepToLimits 23 = .ok (.iload_n 1, 1) := by decide +kernel
theorem dX1_keepToLimits_24 : decode cX1_keepToLimits 24 = .ok (.aload_n 0, 1) := by decide +kernel
theorem dX1_keepToLimits_25 : decode cX1_keepToLimits 25 = .ok (.getfield 20, 3) := by decide +kernel
theorem dX1_keepToLimits_28 : decode cX1_keepToLimits 28 = .ok (.iload_n 1, 1) := by decide +kernel
theorem dX1_keepToLimits_29 : decode cX1_keepToLimits 29 = .ok (.invokevirtual 96, 3) := by decide +kernel
theorem dX1_keepToLimits_32 : decode cX1_keepToLimits 32 = .ok (.aload_n 0, 1) := by decide +kernel
theorem dX1_keepToLimits_33 : decode cX1_keepToLimits 33 = .ok (.getfield 14, 3) := by decide +kernel
theorem dX1_keepToLimits_36 : decode cX1_keepToLimits 36 = .ok (.iload_n 1, 1) := by decide +kernel
theorem dX1_keepToLimits_37 : decode cX1_keepToLimits 37 = .ok (.invokevirtual 96, 3) := by decide +kernel
theorem dX1_keepToLimits_40 : decode cX1_keepToLimits 40 = .ok (.aload_n 0, 1) := by decide +kernel
theorem dX1_keepToLimits_41 : decode cX1_keepToLimits 41 = .ok (.getfield 26, 3) := by decide +kernel
theorem dX1_keepToLimits_44 : decode cX1_keepToLimits 44 = .ok (.iload_n 1, 1) := by decide +kernel
theorem dX1_keepToLimits_45 : decode cX1_keepToLimits 45 = .ok (.invokevirtual 96, 3) := by decide +kernel
theorem dX1_keepToLimits_48 : decode cX1_keepToLimits 48 = .ok (.invokestatic 99, 3) := by decide +kernel
theorem dX1_keepToLimits_51 : decode cX1_keepToLimits 51 = .ok (.invokestatic 104, 3) := by decide +kernel
theorem dX1_keepToLimits_54 : decode cX1_keepToLimits 54 = .ok (.invokevirtual 39, 3) := by decide +kernel
theorem dX1_keepToLimits_57 : decode cX1_keepToLimits 57 = .ok (.iinc 1 1, 3) := by decide +kernel
theorem dX1_keepToLimits_60 : decode cX1_keepToLimits 60 = .ok (.goto (-58), 3) := by decide +kernel
theorem dX1_keepToLimits_63 : decode cX1_keepToLimits 63 = .ok (.return_, 1) := by decide +kernel
theorem dX1_balance_0 : decode cX1_balance 0 = .ok (.iload_n 1, 1) := by decide +kernel
theorem dX1_balance_1 : decode cX1_balance 1 = .ok (.istore_n 2, 1) := by decide +kernel
theorem dX1_balance_2 : decode cX1_balance 2 = .ok (.iconst 0, 1) := by decide +kernel
theorem dX1_balance_3 : decode cX1_balance 3 = .ok (.istore_n 3, 1) := by decide +kernel
theorem dX1_balance_4 : decode cX1_balance 4 = .ok (.iload_n 3, 1) := by decide +kernel
theorem dX1_balance_5 : decode cX1_balance 5 = .ok (.bipush 8, 2) := by decide +kernel
theorem dX1_balance_7 : decode cX1_balance 7 = .ok (.if_icmp .ge 20, 3) := by decide +kernel
theorem dX1_balance_10 : decode cX1_balance 10 = .ok (.iload_n 2, 1) := by decide +kernel
theorem dX1_balance_11 : decode cX1_balance 11 = .ok (.aload_n 0, 1) := by decide +kernel
theorem dX1_balance_12 : decode cX1_balance 12 = .ok (.getfield 26, 3) := by decide +kernel
theorem dX1_balance_15 : decode cX1_balance 15 = .ok (.iload_n 3, 1) := by decide +kernel
theorem dX1_balance_16 : decode cX1_balance 16 = .ok (.invokevirtual 96, 3) := by decide +kernel
theorem dX1_balance_19 : decode cX1_balance 19 = .ok (.isub, 1) := by decide +kernel
theorem dX1_balance_20 : decode cX1_balance 20 = .ok (.istore_n 2, 1) := by decide +kernel
theorem dX1_balance_21 : decode cX1_balance 21 = .ok (.iinc 3 1, 3) := by decide +kernel
theorem dX1_balance_24 : decode cX1_balance 24 = .ok (.goto (-20), 3) := by decide +kernel
theorem dX1_balance_27 : decode cX1_balance 27 = .ok (.iconst 0, 1) := by decide +kernel
theorem dX1_balance_28 : decode cX1_balance 28 = .ok (.istore_n 3, 1) := by decide +kernel
theorem dX1_balance_29 : decode cX1_balance 29 = .ok (.iload_n 3, 1) := by decide +kernel
theorem dX1_balance_30 : decode cX1_balance 30 = .ok (.bipush 8, 2) := by decide +kernel
theorem dX1_balance_32 : decode cX1_balance 32 = .ok (.if_icmp .ge 87, 3) := by decide +kernel
theorem dX1_balance_35 : decode cX1_balance 35 = .ok (.iload_n 3, 1) := by decide +kernel
theorem dX1_balance_36 : decode cX1_balance 36 = .ok (.aload_n 0, 1) := by decide +kernel
theorem dX1_balance_37 : decode cX1_balance 37 = .ok (.getfield 73, 3) := by decide +kernel
theorem dX1_balance_40 : decode cX1_balance 40 = .ok (.invokestatic 76, 3) := by decide +kernel
theorem dX1_balance_43 : decode cX1_balance 43 = .ok (.ifCond .eq 70, 3) := by decide +kernel
theorem dX1_balance_46 : decode cX1_balance 46 = .ok (.aload_n 0, 1) := by decide +kernel
theorem dX1_balance_47 : decode cX1_balance 47 = .ok (.getfield 26, 3) := by decide +kernel
theorem dX1_balance_50 : decode cX1_balance 50 = .ok (.iload_n 3, 1) := by decide +kernel
theorem dX1_balance_51 : decode cX1_balance 51 = .ok (.invokevirtual 96, 3) := by decide +kernel
theorem dX1_balance_54 : decode cX1_balance 54 = .ok (.istore 4, 2) := by decide +kernel
theorem dX1_balance_56 : decode cX1_balance 56 = .ok (.iload_n 2, 1) := by decide +kernel
theorem dX1_balance_57 : decode cX1_balance 57 = .ok (.ifCond .le 21, 3) := by decide +kernel
theorem dX1_balance_60 : decode cX1_balance 60 = .ok (.iload_n 2, 1) := by decide +kernel
theorem dX1_balance_61 : decode cX1_balance 61 = .ok (.aload_n 0, 1) := by decide +kernel
theorem dX1_balance_62 : decode cX1_balance 62 = .ok (.getfield 14, 3) := by decide +kernel
theorem dX1_balance_65 : decode cX1_balance 65 = .ok (.iload_n 3, 1) := by decide +kernel
theorem dX1_balance_66 : decode cX1_balance 66 = .ok (.invokevirtual 96, 3) := by decide +kernel
theorem dX1_balance_69 : decode cX1_balance 69 = .ok (.iload 4, 2) := by decide +kernel
theorem dX1_balance_71 : decode cX1_balance 71 = .ok (.isub, 1) := by decide +kernel
theorem dX1_balance_72 : decode cX1_balance 72 = .ok (.invokestatic 99, 3) := by decide +kernel
theorem dX1_balance_75 : decode cX1_balance 75 = .ok (.goto 18, 3) := by decide +kernel
theorem dX1_balance_78 : decode cX1_balance 78 = .ok (.iload_n 2, 1) := by decide +kernel
theorem dX1_balance_79 : decode cX1_balance 79 = .ok (.aload_n 0, 1) := by decide +kernel
theorem dX1_balance_80 : decode cX1_balance 80 = .ok (.getfield 20, 3) := by decide +kernel
theorem dX1_balance_83 : decode cX1_balance 83 = .ok (.iload_n 3, 1) := by decide +kernel
theorem dX1_balance_84 : decode cX1_balance 84 = .ok (.invokevirtual 96, 3) := by decide +kernel
theorem dX1_balance_87 : decode cX1_balance 87 = .ok (.iload 4, 2) := by decide +kernel
theorem dX1_balance_89 : decode cX1_balance 89 = .ok (.isub, 1) := by decide +kernel
theorem dX1_balance_90 : decode cX1_balance 90 = .ok (.invokestatic 104, 3) := by decide +kernel
theorem dX1_balance_93 : decode cX1_balance 93 = .ok (.istore 5, 2) := by decide +kernel
theorem dX1_balance_95 : decode cX1_balance 95 = .ok (.aload_n 0, 1) := by decide +kernel
theorem dX1_balance_96 : decode cX1_balance 96 = .ok (.getfield 26, 3) := by decide +kernel
theorem dX1_balance_99 : decode cX1_balance 99 = .ok (.iload_n 3, 1) := by decide +kernel
theorem dX1_balance_100 : decode cX1_balance 100 = .ok (.iload 4, 2) := by decide +kernel
theorem dX1_balance_102 : decode cX1_balance 102 = .ok (.iload 5, 2) := by decide +kernel
theorem dX1_balance_104 : decode cX1_balance 104 = .ok (.iadd, 1) := by decide +kernel
theorem dX1_balance_105 : decode cX1_balance 105 = .ok (.invokevirtual 39, 3) := by decide +kernel
theorem dX1_balance_108 : decode cX1_balance 108 = .ok (.iload_n 2, 1) := by decide +kernel
theorem dX1_balance_109 : decode cX1_balance 109 = .ok (.iload 5, 2) := by decide +kernel
theorem dX1_balance_111 : decode cX1_balance 111 = .ok (.isub, 1) := by decide +kernel
theorem dX1_balance_112 : decode cX1_balance 112 = .ok (.istore_n 2, 1) := by decide +kernel
theorem dX1_balance_113 : decode cX1_balance 113 = .ok (.iinc 3 1, 3) := by decide +kernel
theorem dX1_balance_116 : decode cX1_balance 116 = .ok (.goto (-87), 3) := by decide +kernel
theorem dX1_balance_119 : decode cX1_balance 119 = .ok (.aload_n 0, 1) := by decide +kernel
theorem dX1_balance_120 : decode cX1_balance 120 = .ok (.iload_n 1, 1) := by decide +kernel
theorem dX1_balance_121 : decode cX1_balance 121 = .ok (.iload_n 2, 1) := by decide +kernel
theorem dX1_balance_122 : decode cX1_balance 122 = .ok (.isub, 1) := by decide +kernel
theorem dX1_balance_123 : decode cX1_balance 123 = .ok (.putfield 107, 3) := by decide +kernel
theorem dX1_balance_126 : decode cX1_balance 126 = .ok (.return_, 1) := by decide +kernel
theorem dX1_stateFor_0 : decode cX1_stateFor 0 = .ok (.aload_n 0, 1) := by decide +kernel
theorem dX1_stateFor_1 : decode cX1_stateFor 1 = .ok (.getfield 107, 3) := by decide +kernel
theorem dX1_stateFor_4 : decode cX1_stateFor 4 = .ok (.iload_n 1, 1) := by decide +kernel
theorem dX1_stateFor_5 : decode cX1_stateFor 5 = .ok (.if_icmp .ne 5, 3) := by decide +kernel
theorem dX1_stateFor_8 : decode cX1_stateFor 8 = .ok (.iconst 0, 1) := by decide +kernel
theorem dX1_stateFor_9 : decode cX1_stateFor 9 = .ok (.ireturn, 1) := by decide +kernel
theorem dX1_stateFor_10 : decode cX1_stateFor 10 = .ok (.aload_n 0, 1) := by decide +kernel
theorem dX1_stateFor_11 : decode cX1_stateFor 11 = .ok (.getfield 73, 3) := by decide +kernel
theorem dX1_stateFor_14 : decode cX1_stateFor 14 = .ok (.ifCond .ne 5, 3) := by decide +kernel
theorem dX1_stateFor_17 : decode cX1_stateFor 17 = .ok (.iconst 1, 1) := by decide +kernel
theorem dX1_stateFor_18 : decode cX1_stateFor 18 = .ok (.ireturn, 1) := by decide +kernel
theorem dX1_stateFor_19 : decode cX1_stateFor 19 = .ok (.aload_n 0, 1) := by decide +kernel
theorem dX1_stateFor_20 : decode cX1_stateFor 20 = .ok (.getfield 107, 3) := by decide +kernel
theorem dX1_stateFor_23 : decode cX1_stateFor 23 = .ok (.iload_n 1, 1) := by decide +kernel
theorem dX1_stateFor_24 : decode cX1_stateFor 24 = .ok (.if_icmp .ge 7, 3) := by decide +kernel
theorem dX1_stateFor_27 : decode cX1_stateFor 27 = .ok (.iconst 2, 1) := by decide +kernel
theorem dX1_stateFor_28 : decode cX1_stateFor 28 = .ok (.goto 4, 3) := by decide +kernel
theorem dX1_stateFor_31 : decode cX1_stateFor 31 = .ok (.iconst 3, 1) := by decide +kernel
theorem dX1_stateFor_32 : decode cX1_stateFor 32 = .ok (.ireturn, 1) := by decide +kernel
theorem dX2_init_0 : decode cX2_init 0 = .ok (.aload_n 0, 1) := by decide +kernel
theorem dX2_init_1 : decode cX2_init 1 = .ok (.invokespecial 3, 3) := by decide +kernel
theorem dX2_init_4 : decode cX2_init 4 = .ok (.aload_n 0, 1) := by decide +kernel
theorem dX2_init_5 : decode cX2_init 5 = .ok (.iconst 4, 1) := by decide +kernel
theorem dX2_init_6 : decode cX2_init 6 = .ok (.anewarray 9, 3) := by decide +kernel
theorem dX2_init_9 : decode cX2_init 9 = .ok (.putfield 11, 3) := by decide +kernel
theorem dX2_init_12 : decode cX2_init 12 = .ok (.iconst 0, 1) := by decide +kernel
theorem dX2_init_13 : decode cX2_init 13 = .ok (.istore_n 1, 1) := by decide +kernel
theorem dX2_init_14 : decode cX2_init 14 = .ok (.iload_n 1, 1) := by decide +kernel
theorem dX2_init_15 : decode cX2_init 15 = .ok (.aload_n 0, 1) := by decide +kernel
theorem dX2_init_16 : decode cX2_init 16 = .ok (.getfield 11, 3) := by decide +kernel
theorem dX2_init_19 : decode cX2_init 19 = .ok (.arraylength, 1) := by decide +kernel
theorem dX2_init_20 : decode cX2_init 20 = .ok (.if_icmp .ge 22, 3) := by decide +kernel
theorem dX2_init_23 : decode cX2_init 23 = .ok (.aload_n 0, 1) := by decide +kernel
theorem dX2_init_24 : decode cX2_init 24 = .ok (.getfield 11, 3) := by decide +kernel
theorem dX2_init_27 : decode cX2_init 27 = .ok (.iload_n 1, 1) := by decide +kernel
theorem dX2_init_28 : decode cX2_init 28 = .ok (.new 9, 3) := by decide +kernel
theorem dX2_init_31 : decode cX2_init 31 = .ok (.dup, 1) := by decide +kernel
theorem dX2_init_32 : decode cX2_init 32 = .ok (.invokespecial 17, 3) := by decide +kernel
theorem dX2_init_35 : decode cX2_init 35 = .ok (.aastore, 1) := by decide +kernel
theorem dX2_init_36 : decode cX2_init 36 = .ok (.iinc 1 1, 3) := by decide +kernel
theorem dX2_init_39 : decode cX2_init 39 = .ok (.goto (-25), 3) := by decide +kernel
theorem dX2_init_42 : decode cX2_init 42 = .ok (.return_, 1) := by decide +kernel
theorem dX2_save_0 : decode cX2_save 0 = .ok (.aload_n 0, 1) := by decide +kernel
theorem dX2_save_1 : decode cX2_save 1 = .ok (.aload_n 0, 1) := by decide +kernel
theorem dX2_save_2 : decode cX2_save 2 = .ok (.getfield 18, 3) := by decide +kernel
theorem dX2_save_5 : decode cX2_save 5 = .ok (.iconst 1, 1) := by decide +kernel
theorem dX2_save_6 : decode cX2_save 6 = .ok (.iadd, 1) := by decide +kernel
theorem dX2_save_7 : decode cX2_save 7 = .ok (.iconst 4, 1) := by decide +kernel
theorem dX2_save_8 : decode cX2_save 8 = .ok (.irem, 1) := by decide +kernel
theorem dX2_save_9 : decode cX2_save 9 = .ok (.putfield 18, 3) := by decide +kernel
theorem dX2_save_12 : decode cX2_save 12 = .ok (.aload_n 0, 1) := by decide +kernel
theorem dX2_save_13 : decode cX2_save 13 = .ok (.invokevirtual 22, 3) := by decide +kernel
theorem dX2_save_16 : decode cX2_save 16 = .ok (.astore_n 2, 1) := by decide +kernel
theorem dX2_save_17 : decode cX2_save 17 = .ok (.aload_n 2, 1) := by decide +kernel
theorem dX2_save_18 : decode cX2_save 18 = .ok (.ifnull 8, 3) := by decide +kernel
theorem dX2_save_21 : decode cX2_save 21 = .ok (.aload_n 2, 1) := by decide +kernel
theorem dX2_save_22 : decode cX2_save 22 = .ok (.aload_n 1, 1) := by decide +kernel
theorem dX2_save_23 : decode cX2_save 23 = .ok (.invokevirtual 26, 3) := by decide +kernel
theorem dX2_save_26 : decode cX2_save 26 = .ok (.aload_n 0, 1) := by decide +kernel
theorem dX2_save_27 : decode cX2_save 27 = .ok (.aload_n 0, 1) := by decide +kernel
theorem dX2_save_28 : decode cX2_save 28 = .ok (.getfield 30, 3) := by decide +kernel
theorem dX2_save_31 : decode cX2_save 31 = .ok (.iconst 1, 1) := by decide +kernel
theorem dX2_save_32 : decode cX2_save 32 = .ok (.iadd, 1) := by decide +kernel
theorem dX2_save_33 : decode cX2_save 33 = .ok (.iconst 4, 1) := by decide +kernel
theorem dX2_save_34 : decode cX2_save 34 = .ok (.invokestatic 33, 3) := by decide +kernel
theorem dX2_save_37 : decode cX2_save 37 = .ok (.putfield 30, 3) := by decide +kernel
theorem dX2_save_40 : decode cX2_save 40 = .ok (.return_, 1) := by decide +kernel
theorem dX2_restore_0 : decode cX2_restore 0 = .ok (.aload_n 1, 1) := by decide +kernel
theorem dX2_restore_1 : decode cX2_restore 1 = .ok (.ifnull 10, 3) := by decide +kernel
theorem dX2_restore_4 : decode cX2_restore 4 = .ok (.aload_n 0, 1) := by decide +kernel
theorem dX2_restore_5 : decode cX2_restore 5 = .ok (.getfield 30, 3) := by decide +kernel
theorem dX2_restore_8 : decode cX2_restore 8 = .ok (.ifCond .gt 4, 3) := by decide +kernel
theorem dX2_restore_11 : decode cX2_restore 11 = .ok (.return_, 1) := by decide +kernel
theorem dX2_restore_12 : decode cX2_restore 12 = .ok (.aload_n 1, 1) := by decide +kernel
theorem dX2_restore_13 : decode cX2_restore 13 = .ok (.aload_n 0, 1) := by decide +kernel
theorem dX2_restore_14 : decode cX2_restore 14 = .ok (.invokevirtual 22, 3) := by decide +kernel
theorem dX2_restore_17 : decode cX2_restore 17 = .ok (.invokevirtual 26, 3) := by decide +kernel
theorem dX2_restore_20 : decode cX2_restore 20 = .ok (.aload_n 0, 1) := by decide +kernel
theorem dX2_restore_21 : decode cX2_restore 21 = .ok (.aload_n 0, 1) := by decide +kernel
theorem dX2_restore_22 : decode cX2_restore 22 = .ok (.getfield 18, 3) := by decide +kernel
theorem dX2_restore_25 : decode cX2_restore 25 = .ok (.iconst 4, 1) := by decide +kernel
theorem dX2_restore_26 : decode cX2_restore 26 = .ok (.iadd, 1) := by decide +kernel
theorem dX2_restore_27 : decode cX2_restore 27 = .ok (.iconst 1, 1) := by decide +kernel
theorem dX2_restore_28 : decode cX2_restore 28 = .ok (.isub, 1) := by decide +kernel
theorem dX2_restore_29 : decode cX2_restore 29 = .ok (.iconst 4, 1) := by decide +kernel
theorem dX2_restore_30 : decode cX2_restore 30 = .ok (.irem, 1) := by decide +kernel
theorem dX2_restore_31 : decode cX2_restore 31 = .ok (.putfield 18, 3) := by decide +kernel
theorem dX2_restore_34 : decode cX2_restore 34 = .ok (.aload_n 0, 1) := by decide +kernel
theorem dX2_restore_35 : decode cX2_restore 35 = .ok (.dup, 1) := by decide +kernel
theorem dX2_restore_36 : decode cX2_restore 36 = .ok (.getfield 30, 3) := by decide +kernel
theorem dX2_restore_39 : decode cX2_restore 39 = .ok (.iconst 1, 1) := by decide +kernel
theorem dX2_restore_40 : decode cX2_restore 40 = .ok (.isub, 1) := by decide +kernel
theorem dX2_restore_41 : decode cX2_restore 41 = .ok (.putfield 30, 3) := by decide +kernel
theorem dX2_restore_44 : decode cX2_restore 44 = .ok (.return_, 1) := by decide +kernel
theorem dX2_latestSlot_0 : decode cX2_latestSlot 0 = .ok (.aload_n 0, 1) := by decide +kernel
theorem dX2_latestSlot_1 : decode cX2_latestSlot 1 = .ok (.getfield 18, 3) := by decide +kernel
theorem dX2_latestSlot_4 : decode cX2_latestSlot 4 = .ok (.ifCond .lt 27, 3) := by decide +kernel
theorem dX2_latestSlot_7 : decode cX2_latestSlot 7 = .ok (.aload_n 0, 1) := by decide +kernel
theorem dX2_latestSlot_8 : decode cX2_latestSlot 8 = .ok (.getfield 18, 3) := by decide +kernel
theorem dX2_latestSlot_11 : decode cX2_latestSlot 11 = .ok (.aload_n 0, 1) := by decide +kernel
theorem dX2_latestSlot_12 : decode cX2_latestSlot 12 = .ok (.getfield 11, 3) := by decide +kernel
theorem dX2_latestSlot_15 : decode cX2_latestSlot 15 = .ok (.arraylength, 1) := by decide +kernel
theorem dX2_latestSlot_16 : decode cX2_latestSlot 16 = .ok (.if_icmp .ge 15, 3) := by decide +kernel
theorem dX2_latestSlot_19 : decode cX2_latestSlot 19 = .ok (.aload_n 0, 1) := by decide +kernel
theorem dX2_latestSlot_20 : decode cX2_latestSlot 20 = .ok (.getfield 11, 3) := by decide +kernel
theorem dX2_latestSlot_23 : decode cX2_latestSlot 23 = .ok (.aload_n 0, 1) := by decide +kernel
theorem dX2_latestSlot_24 : decode cX2_latestSlot 24 = .ok (.getfield 18, 3) := by decide +kernel
theorem dX2_latestSlot_27 : decode cX2_latestSlot 27 = .ok (.aaload, 1) := by decide +kernel
theorem dX2_latestSlot_28 : decode cX2_latestSlot 28 = .ok (.goto 4, 3) := by decide +kernel
theorem dX2_latestSlot_31 : decode cX2_latestSlot 31 = .ok (.aconst_null, 1) := by decide +kernel
theorem dX2_latestSlot_32 : decode cX2_latestSlot 32 = .ok (.areturn, 1) := by decide +kernel
theorem dX3_init_0 : decode cX3_init 0 = .ok (.aload_n 0, 1) := by decide +kernel
theorem dX3_init_1 : decode cX3_init 1 = .ok (.invokespecial 1, 3) := by decide +kernel
theorem dX3_init_4 : decode cX3_init 4 = .ok (.aload_n 0, 1) := by decide +kernel
theorem dX3_init_5 : decode cX3_init 5 = .ok (.iload_n 1, 1) := by decide +kernel
theorem dX3_init_6 : decode cX3_init 6 = .ok (.ifCond .ge 7, 3) := by decide +kernel
theorem dX3_init_9 : decode cX3_init 9 = .ok (.iconst 0, 1) := by decide +kernel
theorem dX3_init_10 : decode cX3_init 10 = .ok (.goto 4, 3) := by decide +kernel
theorem dX3_init_13 : decode cX3_init 13 = .ok (.iload_n 1, 1) := by decide +kernel
theorem dX3_init_14 : decode cX3_init 14 = .ok (.newarray .int, 2) := by decide +kernel
theorem dX3_init_16 : decode cX3_init 16 = .ok (.putfield 7, 3) := by decide +kernel
theorem dX3_init_19 : decode cX3_init 19 = .ok (.return_, 1) := by decide +kernel
theorem dX3_get_0 : decode cX3_get 0 = .ok (.iload_n 1, 1) := by decide +kernel
theorem dX3_get_1 : decode cX3_get 1 = .ok (.ifCond .lt 21, 3) := by decide +kernel
theorem dX3_get_4 : decode cX3_get 4 = .ok (.iload_n 1, 1) := by decide +kernel
theorem dX3_get_5 : decode cX3_get 5 = .ok (.aload_n 0, 1) := by decide +kernel
theorem dX3_get_6 : decode cX3_get 6 = .ok (.getfield 7, 3) := by decide +kernel
theorem dX3_get_9 : decode cX3_get 9 = .ok (.arraylength, 1) := by decide +kernel
theorem dX3_get_10 : decode cX3_get 10 = .ok (.if_icmp .ge 12, 3) := by decide +kernel
theorem dX3_get_13 : decode cX3_get 13 = .ok (.aload_n 0, 1) := by decide +kernel
theorem dX3_get_14 : decode cX3_get 14 = .ok (.getfield 7, 3) := by decide +kernel
theorem dX3_get_17 : decode cX3_get 17 = .ok (.iload_n 1, 1) := by decide +kernel
theorem dX3_get_18 : decode cX3_get 18 = .ok (.iaload, 1) := by decide +kernel
theorem dX3_get_19 : decode cX3_get 19 = .ok (.goto 4, 3) := by decide +kernel
theorem dX3_get_22 : decode cX3_get 22 = .ok (.iconst 0, 1) := by decide +kernel
theorem dX3_get_23 : decode cX3_get 23 = .ok (.ireturn, 1) := by decide +kernel
theorem dX3_set_0 : decode cX3_set 0 = .ok (.iload_n 1, 1) := by decide +kernel
theorem dX3_set_1 : decode cX3_set 1 = .ok (.ifCond .lt 19, 3) := by decide +kernel
theorem dX3_set_4 : decode cX3_set 4 = .ok (.iload_n 1, 1) := by decide +kernel
theorem dX3_set_5 : decode cX3_set 5 = .ok (.aload_n 0, 1) := by decide +kernel
theorem dX3_set_6 : decode cX3_set 6 = .ok (.getfield 7, 3) := by decide +kernel
theorem dX3_set_9 : decode cX3_set 9 = .ok (.arraylength, 1) := by decide +kernel
theorem dX3_set_10 : decode cX3_set 10 = .ok (.if_icmp .ge 10, 3) := by decide +kernel
theorem dX3_set_13 : decode cX3_set 13 = .ok (.aload_n 0, 1) := by decide +kernel
theorem dX3_set_14 : decode cX3_set 14 = .ok (.getfield 7, 3) := by decide +kernel
theorem dX3_set_17 : decode cX3_set 17 = .ok (.iload_n 1, 1) := by decide +kernel
theorem dX3_set_18 : decode cX3_set 18 = .ok (.iload_n 2, 1) := by decide +kernel
theorem dX3_set_19 : decode cX3_set 19 = .ok (.iastore, 1) := by decide +kernel
theorem dX3_set_20 : decode cX3_set 20 = .ok (.return_, 1) := by decide +kernel
theorem dX3_clear_0 : decode cX3_clear 0 = .ok (.iconst 0, 1) := by decide +kernel
theorem dX3_clear_1 : decode cX3_clear 1 = .ok (.istore_n 1, 1) := by decide +kernel
theorem dX3_clear_2 : decode cX3_clear 2 = .ok (.iload_n 1, 1) := by decide +kernel
theorem dX3_clear_3 : decode cX3_clear 3 = .ok (.aload_n 0, 1) := by decide +kernel
theorem dX3_clear_4 : decode cX3_clear 4 = .ok (.getfield 7, 3) := by decide +kernel
theorem dX3_clear_7 : decode cX3_clear 7 = .ok (.arraylength, 1) := by decide +kernel
theorem dX3_clear_8 : decode cX3_clear 8 = .ok (.if_icmp .ge 16, 3) := by decide +kernel
theorem dX3_clear_11 : decode cX3_clear 11 = .ok (.aload_n 0, 1) := by decide +kernel
theorem dX3_clear_12 : decode cX3_clear 12 = .ok (.getfield 7, 3) := by decide +kernel
theorem dX3_clear_15 : decode cX3_clear 15 = .ok (.iload_n 1, 1) := by decide +kernel
theorem dX3_clear_16 : decode cX3_clear 16 = .ok (.iconst 0, 1) := by decide +kernel
theorem dX3_clear_17 : decode cX3_clear 17 = .ok (.iastore, 1) := by decide +kernel
theorem dX3_clear_18 : decode cX3_clear 18 = .ok (.iinc 1 1, 3) := by decide +kernel
theorem dX3_clear_21 : decode cX3_clear 21 = .ok (.goto (-19), 3) := by decide +kernel
theorem dX3_clear_24 : decode cX3_clear 24 = .ok (.return_, 1) := by decide +kernel
theorem dX3_copyFrom_0 : decode cX3_copyFrom 0 = .ok (.aload_n 1, 1) := by decide +kernel
theorem dX3_copyFrom_1 : decode cX3_copyFrom 1 = .ok (.ifnull 41, 3) := by decide +kernel
theorem dX3_copyFrom_4 : decode cX3_copyFrom 4 = .ok (.iconst 0, 1) := by decide +kernel
theorem dX3_copyFrom_5 : decode cX3_copyFrom 5 = .ok (.istore_n 2, 1) := by decide +kernel
theorem dX3_copyFrom_6 : decode cX3_copyFrom 6 = .ok (.iload_n 2, 1) := by decide +kernel
theorem dX3_copyFrom_7 : decode cX3_copyFrom 7 = .ok (.aload_n 0, 1) := by decide +kernel
theorem dX3_copyFrom_8 : decode cX3_copyFrom 8 = .ok (.getfield 7, 3) := by decide +kernel
theorem dX3_copyFrom_11 : decode cX3_copyFrom 11 = .ok (.arraylength, 1) := by decide +kernel
theorem dX3_copyFrom_12 : decode cX3_copyFrom 12 = .ok (.if_icmp .ge 30, 3) := by decide +kernel
theorem dX3_copyFrom_15 : decode cX3_copyFrom 15 = .ok (.iload_n 2, 1) := by decide +kernel
theorem dX3_copyFrom_16 : decode cX3_copyFrom 16 = .ok (.aload_n 1, 1) := by decide +kernel
theorem dX3_copyFrom_17 : decode cX3_copyFrom 17 = .ok (.getfield 7, 3) := by decide +kernel
theorem dX3_copyFrom_20 : decode cX3_copyFrom 20 = .ok (.arraylength, 1) := by decide +kernel
theorem dX3_copyFrom_21 : decode cX3_copyFrom 21 = .ok (.if_icmp .ge 21, 3) := by decide +kernel
theorem dX3_copyFrom_24 : decode cX3_copyFrom 24 = .ok (.aload_n 0, 1) := by decide +kernel
theorem dX3_copyFrom_25 : decode cX3_copyFrom 25 = .ok (.getfield 7, 3) := by decide +kernel
theorem dX3_copyFrom_28 : decode cX3_copyFrom 28 = .ok (.iload_n 2, 1) := by decide +kernel
theorem dX3_copyFrom_29 : decode cX3_copyFrom 29 = .ok (.aload_n 1, 1) := by decide +kernel
theorem dX3_copyFrom_30 : decode cX3_copyFrom 30 = .ok (.getfield 7, 3) := by decide +kernel
theorem dX3_copyFrom_33 : decode cX3_copyFrom 33 = .ok (.iload_n 2, 1) := by decide +kernel
theorem dX3_copyFrom_34 : decode cX3_copyFrom 34 = .ok (.iaload, 1) := by decide +kernel
theorem dX3_copyFrom_35 : decode cX3_copyFrom 35 = .ok (.iastore, 1) := by decide +kernel
theorem dX3_copyFrom_36 : decode cX3_copyFrom 36 = .ok (.iinc 2 1, 3) := by decide +kernel
theorem dX3_copyFrom_39 : decode cX3_copyFrom 39 = .ok (.goto (-33), 3) := by decide +kernel
theorem dX3_copyFrom_42 : decode cX3_copyFrom 42 = .ok (.return_, 1) := by decide +kernel
theorem dX4_init_0 : decode cX4_init 0 = .ok (.aload_n 0, 1) := by decide +kernel
theorem dX4_init_1 : decode cX4_init 1 = .ok (.invokespecial 3, 3) := by decide +kernel
theorem dX4_init_4 : decode cX4_init 4 = .ok (.aload_n 0, 1) := by decide +kernel
theorem dX4_init_5 : decode cX4_init 5 = .ok (.bipush 12, 2) := by decide +kernel
theorem dX4_init_7 : decode cX4_init 7 = .ok (.putfield 9, 3) := by decide +kernel
theorem dX4_init_10 : decode cX4_init 10 = .ok (.aload_n 0, 1) := by decide +kernel
theorem dX4_init_11 : decode cX4_init 11 = .ok (.bipush 8, 2) := by decide +kernel
theorem dX4_init_13 : decode cX4_init 13 = .ok (.putfield 15, 3) := by decide +kernel
theorem dX4_init_16 : decode cX4_init 16 = .ok (.aload_n 0, 1) := by decide +kernel
theorem dX4_init_17 : decode cX4_init 17 = .ok (.iconst 1, 1) := by decide +kernel
theorem dX4_init_18 : decode cX4_init 18 = .ok (.putfield 18, 3) := by decide +kernel
theorem dX4_init_21 : decode cX4_init 21 = .ok (.aload_n 0, 1) := by decide +kernel
theorem dX4_init_22 : decode cX4_init 22 = .ok (.new 22, 3) := by decide +kernel
theorem dX4_init_25 : decode cX4_init 25 = .ok (.dup, 1) := by decide +kernel
theorem dX4_init_26 : decode cX4_init 26 = .ok (.sipush 384, 3) := by decide +kernel
theorem dX4_init_29 : decode cX4_init 29 = .ok (.invokespecial 24, 3) := by decide +kernel
theorem dX4_init_32 : decode cX4_init 32 = .ok (.putfield 27, 3) := by decide +kernel
theorem dX4_init_35 : decode cX4_init 35 = .ok (.aload_n 0, 1) := by decide +kernel
theorem dX4_init_36 : decode cX4_init 36 = .ok (.new 22, 3) := by decide +kernel
theorem dX4_init_39 : decode cX4_init 39 = .ok (.dup, 1) := by decide +kernel
theorem dX4_init_40 : decode cX4_init 40 = .ok (.bipush 8, 2) := by decide +kernel
theorem dX4_init_42 : decode cX4_init 42 = .ok (.invokespecial 24, 3) := by decide +kernel
theorem dX4_init_45 : decode cX4_init 45 = .ok (.putfield 31, 3) := by decide +kernel
theorem dX4_init_48 : decode cX4_init 48 = .ok (.aload_n 0, 1) := by decide +kernel
theorem dX4_init_49 : decode cX4_init 49 = .ok (.new 22, 3) := by decide +kernel
theorem dX4_init_52 : decode cX4_init 52 = .ok (.dup, 1) := by decide +kernel
theorem dX4_init_53 : decode cX4_init 53 = .ok (.bipush 8, 2) := by decide +kernel
theorem dX4_init_55 : decode cX4_init 55 = .ok (.invokespecial 24, 3) := by decide +kernel
theorem dX4_init_58 : decode cX4_init 58 = .ok (.putfield 34, 3) := by decide +kernel
theorem dX4_init_61 : decode cX4_init 61 = .ok (.aload_n 0, 1) := by decide +kernel
theorem dX4_init_62 : decode cX4_init 62 = .ok (.new 22, 3) := by decide +kernel
theorem dX4_init_65 : decode cX4_init 65 = .ok (.dup, 1) := by decide +kernel
theorem dX4_init_66 : decode cX4_init 66 = .ok (.bipush 8, 2) := by decide +kernel
theorem dX4_init_68 : decode cX4_init 68 = .ok (.invokespecial 24, 3) := by decide +kernel
theorem dX4_init_71 : decode cX4_init 71 = .ok (.putfield 37, 3) := by decide +kernel
theorem dX4_init_74 : decode cX4_init 74 = .ok (.aload_n 0, 1) := by decide +kernel
theorem dX4_init_75 : decode cX4_init 75 = .ok (.new 22, 3) := by decide +kernel
theorem dX4_init_78 : decode cX4_init 78 = .ok (.dup, 1) := by decide +kernel
theorem dX4_init_79 : decode cX4_init 79 = .ok (.bipush 8, 2) := by decide +kernel
theorem dX4_init_81 : decode cX4_init 81 = .ok (.invokespecial 24, 3) := by decide +kernel
theorem dX4_init_84 : decode cX4_init 84 = .ok (.putfield 40, 3) := by decide +kernel
theorem dX4_init_87 : decode cX4_init 87 = .ok (.aload_n 0, 1) := by decide +kernel
theorem dX4_init_88 : decode cX4_init 88 = .ok (.new 22, 3) := by decide +kernel
theorem dX4_init_91 : decode cX4_init 91 = .ok (.dup, 1) := by decide +kernel
theorem dX4_init_92 : decode cX4_init 92 = .ok (.bipush 32, 2) := by decide +kernel
theorem dX4_init_94 : decode cX4_init 94 = .ok (.invokespecial 24, 3) := by decide +kernel
theorem dX4_init_97 : decode cX4_init 97 = .ok (.putfield 43, 3) := by decide +kernel
theorem dX4_init_100 : decode cX4_init 100 = .ok (.aload_n 0, 1) := by decide +kernel
theorem dX4_init_101 : decode cX4_init 101 = .ok (.new 22, 3) := by decide +kernel
theorem dX4_init_104 : decode cX4_init 104 = .ok (.dup, 1) := by decide +kernel
theorem dX4_init_105 : decode cX4_init 105 = .ok (.bipush 32, 2) := by decide +kernel
theorem dX4_init_107 : decode cX4_init 107 = .ok (.invokespecial 24, 3) := by decide +kernel
theorem dX4_init_110 : decode cX4_init 110 = .ok (.putfield 46, 3) := by decide +kernel
theorem dX4_init_113 : decode cX4_init 113 = .ok (.return_, 1) := by decide +kernel
theorem dX4_copyFrom_0 : decode cX4_copyFrom 0 = .ok (.aload_n 1, 1) := by decide +kernel
theorem dX4_copyFrom_1 : decode cX4_copyFrom 1 = .ok (.ifnonnull 4, 3) := by decide +kernel
theorem dX4_copyFrom_4 : decode cX4_copyFrom 4 = .ok (.return_, 1) := by decide +kernel
theorem dX4_copyFrom_5 : decode cX4_copyFrom 5 = .ok (.aload_n 0, 1) := by decide +kernel
theorem dX4_copyFrom_6 : decode cX4_copyFrom 6 = .ok (.aload_n 1, 1) := by decide +kernel
theorem dX4_copyFrom_7 : decode cX4_copyFrom 7 = .ok (.getfield 9, 3) := by decide +kernel
theorem dX4_copyFrom_10 : decode cX4_copyFrom 10 = .ok (.putfield 9, 3) := by decide +kernel
theorem dX4_copyFrom_13 : decode cX4_copyFrom 13 = .ok (.aload_n 0, 1) := by decide +kernel
theorem dX4_copyFrom_14 : decode cX4_copyFrom 14 = .ok (.aload_n 1, 1) := by decide +kernel
theorem dX4_copyFrom_15 : decode cX4_copyFrom 15 = .ok (.getfield 15, 3) := by decide +kernel
theorem dX4_copyFrom_18 : decode cX4_copyFrom 18 = .ok (.putfield 15, 3) := by decide +kernel
theorem dX4_copyFrom_21 : decode cX4_copyFrom 21 = .ok (.aload_n 0, 1) := by decide +kernel
theorem dX4_copyFrom_22 : decode cX4_copyFrom 22 = .ok (.aload_n 1, 1) := by decide +kernel
theorem dX4_copyFrom_23 : decode cX4_copyFrom 23 = .ok (.getfield 49, 3) := by decide +kernel
theorem dX4_copyFrom_26 : decode cX4_copyFrom 26 = .ok (.putfield 49, 3) := by decide +kernel
theorem dX4_copyFrom_29 : decode cX4_copyFrom 29 = .ok (.aload_n 0, 1) := by decide +kernel
theorem dX4_copyFrom_30 : decode cX4_copyFrom 30 = .ok (.aload_n 1, 1) := by decide +kernel
theorem dX4_copyFrom_31 : decode cX4_copyFrom 31 = .ok (.getfield 52, 3) := by decide +kernel
theorem dX4_copyFrom_34 : decode cX4_copyFrom 34 = .ok (.putfield 52, 3) := by decide +kernel
theorem dX4_copyFrom_37 : decode cX4_copyFrom 37 = .ok (.aload_n 0, 1) := by decide +kernel
theorem dX4_copyFrom_38 : decode cX4_copyFrom 38 = .ok (.aload_n 1, 1) := by decide +kernel
theorem dX4_copyFrom_39 : decode cX4_copyFrom 39 = .ok (.getfield 55, 3) := by decide +kernel
theorem dX4_copyFrom_42 : decode cX4_copyFrom 42 = .ok (.putfield 55, 3) := by decide +kernel
theorem dX4_copyFrom_45 : decode cX4_copyFrom 45 = .ok (.aload_n 0, 1) := by decide +kernel
theorem dX4_copyFrom_46 : decode cX4_copyFrom 46 = .ok (.aload_n 1, 1) := by decide +kernel
theorem dX4_copyFrom_47 : decode cX4_copyFrom 47 = .ok (.getfield 58, 3) := by decide +kernel
theorem dX4_copyFrom_50 : decode cX4_copyFrom 50 = .ok (.putfield 58, 3) := by decide +kernel
theorem dX4_copyFrom_53 : decode cX4_copyFrom 53 = .ok (.aload_n 0, 1) := by decide +kernel
theorem dX4_copyFrom_54 : decode cX4_copyFrom 54 = .ok (.getfield 27, 3) := by decide +kernel
theorem dX4_copyFrom_57 : decode cX4_copyFrom 57 = .ok (.aload_n 1, 1) := by decide +kernel
theorem dX4_copyFrom_58 : decode cX4_copyFrom 58 = .ok (.getfield 27, 3) := by decide +kernel
theorem dX4_copyFrom_61 : decode cX4_copyFrom 61 = .ok (.invokevirtual 61, 3) := by decide +kernel
theorem dX4_copyFrom_64 : decode cX4_copyFrom 64 = .ok (.aload_n 0, 1) := by decide +kernel
theorem dX4_copyFrom_65 : decode cX4_copyFrom 65 = .ok (.getfield 31, 3) := by decide +kernel
theorem dX4_copyFrom_68 : decode cX4_copyFrom 68 = .ok (.aload_n 1, 1) := by decide +kernel
theorem dX4_copyFrom_69 : decode cX4_copyFrom 69 = .ok (.getfield 31, 3) := by decide +kernel
theorem dX4_copyFrom_72 : decode cX4_copyFrom 72 = .ok (.invokevirtual 61, 3) := by decide +kernel
theorem dX4_copyFrom_75 : decode cX4_copyFrom 75 = .ok (.aload_n 0, 1) := by decide +kernel
theorem dX4_copyFrom_76 : decode cX4_copyFrom 76 = .ok (.getfield 34, 3) := by decide +kernel
theorem dX4_copyFrom_79 : decode cX4_copyFrom 79 = .ok (.aload_n 1, 1) := by decide +kernel
theorem dX4_copyFrom_80 : decode cX4_copyFrom 80 = .ok (.getfield 34, 3) := by decide +kernel
theorem dX4_copyFrom_83 : decode cX4_copyFrom 83 = .ok (.invokevirtual 61, 3) := by decide +kernel
theorem dX4_copyFrom_86 : decode cX4_copyFrom 86 = .ok (.aload_n 0, 1) := by decide +kernel
theorem dX4_copyFrom_87 : decode cX4_copyFrom 87 = .ok (.getfield 37, 3) := by decide +kernel
theorem dX4_copyFrom_90 : decode cX4_copyFrom 90 = .ok (.aload_n 1, 1) := by decide +kernel
theorem dX4_copyFrom_91 : decode cX4_copyFrom 91 = .ok (.getfield 37, 3) := by decide +kernel
theorem dX4_copyFrom_94 : decode cX4_copyFrom 94 = .ok (.invokevirtual 61, 3) := by decide +kernel
theorem dX4_copyFrom_97 : decode cX4_copyFrom 97 = .ok (.aload_n 0, 1) := by decide +kernel
theorem dX4_copyFrom_98 : decode cX4_copyFrom 98 = .ok (.getfield 40, 3) := by decide +kernel
theorem dX4_copyFrom_101 : decode cX4_copyFrom 101 = .ok (.aload_n 1, 1) := by decide +kernel
theorem dX4_copyFrom_102 : decode cX4_copyFrom 102 = .ok (.getfield 40, 3) := by decide +kernel
theorem dX4_copyFrom_105 : decode cX4_copyFrom 105 = .ok (.invokevirtual 61, 3) := by decide +kernel
theorem dX4_copyFrom_108 : decode cX4_copyFrom 108 = .ok (.aload_n 0, 1) := by decide +kernel
theorem dX4_copyFrom_109 : decode cX4_copyFrom 109 = .ok (.getfield 43, 3) := by decide +kernel
theorem dX4_copyFrom_112 : decode cX4_copyFrom 112 = .ok (.aload_n 1, 1) := by decide +kernel
theorem dX4_copyFrom_113 : decode cX4_copyFrom 113 = .ok (.getfield 43, 3) := by decide +kernel
theorem dX4_copyFrom_116 : decode cX4_copyFrom 116 = .ok (.invokevirtual 61, 3) := by decide +kernel
theorem dX4_copyFrom_119 : decode cX4_copyFrom 119 = .ok (.aload_n 0, 1) := by decide +kernel
theorem dX4_copyFrom_120 : decode cX4_copyFrom 120 = .ok (.getfield 46, 3) := by decide +kernel
theorem dX4_copyFrom_123 : decode cX4_copyFrom 123 = .ok (.aload_n 1, 1) := by decide +kernel
theorem dX4_copyFrom_124 : decode cX4_copyFrom 124 = .ok (.getfield 46, 3) := by decide +kernel
theorem dX4_copyFrom_127 : decode cX4_copyFrom 127 = .ok (.invokevirtual 61, 3) := by decide +kernel
theorem dX4_copyFrom_130 : decode cX4_copyFrom 130 = .ok (.aload_n 0, 1) := by decide +kernel
theorem dX4_copyFrom_131 : decode cX4_copyFrom 131 = .ok (.iconst 1, 1) := by decide +kernel
theorem dX4_copyFrom_132 : decode cX4_copyFrom 132 = .ok (.putfield 18, 3) := by decide +kernel
theorem dX4_copyFrom_135 : decode cX4_copyFrom 135 = .ok (.return_, 1) := by decide +kernel
theorem dX4_startWall_0 : decode cX4_startWall 0 = .ok (.aload_n 0, 1) := by decide +kernel
theorem dX4_startWall_1 : decode cX4_startWall 1 = .ok (.iload_n 1, 1) := by decide +kernel
theorem dX4_startWall_2 : decode cX4_startWall 2 = .ok (.putfield 9, 3) := by decide +kernel
theorem dX4_startWall_5 : decode cX4_startWall 5 = .ok (.aload_n 0, 1) := by decide +kernel
theorem dX4_startWall_6 : decode cX4_startWall 6 = .ok (.iload_n 2, 1) := by decide +kernel
theorem dX4_startWall_7 : decode cX4_startWall 7 = .ok (.putfield 15, 3) := by decide +kernel
theorem dX4_startWall_10 : decode cX4_startWall 10 = .ok (.aload_n 0, 1) := by decide +kernel
theorem dX4_startWall_11 : decode cX4_startWall 11 = .ok (.iconst 0, 1) := by decide +kernel
theorem dX4_startWall_12 : decode cX4_startWall 12 = .ok (.putfield 49, 3) := by decide +kernel
theorem dX4_startWall_15 : decode cX4_startWall 15 = .ok (.aload_n 0, 1) := by decide +kernel
theorem dX4_startWall_16 : decode cX4_startWall 16 = .ok (.iconst 0, 1) := by decide +kernel
theorem dX4_startWall_17 : decode cX4_startWall 17 = .ok (.putfield 52, 3) := by decide +kernel
theorem dX4_startWall_20 : decode cX4_startWall 20 = .ok (.aload_n 0, 1) := by decide +kernel
theorem dX4_startWall_21 : decode cX4_startWall 21 = .ok (.getfield 27, 3) := by decide +kernel
theorem dX4_startWall_24 : decode cX4_startWall 24 = .ok (.invokevirtual 65, 3) := by decide +kernel
theorem dX4_startWall_27 : decode cX4_startWall 27 = .ok (.aload_n 0, 1) := by decide +kernel
theorem dX4_startWall_28 : decode cX4_startWall 28 = .ok (.iconst 1, 1) := by decide +kernel
theorem dX4_startWall_29 : decode cX4_startWall 29 = .ok (.putfield 18, 3) := by decide +kernel
theorem dX4_startWall_32 : decode cX4_startWall 32 = .ok (.return_, 1) := by decide +kernel
theorem dX4_setTargets_0 : decode cX4_setTargets 0 = .ok (.iconst 0, 1) := by decide +kernel
theorem dX4_setTargets_1 : decode cX4_setTargets 1 = .ok (.istore 6, 2) := by decide +kernel
theorem dX4_setTargets_3 : decode cX4_setTargets 3 = .ok (.iload_n 2, 1) := by decide +kernel
theorem dX4_setTargets_4 : decode cX4_setTargets 4 = .ok (.istore 7, 2) := by decide +kernel
theorem dX4_setTargets_6 : decode cX4_setTargets 6 = .ok (.iload 7, 2) := by decide +kernel
theorem dX4_setTargets_8 : decode cX4_setTargets 8 = .ok (.iload 4, 2) := by decide +kernel
theorem dX4_setTargets_10 : decode cX4_setTargets 10 = .ok (.if_icmp .gt 76, 3) := by decide +kernel
theorem dX4_setTargets_13 : decode cX4_setTargets 13 = .ok (.iload 7, 2) := by decide +kernel
theorem dX4_setTargets_15 : decode cX4_setTargets 15 = .ok (.bipush 16, 2) := by decide +kernel
theorem dX4_setTargets_17 : decode cX4_setTargets 17 = .ok (.if_icmp .ge 69, 3) := by decide +kernel
theorem dX4_setTargets_20 : decode cX4_setTargets 20 = .ok (.iload_n 1, 1) := by decide +kernel
theorem dX4_setTargets_21 : decode cX4_setTargets 21 = .ok (.istore 8, 2) := by decide +kernel
theorem dX4_setTargets_23 : decode cX4_setTargets 23 = .ok (.iload 8, 2) := by decide +kernel
theorem dX4_setTargets_25 : decode cX4_setTargets 25 = .ok (.iload_n 3, 1) := by decide +kernel
theorem dX4_setTargets_26 : decode cX4_setTargets 26 = .ok (.if_icmp .gt 54, 3) := by decide +kernel
theorem dX4_setTargets_29 : decode cX4_setTargets 29 = .ok (.iload 8, 2) := by decide +kernel
theorem dX4_setTargets_31 : decode cX4_setTargets 31 = .ok (.bipush 24, 2) := by decide +kernel
theorem dX4_setTargets_33 : decode cX4_setTargets 33 = .ok (.if_icmp .ge 47, 3) := by decide +kernel
theorem dX4_setTargets_36 : decode cX4_setTargets 36 = .ok (.aload_n 0, 1) := by decide +kernel
theorem dX4_setTargets_37 : decode cX4_setTargets 37 = .ok (.iload 8, 2) := by decide +kernel
theorem dX4_setTargets_39 : decode cX4_setTargets 39 = .ok (.iload 7, 2) := by decide +kernel
theorem dX4_setTargets_41 : decode cX4_setTargets 41 = .ok (.invokevirtual 68, 3) := by decide +kernel
theorem dX4_setTargets_44 : decode cX4_setTargets 44 = .ok (.istore 9, 2) := by decide +kernel
theorem dX4_setTargets_46 : decode cX4_setTargets 46 = .ok (.aload_n 0, 1) := by decide +kernel
theorem dX4_setTargets_47 : decode cX4_setTargets 47 = .ok (.getfield 27, 3) := by decide +kernel
theorem dX4_setTargets_50 : decode cX4_setTargets 50 = .ok (.iload 9, 2) := by decide +kernel
theorem dX4_setTargets_52 : decode cX4_setTargets 52 = .ok (.invokevirtual 72, 3) := by decide +kernel
theorem dX4_setTargets_55 : decode cX4_setTargets 55 = .ok (.iload 5, 2) := by decide +kernel
theorem dX4_setTargets_57 : decode cX4_setTargets 57 = .ok (.if_icmp .eq 6, 3) := by decide +kernel
theorem dX4_setTargets_60 : decode cX4_setTargets 60 = .ok (.iinc 6 1, 3) := by decide +kernel
theorem dX4_setTargets_63 : decode cX4_setTargets 63 = .ok (.aload_n 0, 1) := by decide +kernel
theorem dX4_setTargets_64 : decode cX4_setTargets 64 = .ok (.getfield 27, 3) := by decide +kernel
theorem dX4_setTargets_67 : decode cX4_setTargets 67 = .ok (.iload 9, 2) := by decide +kernel
theorem dX4_setTargets_69 : decode cX4_setTargets 69 = .ok (.iload 5, 2) := by decide +kernel
theorem dX4_setTargets_71 : decode cX4_setTargets 71 = .ok (.invokevirtual 76, 3) := by decide +kernel
theorem dX4_setTargets_74 : decode cX4_setTargets 74 = .ok (.iinc 8 1, 3) := by decide +kernel
theorem dX4_setTargets_77 : decode cX4_setTargets 77 = .ok (.goto (-54), 3) := by decide +kernel
theorem dX4_setTargets_80 : decode cX4_setTargets 80 = .ok (.iinc 7 1, 3) := by decide +kernel
theorem dX4_setTargets_83 : decode cX4_setTargets 83 = .ok (.goto (-77), 3) := by decide +kernel
theorem dX4_setTargets_86 : decode cX4_setTargets 86 = .ok (.aload_n 0, 1) := by decide +kernel
theorem dX4_setTargets_87 : decode cX4_setTargets 87 = .ok (.iconst 1, 1) := by decide +kernel
theorem dX4_setTargets_88 : decode cX4_setTargets 88 = .ok (.putfield 18, 3) := by decide +kernel
theorem dX4_setTargets_91 : decode cX4_setTargets 91 = .ok (.iload 6, 2) := by decide +kernel
theorem dX4_setTargets_93 : decode cX4_setTargets 93 = .ok (.ireturn, 1) := by decide +kernel
theorem dX4_hangLamp_0 : decode cX4_hangLamp 0 = .ok (.aload_n 0, 1) := by decide +kernel
theorem dX4_hangLamp_1 : decode cX4_hangLamp 1 = .ok (.getfield 58, 3) := by decide +kernel
theorem dX4_hangLamp_4 : decode cX4_hangLamp 4 = .ok (.istore_n 3, 1) := by decide +kernel
theorem dX4_hangLamp_5 : decode cX4_hangLamp 5 = .ok (.aload_n 0, 1) := by decide +kernel
theorem dX4_hangLamp_6 : decode cX4_hangLamp 6 = .ok (.dup, 1) := by decide +kernel
theorem dX4_hangLamp_7 : decode cX4_hangLamp 7 = .ok (.getfield 58, 3) := by decide +kernel
theorem dX4_hangLamp_10 : decode cX4_hangLamp 10 = .ok (.iconst 1, 1) := by decide +kernel
theorem dX4_hangLamp_11 : decode cX4_hangLamp 11 = .ok (.iadd, 1) := by decide +kernel
theorem dX4_hangLamp_12 : decode cX4_hangLamp 12 = .ok (.putfield 58, 3) := by decide +kernel
theorem dX4_hangLamp_15 : decode cX4_hangLamp 15 = .ok (.aload_n 0, 1) := by decide +kernel
theorem dX4_hangLamp_16 : decode cX4_hangLamp 16 = .ok (.getfield 31, 3) := by decide +kernel
theorem dX4_hangLamp_19 : decode cX4_hangLamp 19 = .ok (.iload_n 3, 1) := by decide +kernel
theorem dX4_hangLamp_20 : decode cX4_hangLamp 20 = .ok (.iload_n 1, 1) := by decide +kernel
theorem dX4_hangLamp_21 : decode cX4_hangLamp 21 = .ok (.invokevirtual 76, 3) := by decide +kernel
theorem dX4_hangLamp_24 : decode cX4_hangLamp 24 = .ok (.aload_n 0, 1) := by decide +kernel
theorem dX4_hangLamp_25 : decode cX4_hangLamp 25 = .ok (.getfield 34, 3) := by decide +kernel
theorem dX4_hangLamp_28 : decode cX4_hangLamp 28 = .ok (.iload_n 3, 1) := by decide +kernel
theorem dX4_hangLamp_29 : decode cX4_hangLamp 29 = .ok (.iload_n 2, 1) := by decide +kernel
theorem dX4_hangLamp_30 : decode cX4_hangLamp 30 = .ok (.invokevirtual 76, 3) := by decide +kernel
theorem dX4_hangLamp_33 : decode cX4_hangLamp 33 = .ok (.aload_n 0, 1) := by decide +kernel
theorem dX4_hangLamp_34 : decode cX4_hangLamp 34 = .ok (.getfield 37, 3) := by decide +kernel
theorem dX4_hangLamp_37 : decode cX4_hangLamp 37 = .ok (.iload_n 3, 1) := by decide +kernel
theorem dX4_hangLamp_38 : decode cX4_hangLamp 38 = .ok (.iconst 0, 1) := by decide +kernel
theorem dX4_hangLamp_39 : decode cX4_hangLamp 39 = .ok (.invokevirtual 76, 3) := by decide +kernel
theorem dX4_hangLamp_42 : decode cX4_hangLamp 42 = .ok (.aload_n 0, 1) := by decide +kernel
theorem dX4_hangLamp_43 : decode cX4_hangLamp 43 = .ok (.getfield 40, 3) := by decide +kernel
theorem dX4_hangLamp_46 : decode cX4_hangLamp 46 = .ok (.iload_n 3, 1) := by decide +kernel
theorem dX4_hangLamp_47 : decode cX4_hangLamp 47 = .ok (.iconst 1, 1) := by decide +kernel
theorem dX4_hangLamp_48 : decode cX4_hangLamp 48 = .ok (.invokevirtual 76, 3) := by decide +kernel
theorem dX4_hangLamp_51 : decode cX4_hangLamp 51 = .ok (.iconst 0, 1) := by decide +kernel
theorem dX4_hangLamp_52 : decode cX4_hangLamp 52 = .ok (.istore 4, 2) := by decide +kernel
theorem dX4_hangLamp_54 : decode cX4_hangLamp 54 = .ok (.iload 4, 2) := by decide +kernel
theorem dX4_hangLamp_56 : decode cX4_hangLamp 56 = .ok (.iconst 4, 1) := by decide +kernel
theorem dX4_hangLamp_57 : decode cX4_hangLamp 57 = .ok (.if_icmp .ge 18, 3) := by decide +kernel
theorem dX4_hangLamp_60 : decode cX4_hangLamp 60 = .ok (.aload_n 0, 1) := by decide +kernel
theorem dX4_hangLamp_61 : decode cX4_hangLamp 61 = .ok (.iload_n 3, 1) := by decide +kernel
theorem dX4_hangLamp_62 : decode cX4_hangLamp 62 = .ok (.iload 4, 2) := by decide +kernel
theorem dX4_hangLamp_64 : decode cX4_hangLamp 64 = .ok (.iconst 0, 1) := by decide +kernel
theorem dX4_hangLamp_65 : decode cX4_hangLamp 65 = .ok (.iconst 0, 1) := by decide +kernel
theorem dX4_hangLamp_66 : decode cX4_hangLamp 66 = .ok (.invokevirtual 80, 3) := by decide +kernel
theorem dX4_hangLamp_69 : decode cX4_hangLamp 69 = .ok (.iinc 4 1, 3) := by decide +kernel
theorem dX4_hangLamp_72 : decode cX4_hangLamp 72 = .ok (.goto (-18), 3) := by decide +kernel
theorem dX4_hangLamp_75 : decode cX4_hangLamp 75 = .ok (.aload_n 0, 1) := by decide +kernel
theorem dX4_hangLamp_76 : decode cX4_hangLamp 76 = .ok (.iconst 1, 1) := by decide +kernel
theorem dX4_hangLamp_77 : decode cX4_hangLamp 77 = .ok (.putfield 18, 3) := by decide +kernel
theorem dX4_hangLamp_80 : decode cX4_hangLamp 80 = .ok (.iload_n 3, 1) := by decide +kernel
theorem dX4_hangLamp_81 : decode cX4_hangLamp 81 = .ok (.ireturn, 1) := by decide +kernel
theorem dX4_moveCorner_0 : decode cX4_moveCorner 0 = .ok (.aload_n 0, 1) := by decide +kernel
theorem dX4_moveCorner_1 : decode cX4_moveCorner 1 = .ok (.getfield 43, 3) := by decide +kernel
theorem dX4_moveCorner_4 : decode cX4_moveCorner 4 = .ok (.iconst 4, 1) := by decide +kernel
theorem dX4_moveCorner_5 : decode cX4_moveCorner 5 = .ok (.iload_n 1, 1) := by decide +kernel
theorem dX4_moveCorner_6 : decode cX4_moveCorner 6 = .ok (.imul, 1) := by decide +kernel
theorem dX4_moveCorner_7 : decode cX4_moveCorner 7 = .ok (.iload_n 2, 1) := by decide +kernel
theorem dX4_moveCorner_8 : decode cX4_moveCorner 8 = .ok (.iadd, 1) := by decide +kernel
theorem dX4_moveCorner_9 : decode cX4_moveCorner 9 = .ok (.iload_n 3, 1) := by decide +kernel
theorem dX4_moveCorner_10 : decode cX4_moveCorner 10 = .ok (.invokevirtual 76, 3) := by decide +kernel
theorem dX4_moveCorner_13 : decode cX4_moveCorner 13 = .ok (.aload_n 0, 1) := by decide +kernel
theorem dX4_moveCorner_14 : decode cX4_moveCorner 14 = .ok (.getfield 46, 3) := by decide +kernel
theorem dX4_moveCorner_17 : decode cX4_moveCorner 17 = .ok (.iconst 4, 1) := by decide +kernel
theorem dX4_moveCorner_18 : decode cX4_moveCorner 18 = .ok (.iload_n 1, 1) := by decide +kernel
theorem dX4_moveCorner_19 : decode cX4_moveCorner 19 = .ok (.imul, 1) := by decide +kernel
theorem dX4_moveCorner_20 : decode cX4_moveCorner 20 = .ok (.iload_n 2, 1) := by decide +kernel
theorem dX4_moveCorner_21 : decode cX4_moveCorner 21 = .ok (.iadd, 1) := by decide +kernel
theorem dX4_moveCorner_22 : decode cX4_moveCorner 22 = .ok (.iload 4, 2) := by decide +kernel
theorem dX4_moveCorner_24 : decode cX4_moveCorner 24 = .ok (.invokevirtual 76, 3) := by decide +kernel
theorem dX4_moveCorner_27 : decode cX4_moveCorner 27 = .ok (.aload_n 0, 1) := by decide +kernel
theorem dX4_moveCorner_28 : decode cX4_moveCorner 28 = .ok (.iconst 1, 1) := by decide +kernel
theorem dX4_moveCorner_29 : decode cX4_moveCorner 29 = .ok (.putfield 18, 3) := by decide +kernel
theorem dX4_moveCorner_32 : decode cX4_moveCorner 32 = .ok (.return_, 1) := by decide +kernel
theorem dX4_setLampValue_0 : decode cX4_setLampValue 0 = .ok (.iload_n 2, 1) := by decide +kernel
theorem dX4_setLampValue_1 : decode cX4_setLampValue 1 = .ok (.ifCond .ne 15, 3) := by decide +kernel
theorem dX4_setLampValue_4 : decode cX4_setLampValue 4 = .ok (.aload_n 0, 1) := by decide +kernel
theorem dX4_setLampValue_5 : decode cX4_setLampValue 5 = .ok (.getfield 31, 3) := by decide +kernel
theorem dX4_setLampValue_8 : decode cX4_setLampValue 8 = .ok (.iload_n 1, 1) := by decide +kernel
theorem dX4_setLampValue_9 : decode cX4_setLampValue 9 = .ok (.iload_n 3, 1) := by decide +kernel
theorem dX4_setLampValue_10 : decode cX4_setLampValue 10 = .ok (.invokevirtual 76, 3) := by decide +kernel
theorem dX4_setLampValue_13 : decode cX4_setLampValue 13 = .ok (.goto 29, 3) := by decide +kernel
theorem dX4_setLampValue_16 : decode cX4_setLampValue 16 = .ok (.iload_n 2, 1) := by decide +kernel
theorem dX4_setLampValue_17 : decode cX4_setLampValue 17 = .ok (.iconst 1, 1) := by decide +kernel
theorem dX4_setLampValue_18 : decode cX4_setLampValue 18 = .ok (.if_icmp .ne 15, 3) := by decide +kernel
theorem dX4_setLampValue_21 : decode cX4_setLampValue 21 = .ok (.aload_n 0, 1) := by decide +kernel
theorem dX4_setLampValue_22 : decode cX4_setLampValue 22 = .ok (.getfield 34, 3) := by decide +kernel
theorem dX4_setLampValue_25 : decode cX4_setLampValue 25 = .ok (.iload_n 1, 1) := by decide +kernel
theorem dX4_setLampValue_26 : decode cX4_setLampValue 26 = .ok (.iload_n 3, 1) := by decide +kernel
theorem dX4_setLampValue_27 : decode cX4_setLampValue 27 = .ok (.invokevirtual 76, 3) := by decide +kernel
theorem dX4_setLampValue_30 : decode cX4_setLampValue 30 = .ok (.goto 12, 3) := by decide +kernel
theorem dX4_setLampValue_33 : decode cX4_setLampValue 33 = .ok (.aload_n 0, 1) := by decide +kernel
theorem dX4_setLampValue_34 : decode cX4_setLampValue 34 = .ok (.getfield 37, 3) := by decide +kernel
theorem dX4_setLampValue_37 : decode cX4_setLampValue 37 = .ok (.iload_n 1, 1) := by decide +kernel
theorem dX4_setLampValue_38 : decode cX4_setLampValue 38 = .ok (.iload_n 3, 1) := by decide +kernel
theorem dX4_setLampValue_39 : decode cX4_setLampValue 39 = .ok (.invokevirtual 76, 3) := by decide +kernel
theorem dX4_setLampValue_42 : decode cX4_setLampValue 42 = .ok (.aload_n 0, 1) := by decide +kernel
theorem dX4_setLampValue_43 : decode cX4_setLampValue 43 = .ok (.iconst 1, 1) := by decide +kernel
theorem dX4_setLampValue_44 : decode cX4_setLampValue 44 = .ok (.putfield 18, 3) := by decide +kernel
theorem dX4_setLampValue_47 : decode cX4_setLampValue 47 = .ok (.return_, 1) := by decide +kernel
theorem dX4_switchLamp_0 : decode cX4_switchLamp 0 = .ok (.aload_n 0, 1) := by decide +kernel
theorem dX4_switchLamp_1 : decode cX4_switchLamp 1 = .ok (.getfield 40, 3) := by decide +kernel
theorem dX4_switchLamp_4 : decode cX4_switchLamp 4 = .ok (.iload_n 1, 1) := by decide +kernel
theorem dX4_switchLamp_5 : decode cX4_switchLamp 5 = .ok (.iload_n 2, 1) := by decide +kernel
theorem dX4_switchLamp_6 : decode cX4_switchLamp 6 = .ok (.ifCond .eq 7, 3) := by decide +kernel
theorem dX4_switchLamp_9 : decode cX4_switchLamp 9 = .ok (.iconst 1, 1) := by decide +kernel
theorem dX4_switchLamp_10 : decode cX4_switchLamp 10 = .ok (.goto 4, 3) := by decide +kernel
theorem dX4_switchLamp_13 : decode cX4_switchLamp 13 = .ok (.iconst 0, 1) := by decide +kernel
theorem dX4_switchLamp_14 : decode cX4_switchLamp 14 = .ok (.invokevirtual 76, 3) := by decide +kernel
theorem dX4_switchLamp_17 : decode cX4_switchLamp 17 = .ok (.aload_n 0, 1) := by decide +kernel
theorem dX4_switchLamp_18 : decode cX4_switchLamp 18 = .ok (.iconst 1, 1) := by decide +kernel
theorem dX4_switchLamp_19 : decode cX4_switchLamp 19 = .ok (.putfield 18, 3) := by decide +kernel
theorem dX4_switchLamp_22 : decode cX4_switchLamp 22 = .ok (.return_, 1) := by decide +kernel
theorem dX4_moveWall_0 : decode cX4_moveWall 0 = .ok (.aload_n 0, 1) := by decide +kernel
theorem dX4_moveWall_1 : decode cX4_moveWall 1 = .ok (.iload_n 1, 1) := by decide +kernel
theorem dX4_moveWall_2 : decode cX4_moveWall 2 = .ok (.putfield 49, 3) := by decide +kernel
theorem dX4_moveWall_5 : decode cX4_moveWall 5 = .ok (.aload_n 0, 1) := by decide +kernel
theorem dX4_moveWall_6 : decode cX4_moveWall 6 = .ok (.iload_n 2, 1) := by decide +kernel
theorem dX4_moveWall_7 : decode cX4_moveWall 7 = .ok (.putfield 52, 3) := by decide +kernel
theorem dX4_moveWall_10 : decode cX4_moveWall 10 = .ok (.aload_n 0, 1) := by decide +kernel
theorem dX4_moveWall_11 : decode cX4_moveWall 11 = .ok (.iconst 1, 1) := by decide +kernel
theorem dX4_moveWall_12 : decode cX4_moveWall 12 = .ok (.putfield 18, 3) := by decide +kernel
theorem dX4_moveWall_15 : decode cX4_moveWall 15 = .ok (.return_, 1) := by decide +kernel
theorem dX4_wearOut_0 : decode cX4_wearOut 0 = .ok (.aload_n 0, 1) := by decide +kernel
theorem dX4_wearOut_1 : decode cX4_wearOut 1 = .ok (.getfield 37, 3) := by decide +kernel
theorem dX4_wearOut_4 : decode cX4_wearOut 4 = .ok (.iload_n 1, 1) := by decide +kernel
theorem dX4_wearOut_5 : decode cX4_wearOut 5 = .ok (.sipush 900, 3) := by decide +kernel
theorem dX4_wearOut_8 : decode cX4_wearOut 8 = .ok (.aload_n 0, 1) := by decide +kernel
theorem dX4_wearOut_9 : decode cX4_wearOut 9 = .ok (.getfield 37, 3) := by decide +kernel
theorem dX4_wearOut_12 : decode cX4_wearOut 12 = .ok (.iload_n 1, 1) := by decide +kernel
theorem dX4_wearOut_13 : decode cX4_wearOut 13 = .ok (.invokevirtual 72, 3) := by decide +kernel
theorem dX4_wearOut_16 : decode cX4_wearOut 16 = .ok (.iload_n 2, 1) := by decide +kernel
theorem dX4_wearOut_17 : decode cX4_wearOut 17 = .ok (.iadd, 1) := by decide +kernel
theorem dX4_wearOut_18 : decode cX4_wearOut 18 = .ok (.invokestatic 84, 3) := by decide +kernel
theorem dX4_wearOut_21 : decode cX4_wearOut 21 = .ok (.invokevirtual 76, 3) := by decide +kernel
theorem dX4_wearOut_24 : decode cX4_wearOut 24 = .ok (.aload_n 0, 1) := by decide +kernel
theorem dX4_wearOut_25 : decode cX4_wearOut 25 = .ok (.iconst 1, 1) := by decide +kernel
theorem dX4_wearOut_26 : decode cX4_wearOut 26 = .ok (.putfield 18, 3) := by decide +kernel
theorem dX4_wearOut_29 : decode cX4_wearOut 29 = .ok (.return_, 1) := by decide +kernel
theorem dX4_countHours_0 : decode cX4_countHours 0 = .ok (.aload_n 0, 1) := by decide +kernel
theorem dX4_countHours_1 : decode cX4_countHours 1 = .ok (.dup, 1) := by decide +kernel
theorem dX4_countHours_2 : decode cX4_countHours 2 = .ok (.getfield 55, 3) := by decide +kernel
theorem dX4_countHours_5 : decode cX4_countHours 5 = .ok (.iload_n 1, 1) := by decide +kernel
theorem dX4_countHours_6 : decode cX4_countHours 6 = .ok (.iadd, 1) := by decide +kernel
theorem dX4_countHours_7 : decode cX4_countHours 7 = .ok (.putfield 55, 3) := by decide +kernel
theorem dX4_countHours_10 : decode cX4_countHours 10 = .ok (.return_, 1) := by decide +kernel
theorem dX4_hasPlace_0 : decode cX4_hasPlace 0 = .ok (.iload_n 1, 1) := by decide +kernel
theorem dX4_hasPlace_1 : decode cX4_hasPlace 1 = .ok (.ifCond .lt 27, 3) := by decide +kernel
theorem dX4_hasPlace_4 : decode cX4_hasPlace 4 = .ok (.iload_n 1, 1) := by decide +kernel
theorem dX4_hasPlace_5 : decode cX4_hasPlace 5 = .ok (.aload_n 0, 1) := by decide +kernel
theorem dX4_hasPlace_6 : decode cX4_hasPlace 6 = .ok (.getfield 9, 3) := by decide +kernel
theorem dX4_hasPlace_9 : decode cX4_hasPlace 9 = .ok (.if_icmp .ge 19, 3) := by decide +kernel
theorem dX4_hasPlace_12 : decode cX4_hasPlace 12 = .ok (.iload_n 2, 1) := by decide +kernel
theorem dX4_hasPlace_13 : decode cX4_hasPlace 13 = .ok (.ifCond .lt 15, 3) := by decide +kernel
theorem dX4_hasPlace_16 : decode cX4_hasPlace 16 = .ok (.iload_n 2, 1) := by decide +kernel
theorem dX4_hasPlace_17 : decode cX4_hasPlace 17 = .ok (.aload_n 0, 1) := by decide +kernel
theorem dX4_hasPlace_18 : decode cX4_hasPlace 18 = .ok (.getfield 15, 3) := by decide +kernel
theorem dX4_hasPlace_21 : decode cX4_hasPlace 21 = .ok (.if_icmp .ge 7, 3) := by decide +kernel
theorem dX4_hasPlace_24 : decode cX4_hasPlace 24 = .ok (.iconst 1, 1) := by decide +kernel
theorem dX4_hasPlace_25 : decode cX4_hasPlace 25 = .ok (.goto 4, 3) := by decide +kernel
theorem dX4_hasPlace_28 : decode cX4_hasPlace 28 = .ok (.iconst 0, 1) := by decide +kernel
theorem dX4_hasPlace_29 : decode cX4_hasPlace 29 = .ok (.ireturn, 1) := by decide +kernel
theorem dX4_hasLamp_0 : decode cX4_hasLamp 0 = .ok (.iload_n 1, 1) := by decide +kernel
theorem dX4_hasLamp_1 : decode cX4_hasLamp 1 = .ok (.ifCond .lt 15, 3) := by decide +kernel
theorem dX4_hasLamp_4 : decode cX4_hasLamp 4 = .ok (.iload_n 1, 1) := by decide +kernel
theorem dX4_hasLamp_5 : decode cX4_hasLamp 5 = .ok (.aload_n 0, 1) := by decide +kernel
theorem dX4_hasLamp_6 : decode cX4_hasLamp 6 = .ok (.getfield 58, 3) := by decide +kernel
theorem dX4_hasLamp_9 : decode cX4_hasLamp 9 = .ok (.if_icmp .ge 7, 3) := by decide +kernel
theorem dX4_hasLamp_12 : decode cX4_hasLamp 12 = .ok (.iconst 1, 1) := by decide +kernel
theorem dX4_hasLamp_13 : decode cX4_hasLamp 13 = .ok (.goto 4, 3) := by decide +kernel
theorem dX4_hasLamp_16 : decode cX4_hasLamp 16 = .ok (.iconst 0, 1) := by decide +kernel
theorem dX4_hasLamp_17 : decode cX4_hasLamp 17 = .ok (.ireturn, 1) := by decide +kernel
theorem dX4_placeCount_0 : decode cX4_placeCount 0 = .ok (.aload_n 0, 1) := by decide +kernel
theorem dX4_placeCount_1 : decode cX4_placeCount 1 = .ok (.getfield 9, 3) := by decide +kernel
theorem dX4_placeCount_4 : decode cX4_placeCount 4 = .ok (.aload_n 0, 1) := by decide +kernel
theorem dX4_placeCount_5 : decode cX4_placeCount 5 = .ok (.getfield 15, 3) := by decide +kernel
theorem dX4_placeCount_8 : decode cX4_placeCount 8 = .ok (.imul, 1) := by decide +kernel
theorem dX4_placeCount_9 : decode cX4_placeCount 9 = .ok (.ireturn, 1) := by decide +kernel
theorem dX4_indexOfPlace_0 : decode cX4_indexOfPlace 0 = .ok (.iload_n 2, 1) := by decide +kernel
theorem dX4_indexOfPlace_1 : decode cX4_indexOfPlace 1 = .ok (.aload_n 0, 1) := by decide +kernel
theorem dX4_indexOfPlace_2 : decode cX4_indexOfPlace 2 = .ok (.getfield 9, 3) := by decide +kernel
theorem dX4_indexOfPlace_5 : decode cX4_indexOfPlace 5 = .ok (.imul, 1) := by decide +kernel
theorem dX4_indexOfPlace_6 : decode cX4_indexOfPlace 6 = .ok (.iload_n 1, 1) := by decide +kernel
theorem dX4_indexOfPlace_7 : decode cX4_indexOfPlace 7 = .ok (.iadd, 1) := by decide +kernel
theorem dX4_indexOfPlace_8 : decode cX4_indexOfPlace 8 = .ok (.ireturn, 1) := by decide +kernel
theorem dX4_targetAt_0 : decode cX4_targetAt 0 = .ok (.aload_n 0, 1) := by decide +kernel
theorem dX4_targetAt_1 : decode cX4_targetAt 1 = .ok (.getfield 27, 3) := by decide +kernel
theorem dX4_targetAt_4 : decode cX4_targetAt 4 = .ok (.iload_n 1, 1) := by decide +kernel
theorem dX4_targetAt_5 : decode cX4_targetAt 5 = .ok (.invokevirtual 72, 3) := by decide +kernel
theorem dX4_targetAt_8 : decode cX4_targetAt 8 = .ok (.ireturn, 1) := by decide +kernel
theorem dX4_sumOfTargets_0 : decode cX4_sumOfTargets 0 = .ok (.iconst 0, 1) := by decide +kernel
theorem dX4_sumOfTargets_1 : decode cX4_sumOfTargets 1 = .ok (.istore_n 1, 1) := by decide +kernel
theorem dX4_sumOfTargets_2 : decode cX4_sumOfTargets 2 = .ok (.iconst 0, 1) := by decide +kernel
theorem dX4_sumOfTargets_3 : decode cX4_sumOfTargets 3 = .ok (.istore_n 2, 1) := by decide +kernel
theorem dX4_sumOfTargets_4 : decode cX4_sumOfTargets 4 = .ok (.iload_n 2, 1) := by decide +kernel
theorem dX4_sumOfTargets_5 : decode cX4_sumOfTargets 5 = .ok (.aload_n 0, 1) := by decide +kernel
theorem dX4_sumOfTargets_6 : decode cX4_sumOfTargets 6 = .ok (.getfield 9, 3) := by decide +kernel
theorem dX4_sumOfTargets_9 : decode cX4_sumOfTargets 9 = .ok (.aload_n 0, 1) := by decide +kernel
theorem dX4_sumOfTargets_10 : decode cX4_sumOfTargets 10 = .ok (.getfield 15, 3) := by decide +kernel
theorem dX4_sumOfTargets_13 : decode cX4_sumOfTargets 13 = .ok (.imul, 1) := by decide +kernel
theorem dX4_sumOfTargets_14 : decode cX4_sumOfTargets 14 = .ok (.if_icmp .ge 20, 3) := by decide +kernel
theorem dX4_sumOfTargets_17 : decode cX4_sumOfTargets 17 = .ok (.iload_n 1, 1) := by decide +kernel
theorem dX4_sumOfTargets_18 : decode cX4_sumOfTargets 18 = .ok (.aload_n 0, 1) := by decide +kernel
theorem dX4_sumOfTargets_19 : decode cX4_sumOfTargets 19 = .ok (.getfield 27, 3) := by decide +kernel
theorem dX4_sumOfTargets_22 : decode cX4_sumOfTargets 22 = .ok (.iload_n 2, 1) := by decide +kernel
theorem dX4_sumOfTargets_23 : decode cX4_sumOfTargets 23 = .ok (.invokevirtual 72, 3) := by decide +kernel
theorem dX4_sumOfTargets_26 : decode cX4_sumOfTargets 26 = .ok (.iadd, 1) := by decide +kernel
theorem dX4_sumOfTargets_27 : decode cX4_sumOfTargets 27 = .ok (.istore_n 1, 1) := by decide +kernel
theorem dX4_sumOfTargets_28 : decode cX4_sumOfTargets 28 = .ok (.iinc 2 1, 3) := by decide +kernel
theorem dX4_sumOfTargets_31 : decode cX4_sumOfTargets 31 = .ok (.goto (-27), 3) := by decide +kernel
theorem dX4_sumOfTargets_34 : decode cX4_sumOfTargets 34 = .ok (.iload_n 1, 1) := by decide +kernel
theorem dX4_sumOfTargets_35 : decode cX4_sumOfTargets 35 = .ok (.ireturn, 1) := by decide +kernel
theorem dX4_cornerValue_0 : decode cX4_cornerValue 0 = .ok (.iload_n 3, 1) := by decide +kernel
theorem dX4_cornerValue_1 : decode cX4_cornerValue 1 = .ok (.ifCond .ne 18, 3) := by decide +kernel
theorem dX4_cornerValue_4 : decode cX4_cornerValue 4 = .ok (.aload_n 0, 1) := by decide +kernel
theorem dX4_cornerValue_5 : decode cX4_cornerValue 5 = .ok (.getfield 43, 3) := by decide +kernel
theorem dX4_cornerValue_8 : decode cX4_cornerValue 8 = .ok (.iconst 4, 1) := by decide +kernel
theorem dX4_cornerValue_9 : decode cX4_cornerValue 9 = .ok (.iload_n 1, 1) := by decide +kernel
theorem dX4_cornerValue_10 : decode cX4_cornerValue 10 = .ok (.imul, 1) := by decide +kernel
theorem dX4_cornerValue_11 : decode cX4_cornerValue 11 = .ok (.iload_n 2, 1) := by decide +kernel
theorem dX4_cornerValue_12 : decode cX4_cornerValue 12 = .ok (.iadd, 1) := by decide +kernel
theorem dX4_cornerValue_13 : decode cX4_cornerValue 13 = .ok (.invokevirtual 72, 3) := by decide +kernel
theorem dX4_cornerValue_16 : decode cX4_cornerValue 16 = .ok (.goto 15, 3) := by decide +kernel
theorem dX4_cornerValue_19 : decode cX4_cornerValue 19 = .ok (.aload_n 0, 1) := by decide +kernel
theorem dX4_cornerValue_20 : decode cX4_cornerValue 20 = .ok (.getfield 46, 3) := by decide +kernel
theorem dX4_cornerValue_23 : decode cX4_cornerValue 23 = .ok (.iconst 4, 1) := by decide +kernel
theorem dX4_cornerValue_24 : decode cX4_cornerValue 24 = .ok (.iload_n 1, 1) := by decide +kernel
theorem dX4_cornerValue_25 : decode cX4_cornerValue 25 = .ok (.imul, 1) := by decide +kernel
theorem dX4_cornerValue_26 : decode cX4_cornerValue 26 = .ok (.iload_n 2, 1) := by decide +kernel
theorem dX4_cornerValue_27 : decode cX4_cornerValue 27 = .ok (.iadd, 1) := by decide +kernel
theorem dX4_cornerValue_28 : decode cX4_cornerValue 28 = .ok (.invokevirtual 72, 3) := by decide +kernel
theorem dX4_cornerValue_31 : decode cX4_cornerValue 31 = .ok (.ireturn, 1) := by decide +kernel
theorem dX4_isWorking_0 : decode cX4_isWorking 0 = .ok (.aload_n 0, 1) := by decide +kernel
theorem dX4_isWorking_1 : decode cX4_isWorking 1 = .ok (.getfield 40, 3) := by decide +kernel
theorem dX4_isWorking_4 : decode cX4_isWorking 4 = .ok (.iload_n 1, 1) := by decide +kernel
theorem dX4_isWorking_5 : decode cX4_isWorking 5 = .ok (.invokevirtual 72, 3) := by decide +kernel
theorem dX4_isWorking_8 : decode cX4_isWorking 8 = .ok (.iconst 1, 1) := by decide +kernel
theorem dX4_isWorking_9 : decode cX4_isWorking 9 = .ok (.if_icmp .ne 7, 3) := by decide +kernel
theorem dX4_isWorking_12 : decode cX4_isWorking 12 = .ok (.iconst 1, 1) := by decide +kernel
theorem dX4_isWorking_13 : decode cX4_isWorking 13 = .ok (.goto 4, 3) := by decide +kernel
theorem dX4_isWorking_16 : decode cX4_isWorking 16 = .ok (.iconst 0, 1) := by decide +kernel
theorem dX4_isWorking_17 : decode cX4_isWorking 17 = .ok (.ireturn, 1) := by decide +kernel
theorem dX4_workingLamps_0 : decode cX4_workingLamps 0 = .ok (.iconst 0, 1) := by decide +kernel
theorem dX4_workingLamps_1 : decode cX4_workingLamps 1 = .ok (.istore_n 1, 1) := by decide +kernel
theorem dX4_workingLamps_2 : decode cX4_workingLamps 2 = .ok (.iconst 0, 1) := by decide +kernel
theorem dX4_workingLamps_3 : decode cX4_workingLamps 3 = .ok (.istore_n 2, 1) := by decide +kernel
theorem dX4_workingLamps_4 : decode cX4_workingLamps 4 = .ok (.iload_n 2, 1) := by decide +kernel
theorem dX4_workingLamps_5 : decode cX4_workingLamps 5 = .ok (.aload_n 0, 1) := by decide +kernel
theorem dX4_workingLamps_6 : decode cX4_workingLamps 6 = .ok (.getfield 58, 3) := by decide +kernel
theorem dX4_workingLamps_9 : decode cX4_workingLamps 9 = .ok (.if_icmp .ge 20, 3) := by decide +kernel
theorem dX4_workingLamps_12 : decode cX4_workingLamps 12 = .ok (.iload_n 1, 1) := by decide +kernel
theorem dX4_workingLamps_13 : decode cX4_workingLamps 13 = .ok (.aload_n 0, 1) := by decide +kernel
theorem dX4_workingLamps_14 : decode cX4_workingLamps 14 = .ok (.getfield 40, 3) := by decide +kernel
theorem dX4_workingLamps_17 : decode cX4_workingLamps 17 = .ok (.iload_n 2, 1) := by decide +kernel
theorem dX4_workingLamps_18 : decode cX4_workingLamps 18 = .ok (.invokevirtual 72, 3) := by decide +kernel
theorem dX4_workingLamps_21 : decode cX4_workingLamps 21 = .ok (.iadd, 1) := by decide +kernel
theorem dX4_workingLamps_22 : decode cX4_workingLamps 22 = .ok (.istore_n 1, 1) := by decide +kernel
theorem dX4_workingLamps_23 : decode cX4_workingLamps 23 = .ok (.iinc 2 1, 3) := by decide +kernel
theorem dX4_workingLamps_26 : decode cX4_workingLamps 26 = .ok (.goto (-22), 3) := by decide +kernel
theorem dX4_workingLamps_29 : decode cX4_workingLamps 29 = .ok (.iload_n 1, 1) := by decide +kernel
theorem dX4_workingLamps_30 : decode cX4_workingLamps 30 = .ok (.ireturn, 1) := by decide +kernel
theorem dX4_greatestWear_0 : decode cX4_greatestWear 0 = .ok (.iconst 0, 1) := by decide +kernel
theorem dX4_greatestWear_1 : decode cX4_greatestWear 1 = .ok (.istore_n 1, 1) := by decide +kernel
theorem dX4_greatestWear_2 : decode cX4_greatestWear 2 = .ok (.iconst 0, 1) := by decide +kernel
theorem dX4_greatestWear_3 : decode cX4_greatestWear 3 = .ok (.istore_n 2, 1) := by decide +kernel
theorem dX4_greatestWear_4 : decode cX4_greatestWear 4 = .ok (.iload_n 2, 1) := by decide +kernel
theorem dX4_greatestWear_5 : decode cX4_greatestWear 5 = .ok (.aload_n 0, 1) := by decide +kernel
theorem dX4_greatestWear_6 : decode cX4_greatestWear 6 = .ok (.getfield 58, 3) := by decide +kernel
theorem dX4_greatestWear_9 : decode cX4_greatestWear 9 = .ok (.if_icmp .ge 22, 3) := by decide +kernel
theorem dX4_greatestWear_12 : decode cX4_greatestWear 12 = .ok (.iload_n 1, 1) := by decide +kernel
theorem dX4_greatestWear_13 : decode cX4_greatestWear 13 = .ok (.aload_n 0, 1) := by decide +kernel
theorem dX4_greatestWear_14 : decode cX4_greatestWear 14 = .ok (.getfield 37, 3) := by decide +kernel
theorem dX4_greatestWear_17 : decode cX4_greatestWear 17 = .ok (.iload_n 2, 1) := by decide +kernel
theorem dX4_greatestWear_18 : decode cX4_greatestWear 18 = .ok (.invokevirtual 72, 3) := by decide +kernel
theorem dX4_greatestWear_21 : decode cX4_greatestWear 21 = .ok (.invokestatic 89, 3) := by decide +kernel
theorem dX4_greatestWear_24 : decode cX4_greatestWear 24 = .ok (.istore_n 1, 1) := by decide +kernel
theorem dX4_greatestWear_25 : decode cX4_greatestWear 25 = .ok (.iinc 2 1, 3) := by decide +kernel
theorem dX4_greatestWear_28 : decode cX4_greatestWear 28 = .ok (.goto (-24), 3) := by decide +kernel
theorem dX4_greatestWear_31 : decode cX4_greatestWear 31 = .ok (.iload_n 1, 1) := by decide +kernel
theorem dX4_greatestWear_32 : decode cX4_greatestWear 32 = .ok (.ireturn, 1) := by decide +kernel
theorem dX4_limitOf_0 : decode cX4_limitOf 0 = .ok (.aload_n 0, 1) := by decide +kernel
theorem dX4_limitOf_1 : decode cX4_limitOf 1 = .ok (.getfield 31, 3) := by decide +kernel
theorem dX4_limitOf_4 : decode cX4_limitOf 4 = .ok (.iload_n 1, 1) := by decide +kernel
theorem dX4_limitOf_5 : decode cX4_limitOf 5 = .ok (.invokevirtual 72, 3) := by decide +kernel
theorem dX4_limitOf_8 : decode cX4_limitOf 8 = .ok (.sipush 1000, 3) := by decide +kernel
theorem dX4_limitOf_11 : decode cX4_limitOf 11 = .ok (.aload_n 0, 1) := by decide +kernel
theorem dX4_limitOf_12 : decode cX4_limitOf 12 = .ok (.getfield 37, 3) := by decide +kernel
theorem dX4_limitOf_15 : decode cX4_limitOf 15 = .ok (.iload_n 1, 1) := by decide +kernel
theorem dX4_limitOf_16 : decode cX4_limitOf 16 = .ok (.invokevirtual 72, 3) := by decide +kernel
theorem dX4_limitOf_19 : decode cX4_limitOf 19 = .ok (.isub, 1) := by decide +kernel
theorem dX4_limitOf_20 : decode cX4_limitOf 20 = .ok (.imul, 1) := by decide +kernel
theorem dX4_limitOf_21 : decode cX4_limitOf 21 = .ok (.sipush 1000, 3) := by decide +kernel
theorem dX4_limitOf_24 : decode cX4_limitOf 24 = .ok (.idiv, 1) := by decide +kernel
theorem dX4_limitOf_25 : decode cX4_limitOf 25 = .ok (.ireturn, 1) := by decide +kernel
theorem dX4_floorOf_0 : decode cX4_floorOf 0 = .ok (.aload_n 0, 1) := by decide +kernel
theorem dX4_floorOf_1 : decode cX4_floorOf 1 = .ok (.getfield 34, 3) := by decide +kernel
theorem dX4_floorOf_4 : decode cX4_floorOf 4 = .ok (.iload_n 1, 1) := by decide +kernel
theorem dX4_floorOf_5 : decode cX4_floorOf 5 = .ok (.invokevirtual 72, 3) := by decide +kernel
theorem dX4_floorOf_8 : decode cX4_floorOf 8 = .ok (.aload_n 0, 1) := by decide +kernel
theorem dX4_floorOf_9 : decode cX4_floorOf 9 = .ok (.iload_n 1, 1) := by decide +kernel
theorem dX4_floorOf_10 : decode cX4_floorOf 10 = .ok (.invokevirtual 92, 3) := by decide +kernel
theorem dX4_floorOf_13 : decode cX4_floorOf 13 = .ok (.invokestatic 84, 3) := by decide +kernel
theorem dX4_floorOf_16 : decode cX4_floorOf 16 = .ok (.ireturn, 1) := by decide +kernel
theorem dX4_sumOfLimits_0 : decode cX4_sumOfLimits 0 = .ok (.iconst 0, 1) := by decide +kernel
theorem dX4_sumOfLimits_1 : decode cX4_sumOfLimits 1 = .ok (.istore_n 2, 1) := by decide +kernel
theorem dX4_sumOfLimits_2 : decode cX4_sumOfLimits 2 = .ok (.iconst 0, 1) := by decide +kernel
theorem dX4_sumOfLimits_3 : decode cX4_sumOfLimits 3 = .ok (.istore_n 3, 1) := by decide +kernel
theorem dX4_sumOfLimits_4 : decode cX4_sumOfLimits 4 = .ok (.iload_n 3, 1) := by decide +kernel
theorem dX4_sumOfLimits_5 : decode cX4_sumOfLimits 5 = .ok (.aload_n 0, 1) := by decide +kernel
theorem dX4_sumOfLimits_6 : decode cX4_sumOfLimits 6 = .ok (.getfield 58, 3) := by decide +kernel
theorem dX4_sumOfLimits_9 : decode cX4_sumOfLimits 9 = .ok (.if_icmp .ge 29, 3) := by decide +kernel
theorem dX4_sumOfLimits_12 : decode cX4_sumOfLimits 12 = .ok (.iload_n 2, 1) := by decide +kernel
theorem dX4_sumOfLimits_13 : decode cX4_sumOfLimits 13 = .ok (.iload_n 3, 1) := by decide +kernel
theorem dX4_sumOfLimits_14 : decode cX4_sumOfLimits 14 = .ok (.iload_n 1, 1) := by decide +kernel
theorem dX4_sumOfLimits_15 : decode cX4_sumOfLimits 15 = .ok (.invokestatic 95, 3) := by decide +kernel
theorem dX4_sumOfLimits_18 : decode cX4_sumOfLimits 18 = .ok (.ifCond .eq 11, 3) := by decide +kernel
theorem dX4_sumOfLimits_21 : decode cX4_sumOfLimits 21 = .ok (.aload_n 0, 1) := by decide +kernel
theorem dX4_sumOfLimits_22 : decode cX4_sumOfLimits 22 = .ok (.iload_n 3, 1) := by decide +kernel
theorem dX4_sumOfLimits_23 : decode cX4_sumOfLimits 23 = .ok (.invokevirtual 92, 3) := by decide +kernel
theorem dX4_sumOfLimits_26 : decode cX4_sumOfLimits 26 = .ok (.goto 4, 3) := by decide +kernel
theorem dX4_sumOfLimits_29 : decode cX4_sumOfLimits 29 = .ok (.iconst 0, 1) := by decide +kernel
theorem dX4_sumOfLimits_30 : decode cX4_sumOfLimits 30 = .ok (.iadd, 1) := by decide +kernel
theorem dX4_sumOfLimits_31 : decode cX4_sumOfLimits 31 = .ok (.istore_n 2, 1) := by decide +kernel
theorem dX4_sumOfLimits_32 : decode cX4_sumOfLimits 32 = .ok (.iinc 3 1, 3) := by decide +kernel
theorem dX4_sumOfLimits_35 : decode cX4_sumOfLimits 35 = .ok (.goto (-31), 3) := by decide +kernel
theorem dX4_sumOfLimits_38 : decode cX4_sumOfLimits 38 = .ok (.iload_n 2, 1) := by decide +kernel
theorem dX4_sumOfLimits_39 : decode cX4_sumOfLimits 39 = .ok (.ireturn, 1) := by decide +kernel
theorem dX4_sumOfFloors_0 : decode cX4_sumOfFloors 0 = .ok (.iconst 0, 1) := by decide +kernel
theorem dX4_sumOfFloors_1 : decode cX4_sumOfFloors 1 = .ok (.istore_n 2, 1) := by decide +kernel
theorem dX4_sumOfFloors_2 : decode cX4_sumOfFloors 2 = .ok (.iconst 0, 1) := by decide +kernel
theorem dX4_sumOfFloors_3 : decode cX4_sumOfFloors 3 = .ok (.istore_n 3, 1) := by decide +kernel
theorem dX4_sumOfFloors_4 : decode cX4_sumOfFloors 4 = .ok (.iload_n 3, 1) := by decide +kernel
theorem dX4_sumOfFloors_5 : decode cX4_sumOfFloors 5 = .ok (.aload_n 0, 1) := by decide +kernel
theorem dX4_sumOfFloors_6 : decode cX4_sumOfFloors 6 = .ok (.getfield 58, 3) := by decide +kernel
theorem dX4_sumOfFloors_9 : decode cX4_sumOfFloors 9 = .ok (.if_icmp .ge 29, 3) := by decide +kernel
theorem dX4_sumOfFloors_12 : decode cX4_sumOfFloors 12 = .ok (.iload_n 2, 1) := by decide +kernel
theorem dX4_sumOfFloors_13 : decode cX4_sumOfFloors 13 = .ok (.iload_n 3, 1) := by decide +kernel
theorem dX4_sumOfFloors_14 : decode cX4_sumOfFloors 14 = .ok (.iload_n 1, 1) := by decide +kernel
theorem dX4_sumOfFloors_15 : decode cX4_sumOfFloors 15 = .ok (.invokestatic 95, 3) := by decide +kernel
theorem dX4_sumOfFloors_18 : decode cX4_sumOfFloors 18 = .ok (.ifCond .eq 11, 3) := by decide +kernel
theorem dX4_sumOfFloors_21 : decode cX4_sumOfFloors 21 = .ok (.aload_n 0, 1) := by decide +kernel
theorem dX4_sumOfFloors_22 : decode cX4_sumOfFloors 22 = .ok (.iload_n 3, 1) := by decide +kernel
theorem dX4_sumOfFloors_23 : decode cX4_sumOfFloors 23 = .ok (.invokevirtual 99, 3) := by decide +kernel
theorem dX4_sumOfFloors_26 : decode cX4_sumOfFloors 26 = .ok (.goto 4, 3) := by decide +kernel
theorem dX4_sumOfFloors_29 : decode cX4_sumOfFloors 29 = .ok (.iconst 0, 1) := by decide +kernel
theorem dX4_sumOfFloors_30 : decode cX4_sumOfFloors 30 = .ok (.iadd, 1) := by decide +kernel
theorem dX4_sumOfFloors_31 : decode cX4_sumOfFloors 31 = .ok (.istore_n 2, 1) := by decide +kernel
theorem dX4_sumOfFloors_32 : decode cX4_sumOfFloors 32 = .ok (.iinc 3 1, 3) := by decide +kernel
theorem dX4_sumOfFloors_35 : decode cX4_sumOfFloors 35 = .ok (.goto (-31), 3) := by decide +kernel
theorem dX4_sumOfFloors_38 : decode cX4_sumOfFloors 38 = .ok (.iload_n 2, 1) := by decide +kernel
theorem dX4_sumOfFloors_39 : decode cX4_sumOfFloors 39 = .ok (.ireturn, 1) := by decide +kernel
theorem dX4_isGood_0 : decode cX4_isGood 0 = .ok (.iconst 0, 1) := by decide +kernel
theorem dX4_isGood_1 : decode cX4_isGood 1 = .ok (.istore_n 2, 1) := by decide +kernel
theorem dX4_isGood_2 : decode cX4_isGood 2 = .ok (.iconst 0, 1) := by decide +kernel
theorem dX4_isGood_3 : decode cX4_isGood 3 = .ok (.istore_n 3, 1) := by decide +kernel
theorem dX4_isGood_4 : decode cX4_isGood 4 = .ok (.iload_n 3, 1) := by decide +kernel
theorem dX4_isGood_5 : decode cX4_isGood 5 = .ok (.iconst 4, 1) := by decide +kernel
theorem dX4_isGood_6 : decode cX4_isGood 6 = .ok (.if_icmp .ge 148, 3) := by decide +kernel
theorem dX4_isGood_9 : decode cX4_isGood 9 = .ok (.iconst 4, 1) := by decide +kernel
theorem dX4_isGood_10 : decode cX4_isGood 10 = .ok (.iload_n 1, 1) := by decide +kernel
theorem dX4_isGood_11 : decode cX4_isGood 11 = .ok (.imul, 1) := by decide +kernel
theorem dX4_isGood_12 : decode cX4_isGood 12 = .ok (.iload_n 3, 1) := by decide +kernel
theorem dX4_isGood_13 : decode cX4_isGood 13 = .ok (.iadd, 1) := by decide +kernel
theorem dX4_isGood_14 : decode cX4_isGood 14 = .ok (.istore 4, 2) := by decide +kernel
theorem dX4_isGood_16 : decode cX4_isGood 16 = .ok (.iconst 4, 1) := by decide +kernel
theorem dX4_isGood_17 : decode cX4_isGood 17 = .ok (.iload_n 1, 1) := by decide +kernel
theorem dX4_isGood_18 : decode cX4_isGood 18 = .ok (.imul, 1) := by decide +kernel
theorem dX4_isGood_19 : decode cX4_isGood 19 = .ok (.iload_n 3, 1) := by decide +kernel
theorem dX4_isGood_20 : decode cX4_isGood 20 = .ok (.iconst 1, 1) := by decide +kernel
theorem dX4_isGood_21 : decode cX4_isGood 21 = .ok (.iadd, 1) := by decide +kernel
theorem dX4_isGood_22 : decode cX4_isGood 22 = .ok (.iconst 4, 1) := by decide +kernel
theorem dX4_isGood_23 : decode cX4_isGood 23 = .ok (.irem, 1) := by decide +kernel
theorem dX4_isGood_24 : decode cX4_isGood 24 = .ok (.iadd, 1) := by decide +kernel
theorem dX4_isGood_25 : decode cX4_isGood 25 = .ok (.istore 5, 2) := by decide +kernel
theorem dX4_isGood_27 : decode cX4_isGood 27 = .ok (.iconst 4, 1) := by decide +kernel
theorem dX4_isGood_28 : decode cX4_isGood 28 = .ok (.iload_n 1, 1) := by decide +kernel
theorem dX4_isGood_29 : decode cX4_isGood 29 = .ok (.imul, 1) := by decide +kernel
theorem dX4_isGood_30 : decode cX4_isGood 30 = .ok (.iload_n 3, 1) := by decide +kernel
theorem dX4_isGood_31 : decode cX4_isGood 31 = .ok (.iconst 2, 1) := by decide +kernel
theorem dX4_isGood_32 : decode cX4_isGood 32 = .ok (.iadd, 1) := by decide +kernel
theorem dX4_isGood_33 : decode cX4_isGood 33 = .ok (.iconst 4, 1) := by decide +kernel
theorem dX4_isGood_34 : decode cX4_isGood 34 = .ok (.irem, 1) := by decide +kernel
theorem dX4_isGood_35 : decode cX4_isGood 35 = .ok (.iadd, 1) := by decide +kernel
theorem dX4_isGood_36 : decode cX4_isGood 36 = .ok (.istore 6, 2) := by decide +kernel
theorem dX4_isGood_38 : decode cX4_isGood 38 = .ok (.aload_n 0, 1) := by decide +kernel
theorem dX4_isGood_39 : decode cX4_isGood 39 = .ok (.getfield 43, 3) := by decide +kernel
theorem dX4_isGood_42 : decode cX4_isGood 42 = .ok (.iload 5, 2) := by decide +kernel
theorem dX4_isGood_44 : decode cX4_isGood 44 = .ok (.invokevirtual 72, 3) := by decide +kernel
theorem dX4_isGood_47 : decode cX4_isGood 47 = .ok (.istore 7, 2) := by decide +kernel
theorem dX4_isGood_49 : decode cX4_isGood 49 = .ok (.aload_n 0, 1) := by decide +kernel
theorem dX4_isGood_50 : decode cX4_isGood 50 = .ok (.getfield 46, 3) := by decide +kernel
theorem dX4_isGood_53 : decode cX4_isGood 53 = .ok (.iload 5, 2) := by decide +kernel
theorem dX4_isGood_55 : decode cX4_isGood 55 = .ok (.invokevirtual 72, 3) := by decide +kernel
theorem dX4_isGood_58 : decode cX4_isGood 58 = .ok (.istore 8, 2) := by decide +kernel
theorem dX4_isGood_60 : decode cX4_isGood 60 = .ok (.iload 7, 2) := by decide +kernel
theorem dX4_isGood_62 : decode cX4_isGood 62 = .ok (.aload_n 0, 1) := by decide +kernel
theorem dX4_isGood_63 : decode cX4_isGood 63 = .ok (.getfield 43, 3) := by decide +kernel
theorem dX4_isGood_66 : decode cX4_isGood 66 = .ok (.iload 4, 2) := by decide +kernel
theorem dX4_isGood_68 : decode cX4_isGood 68 = .ok (.invokevirtual 72, 3) := by decide +kernel
theorem dX4_isGood_71 : decode cX4_isGood 71 = .ok (.isub, 1) := by decide +kernel
theorem dX4_isGood_72 : decode cX4_isGood 72 = .ok (.iload 8, 2) := by decide +kernel
theorem dX4_isGood_74 : decode cX4_isGood 74 = .ok (.aload_n 0, 1) := by decide +kernel
theorem dX4_isGood_75 : decode cX4_isGood 75 = .ok (.getfield 46, 3) := by decide +kernel
theorem dX4_isGood_78 : decode cX4_isGood 78 = .ok (.iload 4, 2) := by decide +kernel
theorem dX4_isGood_80 : decode cX4_isGood 80 = .ok (.invokevirtual 72, 3) := by decide +kernel
theorem dX4_isGood_83 : decode cX4_isGood 83 = .ok (.isub, 1) := by decide +kernel
theorem dX4_isGood_84 : decode cX4_isGood 84 = .ok (.aload_n 0, 1) := by decide +kernel
theorem dX4_isGood_85 : decode cX4_isGood 85 = .ok (.getfield 43, 3) := by decide +kernel
theorem dX4_isGood_88 : decode cX4_isGood 88 = .ok (.iload 6, 2) := by decide +kernel
theorem dX4_isGood_90 : decode cX4_isGood 90 = .ok (.invokevirtual 72, 3) := by decide +kernel
theorem dX4_isGood_93 : decode cX4_isGood 93 = .ok (.iload 7, 2) := by decide +kernel
theorem dX4_isGood_95 : decode cX4_isGood 95 = .ok (.isub, 1) := by decide +kernel
theorem dX4_isGood_96 : decode cX4_isGood 96 = .ok (.aload_n 0, 1) := by decide +kernel
theorem dX4_isGood_97 : decode cX4_isGood 97 = .ok (.getfield 46, 3) := by decide +kernel
theorem dX4_isGood_100 : decode cX4_isGood 100 = .ok (.iload 6, 2) := by decide +kernel
theorem dX4_isGood_102 : decode cX4_isGood 102 = .ok (.invokevirtual 72, 3) := by decide +kernel
theorem dX4_isGood_105 : decode cX4_isGood 105 = .ok (.iload 8, 2) := by decide +kernel
theorem dX4_isGood_107 : decode cX4_isGood 107 = .ok (.isub, 1) := by decide +kernel
theorem dX4_isGood_108 : decode cX4_isGood 108 = .ok (.invokestatic 102, 3) := by decide +kernel
theorem dX4_isGood_111 : decode cX4_isGood 111 = .ok (.istore 9, 2) := by decide +kernel
theorem dX4_isGood_113 : decode cX4_isGood 113 = .ok (.iload 9, 2) := by decide +kernel
theorem dX4_isGood_115 : decode cX4_isGood 115 = .ok (.ifCond .ge 5, 3) := by decide +kernel
theorem dX4_isGood_118 : decode cX4_isGood 118 = .ok (.iconst 0, 1) := by decide +kernel
theorem dX4_isGood_119 : decode cX4_isGood 119 = .ok (.ireturn, 1) := by decide +kernel
theorem dX4_isGood_120 : decode cX4_isGood 120 = .ok (.iload_n 2, 1) := by decide +kernel
theorem dX4_isGood_121 : decode cX4_isGood 121 = .ok (.aload_n 0, 1) := by decide +kernel
theorem dX4_isGood_122 : decode cX4_isGood 122 = .ok (.getfield 43, 3) := by decide +kernel
theorem dX4_isGood_125 : decode cX4_isGood 125 = .ok (.iload 4, 2) := by decide +kernel
theorem dX4_isGood_127 : decode cX4_isGood 127 = .ok (.invokevirtual 72, 3) := by decide +kernel
theorem dX4_isGood_130 : decode cX4_isGood 130 = .ok (.aload_n 0, 1) := by decide +kernel
theorem dX4_isGood_131 : decode cX4_isGood 131 = .ok (.getfield 46, 3) := by decide +kernel
theorem dX4_isGood_134 : decode cX4_isGood 134 = .ok (.iload 4, 2) := by decide +kernel
theorem dX4_isGood_136 : decode cX4_isGood 136 = .ok (.invokevirtual 72, 3) := by decide +kernel
theorem dX4_isGood_139 : decode cX4_isGood 139 = .ok (.iload 7, 2) := by decide +kernel
theorem dX4_isGood_141 : decode cX4_isGood 141 = .ok (.iload 8, 2) := by decide +kernel
theorem dX4_isGood_143 : decode cX4_isGood 143 = .ok (.invokestatic 102, 3) := by decide +kernel
theorem dX4_isGood_146 : decode cX4_isGood 146 = .ok (.iadd, 1) := by decide +kernel
theorem dX4_isGood_147 : decode cX4_isGood 147 = .ok (.istore_n 2, 1) := by decide +kernel
theorem dX4_isGood_148 : decode cX4_isGood 148 = .ok (.iinc 3 1, 3) := by decide +kernel
theorem dX4_isGood_151 : decode cX4_isGood 151 = .ok (.goto (-147), 3) := by decide +kernel
theorem dX4_isGood_154 : decode cX4_isGood 154 = .ok (.iload_n 2, 1) := by decide +kernel
theorem dX4_isGood_155 : decode cX4_isGood 155 = .ok (.ifCond .le 7, 3) := by decide +kernel
theorem dX4_isGood_158 : decode cX4_isGood 158 = .ok (.iconst 1, 1) := by decide +kernel
theorem dX4_isGood_159 : decode cX4_isGood 159 = .ok (.goto 4, 3) := by decide +kernel
theorem dX4_isGood_162 : decode cX4_isGood 162 = .ok (.iconst 0, 1) := by decide +kernel
theorem dX4_isGood_163 : decode cX4_isGood 163 = .ok (.ireturn, 1) := by decide +kernel
theorem dX4_shiningLamps_0 : decode cX4_shiningLamps 0 = .ok (.iconst 0, 1) := by decide +kernel
theorem dX4_shiningLamps_1 : decode cX4_shiningLamps 1 = .ok (.istore_n 1, 1) := by decide +kernel
theorem dX4_shiningLamps_2 : decode cX4_shiningLamps 2 = .ok (.iconst 0, 1) := by decide +kernel
theorem dX4_shiningLamps_3 : decode cX4_shiningLamps 3 = .ok (.istore_n 2, 1) := by decide +kernel
theorem dX4_shiningLamps_4 : decode cX4_shiningLamps 4 = .ok (.iload_n 2, 1) := by decide +kernel
theorem dX4_shiningLamps_5 : decode cX4_shiningLamps 5 = .ok (.aload_n 0, 1) := by decide +kernel
theorem dX4_shiningLamps_6 : decode cX4_shiningLamps 6 = .ok (.getfield 58, 3) := by decide +kernel
theorem dX4_shiningLamps_9 : decode cX4_shiningLamps 9 = .ok (.if_icmp .ge 31, 3) := by decide +kernel
theorem dX4_shiningLamps_12 : decode cX4_shiningLamps 12 = .ok (.aload_n 0, 1) := by decide +kernel
theorem dX4_shiningLamps_13 : decode cX4_shiningLamps 13 = .ok (.iload_n 2, 1) := by decide +kernel
theorem dX4_shiningLamps_14 : decode cX4_shiningLamps 14 = .ok (.invokevirtual 106, 3) := by decide +kernel
theorem dX4_shiningLamps_17 : decode cX4_shiningLamps 17 = .ok (.ifCond .eq 17, 3) := by decide +kernel
theorem dX4_shiningLamps_20 : decode cX4_shiningLamps 20 = .ok (.aload_n 0, 1) := by decide +kernel
theorem dX4_shiningLamps_21 : decode cX4_shiningLamps 21 = .ok (.iload_n 2, 1) := by decide +kernel
theorem dX4_shiningLamps_22 : decode cX4_shiningLamps 22 = .ok (.invokevirtual 110, 3) := by decide +kernel
theorem dX4_shiningLamps_25 : decode cX4_shiningLamps 25 = .ok (.ifCond .eq 9, 3) := by decide +kernel
theorem dX4_shiningLamps_28 : decode cX4_shiningLamps 28 = .ok (.iload_n 1, 1) := by decide +kernel
theorem dX4_shiningLamps_29 : decode cX4_shiningLamps 29 = .ok (.iconst 1, 1) := by decide +kernel
theorem dX4_shiningLamps_30 : decode cX4_shiningLamps 30 = .ok (.iload_n 2, 1) := by decide +kernel
theorem dX4_shiningLamps_31 : decode cX4_shiningLamps 31 = .ok (.ishl, 1) := by decide +kernel
theorem dX4_shiningLamps_32 : decode cX4_shiningLamps 32 = .ok (.ior, 1) := by decide +kernel
theorem dX4_shiningLamps_33 : decode cX4_shiningLamps 33 = .ok (.istore_n 1, 1) := by decide +kernel
theorem dX4_shiningLamps_34 : decode cX4_shiningLamps 34 = .ok (.iinc 2 1, 3) := by decide +kernel
theorem dX4_shiningLamps_37 : decode cX4_shiningLamps 37 = .ok (.goto (-33), 3) := by decide +kernel
theorem dX4_shiningLamps_40 : decode cX4_shiningLamps 40 = .ok (.iload_n 1, 1) := by decide +kernel
theorem dX4_shiningLamps_41 : decode cX4_shiningLamps 41 = .ok (.ireturn, 1) := by decide +kernel
theorem dX4_weightAt_0 : decode cX4_weightAt 0 = .ok (.iconst (-1), 1) := by decide +kernel
theorem dX4_weightAt_1 : decode cX4_weightAt 1 = .ok (.istore 4, 2) := by decide +kernel
theorem dX4_weightAt_3 : decode cX4_weightAt 3 = .ok (.iconst 0, 1) := by decide +kernel
theorem dX4_weightAt_4 : decode cX4_weightAt 4 = .ok (.istore 5, 2) := by decide +kernel
theorem dX4_weightAt_6 : decode cX4_weightAt 6 = .ok (.iload 5, 2) := by decide +kernel
theorem dX4_weightAt_8 : decode cX4_weightAt 8 = .ok (.iconst 4, 1) := by decide +kernel
theorem dX4_weightAt_9 : decode cX4_weightAt 9 = .ok (.if_icmp .ge 161, 3) := by decide +kernel
theorem dX4_weightAt_12 : decode cX4_weightAt 12 = .ok (.iconst 4, 1) := by decide +kernel
theorem dX4_weightAt_13 : decode cX4_weightAt 13 = .ok (.iload_n 1, 1) := by decide +kernel
theorem dX4_weightAt_14 : decode cX4_weightAt 14 = .ok (.imul, 1) := by decide +kernel
theorem dX4_weightAt_15 : decode cX4_weightAt 15 = .ok (.iload 5, 2) := by decide +kernel
theorem dX4_weightAt_17 : decode cX4_weightAt 17 = .ok (.iadd, 1) := by decide +kernel
theorem dX4_weightAt_18 : decode cX4_weightAt 18 = .ok (.istore 6, 2) := by decide +kernel
theorem dX4_weightAt_20 : decode cX4_weightAt 20 = .ok (.iconst 4, 1) := by decide +kernel
theorem dX4_weightAt_21 : decode cX4_weightAt 21 = .ok (.iload_n 1, 1) := by decide +kernel
theorem dX4_weightAt_22 : decode cX4_weightAt 22 = .ok (.imul, 1) := by decide +kernel
theorem dX4_weightAt_23 : decode cX4_weightAt 23 = .ok (.iload 5, 2) := by decide +kernel
theorem dX4_weightAt_25 : decode cX4_weightAt 25 = .ok (.iconst 1, 1) := by decide +kernel
theorem dX4_weightAt_26 : decode cX4_weightAt 26 = .ok (.iadd, 1) := by decide +kernel
theorem dX4_weightAt_27 : decode cX4_weightAt 27 = .ok (.iconst 4, 1) := by decide +kernel
theorem dX4_weightAt_28 : decode cX4_weightAt 28 = .ok (.irem, 1) := by decide +kernel
theorem dX4_weightAt_29 : decode cX4_weightAt 29 = .ok (.iadd, 1) := by decide +kernel
theorem dX4_weightAt_30 : decode cX4_weightAt 30 = .ok (.istore 7, 2) := by decide +kernel
theorem dX4_weightAt_32 : decode cX4_weightAt 32 = .ok (.iconst 2, 1) := by decide +kernel
theorem dX4_weightAt_33 : decode cX4_weightAt 33 = .ok (.aload_n 0, 1) := by decide +kernel
theorem dX4_weightAt_34 : decode cX4_weightAt 34 = .ok (.getfield 43, 3) := by decide +kernel
theorem dX4_weightAt_37 : decode cX4_weightAt 37 = .ok (.iload 7, 2) := by decide +kernel
theorem dX4_weightAt_39 : decode cX4_weightAt 39 = .ok (.invokevirtual 72, 3) := by decide +kernel
theorem dX4_weightAt_42 : decode cX4_weightAt 42 = .ok (.aload_n 0, 1) := by decide +kernel
theorem dX4_weightAt_43 : decode cX4_weightAt 43 = .ok (.getfield 43, 3) := by decide +kernel
theorem dX4_weightAt_46 : decode cX4_weightAt 46 = .ok (.iload 6, 2) := by decide +kernel
theorem dX4_weightAt_48 : decode cX4_weightAt 48 = .ok (.invokevirtual 72, 3) := by decide +kernel
theorem dX4_weightAt_51 : decode cX4_weightAt 51 = .ok (.isub, 1) := by decide +kernel
theorem dX4_weightAt_52 : decode cX4_weightAt 52 = .ok (.imul, 1) := by decide +kernel
theorem dX4_weightAt_53 : decode cX4_weightAt 53 = .ok (.istore 8, 2) := by decide +kernel
theorem dX4_weightAt_55 : decode cX4_weightAt 55 = .ok (.iconst 2, 1) := by decide +kernel
theorem dX4_weightAt_56 : decode cX4_weightAt 56 = .ok (.aload_n 0, 1) := by decide +kernel
theorem dX4_weightAt_57 : decode cX4_weightAt 57 = .ok (.getfield 46, 3) := by decide +kernel
theorem dX4_weightAt_60 : decode cX4_weightAt 60 = .ok (.iload 7, 2) := by decide +kernel
theorem dX4_weightAt_62 : decode cX4_weightAt 62 = .ok (.invokevirtual 72, 3) := by decide +kernel
theorem dX4_weightAt_65 : decode cX4_weightAt 65 = .ok (.aload_n 0, 1) := by decide +kernel
theorem dX4_weightAt_66 : decode cX4_weightAt 66 = .ok (.getfield 46, 3) := by decide +kernel
theorem dX4_weightAt_69 : decode cX4_weightAt 69 = .ok (.iload 6, 2) := by decide +kernel
theorem dX4_weightAt_71 : decode cX4_weightAt 71 = .ok (.invokevirtual 72, 3) := by decide +kernel
theorem dX4_weightAt_74 : decode cX4_weightAt 74 = .ok (.isub, 1) := by decide +kernel
theorem dX4_weightAt_75 : decode cX4_weightAt 75 = .ok (.imul, 1) := by decide +kernel
theorem dX4_weightAt_76 : decode cX4_weightAt 76 = .ok (.istore 9, 2) := by decide +kernel
theorem dX4_weightAt_78 : decode cX4_weightAt 78 = .ok (.iload 8, 2) := by decide +kernel
theorem dX4_weightAt_80 : decode cX4_weightAt 80 = .ok (.iload 9, 2) := by decide +kernel
theorem dX4_weightAt_82 : decode cX4_weightAt 82 = .ok (.iload_n 2, 1) := by decide +kernel
theorem dX4_weightAt_83 : decode cX4_weightAt 83 = .ok (.iconst 2, 1) := by decide +kernel
theorem dX4_weightAt_84 : decode cX4_weightAt 84 = .ok (.aload_n 0, 1) := by decide +kernel
theorem dX4_weightAt_85 : decode cX4_weightAt 85 = .ok (.getfield 43, 3) := by decide +kernel
theorem dX4_weightAt_88 : decode cX4_weightAt 88 = .ok (.iload 6, 2) := by decide +kernel
theorem dX4_weightAt_90 : decode cX4_weightAt 90 = .ok (.invokevirtual 72, 3) := by decide +kernel
theorem dX4_weightAt_93 : decode cX4_weightAt 93 = .ok (.imul, 1) := by decide +kernel
theorem dX4_weightAt_94 : decode cX4_weightAt 94 = .ok (.isub, 1) := by decide +kernel
theorem dX4_weightAt_95 : decode cX4_weightAt 95 = .ok (.iload_n 3, 1) := by decide +kernel
theorem dX4_weightAt_96 : decode cX4_weightAt 96 = .ok (.iconst 2, 1) := by decide +kernel
theorem dX4_weightAt_97 : decode cX4_weightAt 97 = .ok (.aload_n 0, 1) := by decide +kernel
theorem dX4_weightAt_98 : decode cX4_weightAt 98 = .ok (.getfield 46, 3) := by decide +kernel
theorem dX4_weightAt_101 : decode cX4_weightAt 101 = .ok (.iload 6, 2) := by decide +kernel
theorem dX4_weightAt_103 : decode cX4_weightAt 103 = .ok (.invokevirtual 72, 3) := by decide +kernel
theorem dX4_weightAt_106 : decode cX4_weightAt 106 = .ok (.imul, 1) := by decide +kernel
theorem dX4_weightAt_107 : decode cX4_weightAt 107 = .ok (.isub, 1) := by decide +kernel
theorem dX4_weightAt_108 : decode cX4_weightAt 108 = .ok (.invokestatic 102, 3) := by decide +kernel
theorem dX4_weightAt_111 : decode cX4_weightAt 111 = .ok (.istore 10, 2) := by decide +kernel
theorem dX4_weightAt_113 : decode cX4_weightAt 113 = .ok (.iload 10, 2) := by decide +kernel
theorem dX4_weightAt_115 : decode cX4_weightAt 115 = .ok (.ifCond .ge 5, 3) := by decide +kernel
theorem dX4_weightAt_118 : decode cX4_weightAt 118 = .ok (.iconst 0, 1) := by decide +kernel
theorem dX4_weightAt_119 : decode cX4_weightAt 119 = .ok (.ireturn, 1) := by decide +kernel
theorem dX4_weightAt_120 : decode cX4_weightAt 120 = .ok (.iload 8, 2) := by decide +kernel
theorem dX4_weightAt_122 : decode cX4_weightAt 122 = .ok (.invokestatic 113, 3) := by decide +kernel
theorem dX4_weightAt_125 : decode cX4_weightAt 125 = .ok (.iload 9, 2) := by decide +kernel
theorem dX4_weightAt_127 : decode cX4_weightAt 127 = .ok (.invokestatic 113, 3) := by decide +kernel
theorem dX4_weightAt_130 : decode cX4_weightAt 130 = .ok (.iadd, 1) := by decide +kernel
theorem dX4_weightAt_131 : decode cX4_weightAt 131 = .ok (.istore 11, 2) := by decide +kernel
theorem dX4_weightAt_133 : decode cX4_weightAt 133 = .ok (.iload 11, 2) := by decide +kernel
theorem dX4_weightAt_135 : decode cX4_weightAt 135 = .ok (.ifCond .le 29, 3) := by decide +kernel
theorem dX4_weightAt_138 : decode cX4_weightAt 138 = .ok (.iload 10, 2) := by decide +kernel
theorem dX4_weightAt_140 : decode cX4_weightAt 140 = .ok (.iload 11, 2) := by decide +kernel
theorem dX4_weightAt_142 : decode cX4_weightAt 142 = .ok (.idiv, 1) := by decide +kernel
theorem dX4_weightAt_143 : decode cX4_weightAt 143 = .ok (.istore 12, 2) := by decide +kernel
theorem dX4_weightAt_145 : decode cX4_weightAt 145 = .ok (.iload 4, 2) := by decide +kernel
theorem dX4_weightAt_147 : decode cX4_weightAt 147 = .ok (.ifCond .ge 8, 3) := by decide +kernel
theorem dX4_weightAt_150 : decode cX4_weightAt 150 = .ok (.iload 12, 2) := by decide +kernel
theorem dX4_weightAt_152 : decode cX4_weightAt 152 = .ok (.goto 10, 3) := by decide +kernel
theorem dX4_weightAt_155 : decode cX4_weightAt 155 = .ok (.iload 4, 2) := by decide +kernel
theorem dX4_weightAt_157 : decode cX4_weightAt 157 = .ok (.iload 12, 2) := by decide +kernel
theorem dX4_weightAt_159 : decode cX4_weightAt 159 = .ok (.invokestatic 84, 3) := by decide +kernel
theorem dX4_weightAt_162 : decode cX4_weightAt 162 = .ok (.istore 4, 2) := by decide +kernel
theorem dX4_weightAt_164 : decode cX4_weightAt 164 = .ok (.iinc 5 1, 3) := by decide +kernel
theorem dX4_weightAt_167 : decode cX4_weightAt 167 = .ok (.goto (-161), 3) := by decide +kernel
theorem dX4_weightAt_170 : decode cX4_weightAt 170 = .ok (.iconst 1, 1) := by decide +kernel
theorem dX4_weightAt_171 : decode cX4_weightAt 171 = .ok (.iload 4, 2) := by decide +kernel
theorem dX4_weightAt_173 : decode cX4_weightAt 173 = .ok (.iadd, 1) := by decide +kernel
theorem dX4_weightAt_174 : decode cX4_weightAt 174 = .ok (.ireturn, 1) := by decide +kernel
theorem dX5_init_0 : decode cX5_init 0 = .ok (.aload_n 0, 1) := by decide +kernel
theorem dX5_init_1 : decode cX5_init 1 = .ok (.invokespecial 3, 3) := by decide +kernel
theorem dX5_init_4 : decode cX5_init 4 = .ok (.aload_n 0, 1) := by decide +kernel
theorem dX5_init_5 : decode cX5_init 5 = .ok (.new 9, 3) := by decide +kernel
theorem dX5_init_8 : decode cX5_init 8 = .ok (.dup, 1) := by decide +kernel
theorem dX5_init_9 : decode cX5_init 9 = .ok (.invokespecial 11, 3) := by decide +kernel
theorem dX5_init_12 : decode cX5_init 12 = .ok (.putfield 12, 3) := by decide +kernel
theorem dX5_init_15 : decode cX5_init 15 = .ok (.aload_n 0, 1) := by decide +kernel
theorem dX5_init_16 : decode cX5_init 16 = .ok (.new 18, 3) := by decide +kernel
theorem dX5_init_19 : decode cX5_init 19 = .ok (.dup, 1) := by decide +kernel
theorem dX5_init_20 : decode cX5_init 20 = .ok (.sipush 3072, 3) := by decide +kernel
theorem dX5_init_23 : decode cX5_init 23 = .ok (.invokespecial 20, 3) := by decide +kernel
theorem dX5_init_26 : decode cX5_init 26 = .ok (.putfield 23, 3) := by decide +kernel
theorem dX5_init_29 : decode cX5_init 29 = .ok (.aload_n 0, 1) := by decide +kernel
theorem dX5_init_30 : decode cX5_init 30 = .ok (.new 18, 3) := by decide +kernel
theorem dX5_init_33 : decode cX5_init 33 = .ok (.dup, 1) := by decide +kernel
theorem dX5_init_34 : decode cX5_init 34 = .ok (.sipush 384, 3) := by decide +kernel
theorem dX5_init_37 : decode cX5_init 37 = .ok (.invokespecial 20, 3) := by decide +kernel
theorem dX5_init_40 : decode cX5_init 40 = .ok (.putfield 27, 3) := by decide +kernel
theorem dX5_init_43 : decode cX5_init 43 = .ok (.aload_n 0, 1) := by decide +kernel
theorem dX5_init_44 : decode cX5_init 44 = .ok (.new 18, 3) := by decide +kernel
theorem dX5_init_47 : decode cX5_init 47 = .ok (.dup, 1) := by decide +kernel
theorem dX5_init_48 : decode cX5_init 48 = .ok (.sipush 384, 3) := by decide +kernel
theorem dX5_init_51 : decode cX5_init 51 = .ok (.invokespecial 20, 3) := by decide +kernel
theorem dX5_init_54 : decode cX5_init 54 = .ok (.putfield 30, 3) := by decide +kernel
theorem dX5_init_57 : decode cX5_init 57 = .ok (.aload_n 0, 1) := by decide +kernel
theorem dX5_init_58 : decode cX5_init 58 = .ok (.new 18, 3) := by decide +kernel
theorem dX5_init_61 : decode cX5_init 61 = .ok (.dup, 1) := by decide +kernel
theorem dX5_init_62 : decode cX5_init 62 = .ok (.sipush 384, 3) := by decide +kernel
theorem dX5_init_65 : decode cX5_init 65 = .ok (.invokespecial 20, 3) := by decide +kernel
theorem dX5_init_68 : decode cX5_init 68 = .ok (.putfield 33, 3) := by decide +kernel
theorem dX5_init_71 : decode cX5_init 71 = .ok (.return_, 1) := by decide +kernel
theorem dX5_refresh_0 : decode cX5_refresh 0 = .ok (.aload_n 1, 1) := by decide +kernel
theorem dX5_refresh_1 : decode cX5_refresh 1 = .ok (.ifnull 10, 3) := by decide +kernel
theorem dX5_refresh_4 : decode cX5_refresh 4 = .ok (.aload_n 1, 1) := by decide +kernel
theorem dX5_refresh_5 : decode cX5_refresh 5 = .ok (.getfield 36, 3) := by decide +kernel
theorem dX5_refresh_8 : decode cX5_refresh 8 = .ok (.ifCond .ne 4, 3) := by decide +kernel
theorem dX5_refresh_11 : decode cX5_refresh 11 = .ok (.return_, 1) := by decide +kernel
theorem dX5_refresh_12 : decode cX5_refresh 12 = .ok (.aload_n 0, 1) := by decide +kernel
theorem dX5_refresh_13 : decode cX5_refresh 13 = .ok (.getfield 12, 3) := by decide +kernel
theorem dX5_refresh_16 : decode cX5_refresh 16 = .ok (.aload_n 1, 1) := by decide +kernel
theorem dX5_refresh_17 : decode cX5_refresh 17 = .ok (.aload_n 1, 1) := by decide +kernel
theorem dX5_refresh_18 : decode cX5_refresh 18 = .ok (.invokevirtual 42, 3) := by decide +kernel
theorem dX5_refresh_21 : decode cX5_refresh 21 = .ok (.invokevirtual 46, 3) := by decide +kernel
theorem dX5_refresh_24 : decode cX5_refresh 24 = .ok (.aload_n 0, 1) := by decide +kernel
theorem dX5_refresh_25 : decode cX5_refresh 25 = .ok (.iconst 0, 1) := by decide +kernel
theorem dX5_refresh_26 : decode cX5_refresh 26 = .ok (.putfield 50, 3) := by decide +kernel
theorem dX5_refresh_29 : decode cX5_refresh 29 = .ok (.iconst 0, 1) := by decide +kernel
theorem dX5_refresh_30 : decode cX5_refresh 30 = .ok (.istore_n 2, 1) := by decide +kernel
theorem dX5_refresh_31 : decode cX5_refresh 31 = .ok (.iload_n 2, 1) := by decide +kernel
theorem dX5_refresh_32 : decode cX5_refresh 32 = .ok (.aload_n 1, 1) := by decide +kernel
theorem dX5_refresh_33 : decode cX5_refresh 33 = .ok (.getfield 54, 3) := by decide +kernel
theorem dX5_refresh_36 : decode cX5_refresh 36 = .ok (.if_icmp .ge 61, 3) := by decide +kernel
theorem dX5_refresh_39 : decode cX5_refresh 39 = .ok (.iconst 0, 1) := by decide +kernel
theorem dX5_refresh_40 : decode cX5_refresh 40 = .ok (.istore_n 3, 1) := by decide +kernel
theorem dX5_refresh_41 : decode cX5_refresh 41 = .ok (.iload_n 3, 1) := by decide +kernel
theorem dX5_refresh_42 : decode cX5_refresh 42 = .ok (.aload_n 1, 1) := by decide +kernel
theorem dX5_refresh_43 : decode cX5_refresh 43 = .ok (.getfield 57, 3) := by decide +kernel
theorem dX5_refresh_46 : decode cX5_refresh 46 = .ok (.if_icmp .ge 45, 3) := by decide +kernel
theorem dX5_refresh_49 : decode cX5_refresh 49 = .ok (.aload_n 0, 1) := by decide +kernel
theorem dX5_refresh_50 : decode cX5_refresh 50 = .ok (.getfield 12, 3) := by decide +kernel
theorem dX5_refresh_53 : decode cX5_refresh 53 = .ok (.aload_n 1, 1) := by decide +kernel
theorem dX5_refresh_54 : decode cX5_refresh 54 = .ok (.iload_n 3, 1) := by decide +kernel
theorem dX5_refresh_55 : decode cX5_refresh 55 = .ok (.aload_n 1, 1) := by decide +kernel
theorem dX5_refresh_56 : decode cX5_refresh 56 = .ok (.getfield 60, 3) := by decide +kernel
theorem dX5_refresh_59 : decode cX5_refresh 59 = .ok (.invokestatic 63, 3) := by decide +kernel
theorem dX5_refresh_62 : decode cX5_refresh 62 = .ok (.iload_n 2, 1) := by decide +kernel
theorem dX5_refresh_63 : decode cX5_refresh 63 = .ok (.aload_n 1, 1) := by decide +kernel
theorem dX5_refresh_64 : decode cX5_refresh 64 = .ok (.getfield 67, 3) := by decide +kernel
theorem dX5_refresh_67 : decode cX5_refresh 67 = .ok (.invokestatic 63, 3) := by decide +kernel
theorem dX5_refresh_70 : decode cX5_refresh 70 = .ok (.aload_n 1, 1) := by decide +kernel
theorem dX5_refresh_71 : decode cX5_refresh 71 = .ok (.aload_n 0, 1) := by decide +kernel
theorem dX5_refresh_72 : decode cX5_refresh 72 = .ok (.getfield 50, 3) := by decide +kernel
theorem dX5_refresh_75 : decode cX5_refresh 75 = .ok (.invokevirtual 70, 3) := by decide +kernel
theorem dX5_refresh_78 : decode cX5_refresh 78 = .ok (.invokevirtual 74, 3) := by decide +kernel
theorem dX5_refresh_81 : decode cX5_refresh 81 = .ok (.aload_n 0, 1) := by decide +kernel
theorem dX5_refresh_82 : decode cX5_refresh 82 = .ok (.invokevirtual 78, 3) := by decide +kernel
theorem dX5_refresh_85 : decode cX5_refresh 85 = .ok (.iinc 3 1, 3) := by decide +kernel
theorem dX5_refresh_88 : decode cX5_refresh 88 = .ok (.goto (-47), 3) := by decide +kernel
theorem dX5_refresh_91 : decode cX5_refresh 91 = .ok (.iinc 2 1, 3) := by decide +kernel
theorem dX5_refresh_94 : decode cX5_refresh 94 = .ok (.goto (-63), 3) := by decide +kernel
theorem dX5_refresh_97 : decode cX5_refresh 97 = .ok (.aload_n 1, 1) := by decide +kernel
theorem dX5_refresh_98 : decode cX5_refresh 98 = .ok (.iconst 0, 1) := by decide +kernel
theorem dX5_refresh_99 : decode cX5_refresh 99 = .ok (.putfield 36, 3) := by decide +kernel
theorem dX5_refresh_102 : decode cX5_refresh 102 = .ok (.return_, 1) := by decide +kernel
theorem dX5_keepPlace_0 : decode cX5_keepPlace 0 = .ok (.aload_n 0, 1) := by decide +kernel
theorem dX5_keepPlace_1 : decode cX5_keepPlace 1 = .ok (.getfield 27, 3) := by decide +kernel
theorem dX5_keepPlace_4 : decode cX5_keepPlace 4 = .ok (.aload_n 0, 1) := by decide +kernel
theorem dX5_keepPlace_5 : decode cX5_keepPlace 5 = .ok (.getfield 50, 3) := by decide +kernel
theorem dX5_keepPlace_8 : decode cX5_keepPlace 8 = .ok (.aload_n 0, 1) := by decide +kernel
theorem dX5_keepPlace_9 : decode cX5_keepPlace 9 = .ok (.getfield 12, 3) := by decide +kernel
theorem dX5_keepPlace_12 : decode cX5_keepPlace 12 = .ok (.getfield 81, 3) := by decide +kernel
theorem dX5_keepPlace_15 : decode cX5_keepPlace 15 = .ok (.invokevirtual 83, 3) := by decide +kernel
theorem dX5_keepPlace_18 : decode cX5_keepPlace 18 = .ok (.aload_n 0, 1) := by decide +kernel
theorem dX5_keepPlace_19 : decode cX5_keepPlace 19 = .ok (.getfield 30, 3) := by decide +kernel
theorem dX5_keepPlace_22 : decode cX5_keepPlace 22 = .ok (.aload_n 0, 1) := by decide +kernel
theorem dX5_keepPlace_23 : decode cX5_keepPlace 23 = .ok (.getfield 50, 3) := by decide +kernel
theorem dX5_keepPlace_26 : decode cX5_keepPlace 26 = .ok (.aload_n 0, 1) := by decide +kernel
theorem dX5_keepPlace_27 : decode cX5_keepPlace 27 = .ok (.getfield 12, 3) := by decide +kernel
theorem dX5_keepPlace_30 : decode cX5_keepPlace 30 = .ok (.getfield 87, 3) := by decide +kernel
theorem dX5_keepPlace_33 : decode cX5_keepPlace 33 = .ok (.invokevirtual 83, 3) := by decide +kernel
theorem dX5_keepPlace_36 : decode cX5_keepPlace 36 = .ok (.aload_n 0, 1) := by decide +kernel
theorem dX5_keepPlace_37 : decode cX5_keepPlace 37 = .ok (.getfield 33, 3) := by decide +kernel
theorem dX5_keepPlace_40 : decode cX5_keepPlace 40 = .ok (.aload_n 0, 1) := by decide +kernel
theorem dX5_keepPlace_41 : decode cX5_keepPlace 41 = .ok (.getfield 50, 3) := by decide +kernel
theorem dX5_keepPlace_44 : decode cX5_keepPlace 44 = .ok (.aload_n 0, 1) := by decide +kernel
theorem dX5_keepPlace_45 : decode cX5_keepPlace 45 = .ok (.getfield 12, 3) := by decide +kernel
theorem dX5_keepPlace_48 : decode cX5_keepPlace 48 = .ok (.getfield 89, 3) := by decide +kernel
theorem dX5_keepPlace_51 : decode cX5_keepPlace 51 = .ok (.invokevirtual 83, 3) := by decide +kernel
theorem dX5_keepPlace_54 : decode cX5_keepPlace 54 = .ok (.iconst 0, 1) := by decide +kernel
theorem dX5_keepPlace_55 : decode cX5_keepPlace 55 = .ok (.istore_n 1, 1) := by decide +kernel
theorem dX5_keepPlace_56 : decode cX5_keepPlace 56 = .ok (.iload_n 1, 1) := by decide +kernel
theorem dX5_keepPlace_57 : decode cX5_keepPlace 57 = .ok (.bipush 8, 2) := by decide +kernel
theorem dX5_keepPlace_59 : decode cX5_keepPlace 59 = .ok (.if_icmp .ge 37, 3) := by decide +kernel
theorem dX5_keepPlace_62 : decode cX5_keepPlace 62 = .ok (.aload_n 0, 1) := by decide +kernel
theorem dX5_keepPlace_63 : decode cX5_keepPlace 63 = .ok (.getfield 23, 3) := by decide +kernel
theorem dX5_keepPlace_66 : decode cX5_keepPlace 66 = .ok (.sipush 384, 3) := by decide +kernel
theorem dX5_keepPlace_69 : decode cX5_keepPlace 69 = .ok (.iload_n 1, 1) := by decide +kernel
theorem dX5_keepPlace_70 : decode cX5_keepPlace 70 = .ok (.imul, 1) := by decide +kernel
theorem dX5_keepPlace_71 : decode cX5_keepPlace 71 = .ok (.aload_n 0, 1) := by decide +kernel
theorem dX5_keepPlace_72 : decode cX5_keepPlace 72 = .ok (.getfield 50, 3) := by decide +kernel
theorem dX5_keepPlace_75 : decode cX5_keepPlace 75 = .ok (.iadd, 1) := by decide +kernel
theorem dX5_keepPlace_76 : decode cX5_keepPlace 76 = .ok (.aload_n 0, 1) := by decide +kernel
theorem dX5_keepPlace_77 : decode cX5_keepPlace 77 = .ok (.getfield 12, 3) := by decide +kernel
theorem dX5_keepPlace_80 : decode cX5_keepPlace 80 = .ok (.getfield 92, 3) := by decide +kernel
theorem dX5_keepPlace_83 : decode cX5_keepPlace 83 = .ok (.iload_n 1, 1) := by decide +kernel
theorem dX5_keepPlace_84 : decode cX5_keepPlace 84 = .ok (.invokevirtual 93, 3) := by decide +kernel
theorem dX5_keepPlace_87 : decode cX5_keepPlace 87 = .ok (.invokevirtual 83, 3) := by decide +kernel
theorem dX5_keepPlace_90 : decode cX5_keepPlace 90 = .ok (.iinc 1 1, 3) := by decide +kernel
theorem dX5_keepPlace_93 : decode cX5_keepPlace 93 = .ok (.goto (-37), 3) := by decide +kernel
theorem dX5_keepPlace_96 : decode cX5_keepPlace 96 = .ok (.aload_n 0, 1) := by decide +kernel
theorem dX5_keepPlace_97 : decode cX5_keepPlace 97 = .ok (.dup, 1) := by decide +kernel
theorem dX5_keepPlace_98 : decode cX5_keepPlace 98 = .ok (.getfield 50, 3) := by decide +kernel
theorem dX5_keepPlace_101 : decode cX5_keepPlace 101 = .ok (.iconst 1, 1) := by decide +kernel
theorem dX5_keepPlace_102 : decode cX5_keepPlace 102 = .ok (.iadd, 1) := by decide +kernel
theorem dX5_keepPlace_103 : decode cX5_keepPlace 103 = .ok (.putfield 50, 3) := by decide +kernel
theorem dX5_keepPlace_106 : decode cX5_keepPlace 106 = .ok (.return_, 1) := by decide +kernel
theorem dX5_coveringAt_0 : decode cX5_coveringAt 0 = .ok (.aload_n 0, 1) := by decide +kernel
theorem dX5_coveringAt_1 : decode cX5_coveringAt 1 = .ok (.getfield 27, 3) := by decide +kernel
theorem dX5_coveringAt_4 : decode cX5_coveringAt 4 = .ok (.iload_n 1, 1) := by decide +kernel
theorem dX5_coveringAt_5 : decode cX5_coveringAt 5 = .ok (.invokevirtual 93, 3) := by decide +kernel
theorem dX5_coveringAt_8 : decode cX5_coveringAt 8 = .ok (.ireturn, 1) := by decide +kernel
theorem dX5_brightnessAt_0 : decode cX5_brightnessAt 0 = .ok (.aload_n 0, 1) := by decide +kernel
theorem dX5_brightnessAt_1 : decode cX5_brightnessAt 1 = .ok (.getfield 30, 3) := by decide +kernel
theorem dX5_brightnessAt_4 : decode cX5_brightnessAt 4 = .ok (.iload_n 1, 1) := by decide +kernel
theorem dX5_brightnessAt_5 : decode cX5_brightnessAt 5 = .ok (.invokevirtual 93, 3) := by decide +kernel
theorem dX5_brightnessAt_8 : decode cX5_brightnessAt 8 = .ok (.ireturn, 1) := by decide +kernel
theorem dX5_stateAt_0 : decode cX5_stateAt 0 = .ok (.aload_n 0, 1) := by decide +kernel
theorem dX5_stateAt_1 : decode cX5_stateAt 1 = .ok (.getfield 33, 3) := by decide +kernel
theorem dX5_stateAt_4 : decode cX5_stateAt 4 = .ok (.iload_n 1, 1) := by decide +kernel
theorem dX5_stateAt_5 : decode cX5_stateAt 5 = .ok (.invokevirtual 93, 3) := by decide +kernel
theorem dX5_stateAt_8 : decode cX5_stateAt 8 = .ok (.ireturn, 1) := by decide +kernel
theorem dX5_isCovered_0 : decode cX5_isCovered 0 = .ok (.iload_n 1, 1) := by decide +kernel
theorem dX5_isCovered_1 : decode cX5_isCovered 1 = .ok (.aload_n 0, 1) := by decide +kernel
theorem dX5_isCovered_2 : decode cX5_isCovered 2 = .ok (.getfield 27, 3) := by decide +kernel
theorem dX5_isCovered_5 : decode cX5_isCovered 5 = .ok (.iload_n 2, 1) := by decide +kernel
theorem dX5_isCovered_6 : decode cX5_isCovered 6 = .ok (.invokevirtual 93, 3) := by decide +kernel
theorem dX5_isCovered_9 : decode cX5_isCovered 9 = .ok (.invokestatic 96, 3) := by decide +kernel
theorem dX5_isCovered_12 : decode cX5_isCovered 12 = .ok (.ireturn, 1) := by decide +kernel
theorem dX5_lightOf_0 : decode cX5_lightOf 0 = .ok (.aload_n 0, 1) := by decide +kernel
theorem dX5_lightOf_1 : decode cX5_lightOf 1 = .ok (.iload_n 1, 1) := by decide +kernel
theorem dX5_lightOf_2 : decode cX5_lightOf 2 = .ok (.iload_n 2, 1) := by decide +kernel
theorem dX5_lightOf_3 : decode cX5_lightOf 3 = .ok (.invokevirtual 100, 3) := by decide +kernel
theorem dX5_lightOf_6 : decode cX5_lightOf 6 = .ok (.ifCond .eq 20, 3) := by decide +kernel
theorem dX5_lightOf_9 : decode cX5_lightOf 9 = .ok (.aload_n 0, 1) := by decide +kernel
theorem dX5_lightOf_10 : decode cX5_lightOf 10 = .ok (.getfield 23, 3) := by decide +kernel
theorem dX5_lightOf_13 : decode cX5_lightOf 13 = .ok (.sipush 384, 3) := by decide +kernel
theorem dX5_lightOf_16 : decode cX5_lightOf 16 = .ok (.iload_n 1, 1) := by decide +kernel
theorem dX5_lightOf_17 : decode cX5_lightOf 17 = .ok (.imul, 1) := by decide +kernel
theorem dX5_lightOf_18 : decode cX5_lightOf 18 = .ok (.iload_n 2, 1) := by decide +kernel
theorem dX5_lightOf_19 : decode cX5_lightOf 19 = .ok (.iadd, 1) := by decide +kernel
theorem dX5_lightOf_20 : decode cX5_lightOf 20 = .ok (.invokevirtual 93, 3) := by decide +kernel
theorem dX5_lightOf_23 : decode cX5_lightOf 23 = .ok (.goto 6, 3) := by decide +kernel
theorem dX5_lightOf_26 : decode cX5_lightOf 26 = .ok (.sipush (-1000), 3) := by decide +kernel
theorem dX5_lightOf_29 : decode cX5_lightOf 29 = .ok (.ireturn, 1) := by decide +kernel
theorem dX5_placesOf_0 : decode cX5_placesOf 0 = .ok (.iconst 0, 1) := by decide +kernel
theorem dX5_placesOf_1 : decode cX5_placesOf 1 = .ok (.istore_n 2, 1) := by decide +kernel
theorem dX5_placesOf_2 : decode cX5_placesOf 2 = .ok (.iconst 0, 1) := by decide +kernel
theorem dX5_placesOf_3 : decode cX5_placesOf 3 = .ok (.istore_n 3, 1) := by decide +kernel
theorem dX5_placesOf_4 : decode cX5_placesOf 4 = .ok (.iload_n 3, 1) := by decide +kernel
theorem dX5_placesOf_5 : decode cX5_placesOf 5 = .ok (.aload_n 0, 1) := by decide +kernel
theorem dX5_placesOf_6 : decode cX5_placesOf 6 = .ok (.getfield 50, 3) := by decide +kernel
theorem dX5_placesOf_9 : decode cX5_placesOf 9 = .ok (.if_icmp .ge 26, 3) := by decide +kernel
theorem dX5_placesOf_12 : decode cX5_placesOf 12 = .ok (.iload_n 2, 1) := by decide +kernel
theorem dX5_placesOf_13 : decode cX5_placesOf 13 = .ok (.aload_n 0, 1) := by decide +kernel
theorem dX5_placesOf_14 : decode cX5_placesOf 14 = .ok (.iload_n 1, 1) := by decide +kernel
theorem dX5_placesOf_15 : decode cX5_placesOf 15 = .ok (.iload_n 3, 1) := by decide +kernel
theorem dX5_placesOf_16 : decode cX5_placesOf 16 = .ok (.invokevirtual 100, 3) := by decide +kernel
theorem dX5_placesOf_19 : decode cX5_placesOf 19 = .ok (.ifCond .eq 7, 3) := by decide +kernel
theorem dX5_placesOf_22 : decode cX5_placesOf 22 = .ok (.iconst 1, 1) := by decide +kernel
theorem dX5_placesOf_23 : decode cX5_placesOf 23 = .ok (.goto 4, 3) := by decide +kernel
theorem dX5_placesOf_26 : decode cX5_placesOf 26 = .ok (.iconst 0, 1) := by decide +kernel
theorem dX5_placesOf_27 : decode cX5_placesOf 27 = .ok (.iadd, 1) := by decide +kernel
theorem dX5_placesOf_28 : decode cX5_placesOf 28 = .ok (.istore_n 2, 1) := by decide +kernel
theorem dX5_placesOf_29 : decode cX5_placesOf 29 = .ok (.iinc 3 1, 3) := by decide +kernel
theorem dX5_placesOf_32 : decode cX5_placesOf 32 = .ok (.goto (-28), 3) := by decide +kernel
theorem dX5_placesOf_35 : decode cX5_placesOf 35 = .ok (.iload_n 2, 1) := by decide +kernel
theorem dX5_placesOf_36 : decode cX5_placesOf 36 = .ok (.ireturn, 1) := by decide +kernel
theorem dX5_placesOnlyOf_0 : decode cX5_placesOnlyOf 0 = .ok (.iconst 0, 1) := by decide +kernel
theorem dX5_placesOnlyOf_1 : decode cX5_placesOnlyOf 1 = .ok (.istore_n 2, 1) := by decide +kernel
theorem dX5_placesOnlyOf_2 : decode cX5_placesOnlyOf 2 = .ok (.iconst 0, 1) := by decide +kernel
theorem dX5_placesOnlyOf_3 : decode cX5_placesOnlyOf 3 = .ok (.istore_n 3, 1) := by decide +kernel
theorem dX5_placesOnlyOf_4 : decode cX5_placesOnlyOf 4 = .ok (.iload_n 3, 1) := by decide +kernel
theorem dX5_placesOnlyOf_5 : decode cX5_placesOnlyOf 5 = .ok (.aload_n 0, 1) := by decide +kernel
theorem dX5_placesOnlyOf_6 : decode cX5_placesOnlyOf 6 = .ok (.getfield 50, 3) := by decide +kernel
theorem dX5_placesOnlyOf_9 : decode cX5_placesOnlyOf 9 = .ok (.if_icmp .ge 31, 3) := by decide +kernel
theorem dX5_placesOnlyOf_12 : decode cX5_placesOnlyOf 12 = .ok (.iload_n 2, 1) := by decide +kernel
theorem dX5_placesOnlyOf_13 : decode cX5_placesOnlyOf 13 = .ok (.aload_n 0, 1) := by decide +kernel
theorem dX5_placesOnlyOf_14 : decode cX5_placesOnlyOf 14 = .ok (.getfield 27, 3) := by decide +kernel
theorem dX5_placesOnlyOf_17 : decode cX5_placesOnlyOf 17 = .ok (.iload_n 3, 1) := by decide +kernel
theorem dX5_placesOnlyOf_18 : decode cX5_placesOnlyOf 18 = .ok (.invokevirtual 93, 3) := by decide +kernel
theorem dX5_placesOnlyOf_21 : decode cX5_placesOnlyOf 21 = .ok (.iconst 1, 1) := by decide +kernel
theorem dX5_placesOnlyOf_22 : decode cX5_placesOnlyOf 22 = .ok (.iload_n 1, 1) := by decide +kernel
theorem dX5_placesOnlyOf_23 : decode cX5_placesOnlyOf 23 = .ok (.ishl, 1) := by decide +kernel
theorem dX5_placesOnlyOf_24 : decode cX5_placesOnlyOf 24 = .ok (.if_icmp .ne 7, 3) := by decide +kernel
theorem dX5_placesOnlyOf_27 : decode cX5_placesOnlyOf 27 = .ok (.iconst 1, 1) := by decide +kernel
theorem dX5_placesOnlyOf_28 : decode cX5_placesOnlyOf 28 = .ok (.goto 4, 3) := by decide +kernel
theorem dX5_placesOnlyOf_31 : decode cX5_placesOnlyOf 31 = .ok (.iconst 0, 1) := by decide +kernel
theorem dX5_placesOnlyOf_32 : decode cX5_placesOnlyOf 32 = .ok (.iadd, 1) := by decide +kernel
theorem dX5_placesOnlyOf_33 : decode cX5_placesOnlyOf 33 = .ok (.istore_n 2, 1) := by decide +kernel
theorem dX5_placesOnlyOf_34 : decode cX5_placesOnlyOf 34 = .ok (.iinc 3 1, 3) := by decide +kernel
theorem dX5_placesOnlyOf_37 : decode cX5_placesOnlyOf 37 = .ok (.goto (-33), 3) := by decide +kernel
theorem dX5_placesOnlyOf_40 : decode cX5_placesOnlyOf 40 = .ok (.iload_n 2, 1) := by decide +kernel
theorem dX5_placesOnlyOf_41 : decode cX5_placesOnlyOf 41 = .ok (.ireturn, 1) := by decide +kernel
theorem dX5_placesOfSeveral_0 : decode cX5_placesOfSeveral 0 = .ok (.iconst 0, 1) := by decide +kernel
theorem dX5_placesOfSeveral_1 : decode cX5_placesOfSeveral 1 = .ok (.istore_n 1, 1) := by decide +kernel
theorem dX5_placesOfSeveral_2 : decode cX5_placesOfSeveral 2 = .ok (.iconst 0, 1) := by decide +kernel
theorem dX5_placesOfSeveral_3 : decode cX5_placesOfSeveral 3 = .ok (.istore_n 2, 1) := by decide +kernel
theorem dX5_placesOfSeveral_4 : decode cX5_placesOfSeveral 4 = .ok (.iload_n 2, 1) := by decide +kernel
theorem dX5_placesOfSeveral_5 : decode cX5_placesOfSeveral 5 = .ok (.aload_n 0, 1) := by decide +kernel
theorem dX5_placesOfSeveral_6 : decode cX5_placesOfSeveral 6 = .ok (.getfield 50, 3) := by decide +kernel
theorem dX5_placesOfSeveral_9 : decode cX5_placesOfSeveral 9 = .ok (.if_icmp .ge 32, 3) := by decide +kernel
theorem dX5_placesOfSeveral_12 : decode cX5_placesOfSeveral 12 = .ok (.iload_n 1, 1) := by decide +kernel
theorem dX5_placesOfSeveral_13 : decode cX5_placesOfSeveral 13 = .ok (.aload_n 0, 1) := by decide +kernel
theorem dX5_placesOfSeveral_14 : decode cX5_placesOfSeveral 14 = .ok (.getfield 27, 3) := by decide +kernel
theorem dX5_placesOfSeveral_17 : decode cX5_placesOfSeveral 17 = .ok (.iload_n 2, 1) := by decide +kernel
theorem dX5_placesOfSeveral_18 : decode cX5_placesOfSeveral 18 = .ok (.invokevirtual 93, 3) := by decide +kernel
theorem dX5_placesOfSeveral_21 : decode cX5_placesOfSeveral 21 = .ok (.invokestatic 103, 3) := by decide +kernel
theorem dX5_placesOfSeveral_24 : decode cX5_placesOfSeveral 24 = .ok (.iconst 2, 1) := by decide +kernel
theorem dX5_placesOfSeveral_25 : decode cX5_placesOfSeveral 25 = .ok (.if_icmp .lt 7, 3) := by decide +kernel
theorem dX5_placesOfSeveral_28 : decode cX5_placesOfSeveral 28 = .ok (.iconst 1, 1) := by decide +kernel
theorem dX5_placesOfSeveral_29 : decode cX5_placesOfSeveral 29 = .ok (.goto 4, 3) := by decide +kernel
theorem dX5_placesOfSeveral_32 : decode cX5_placesOfSeveral 32 = .ok (.iconst 0, 1) := by decide +kernel
theorem dX5_placesOfSeveral_33 : decode cX5_placesOfSeveral 33 = .ok (.iadd, 1) := by decide +kernel
theorem dX5_placesOfSeveral_34 : decode cX5_placesOfSeveral 34 = .ok (.istore_n 1, 1) := by decide +kernel
theorem dX5_placesOfSeveral_35 : decode cX5_placesOfSeveral 35 = .ok (.iinc 2 1, 3) := by decide +kernel
theorem dX5_placesOfSeveral_38 : decode cX5_placesOfSeveral 38 = .ok (.goto (-34), 3) := by decide +kernel
theorem dX5_placesOfSeveral_41 : decode cX5_placesOfSeveral 41 = .ok (.iload_n 1, 1) := by decide +kernel
theorem dX5_placesOfSeveral_42 : decode cX5_placesOfSeveral 42 = .ok (.ireturn, 1) := by decide +kernel
theorem dX5_placesInState_0 : decode cX5_placesInState 0 = .ok (.iconst 0, 1) := by decide +kernel
theorem dX5_placesInState_1 : decode cX5_placesInState 1 = .ok (.istore_n 2, 1) := by decide +kernel
theorem dX5_placesInState_2 : decode cX5_placesInState 2 = .ok (.iconst 0, 1) := by decide +kernel
theorem dX5_placesInState_3 : decode cX5_placesInState 3 = .ok (.istore_n 3, 1) := by decide +kernel
theorem dX5_placesInState_4 : decode cX5_placesInState 4 = .ok (.iload_n 3, 1) := by decide +kernel
theorem dX5_placesInState_5 : decode cX5_placesInState 5 = .ok (.aload_n 0, 1) := by decide +kernel
theorem dX5_placesInState_6 : decode cX5_placesInState 6 = .ok (.getfield 50, 3) := by decide +kernel
theorem dX5_placesInState_9 : decode cX5_placesInState 9 = .ok (.if_icmp .ge 29, 3) := by decide +kernel
theorem dX5_placesInState_12 : decode cX5_placesInState 12 = .ok (.iload_n 2, 1) := by decide +kernel
theorem dX5_placesInState_13 : decode cX5_placesInState 13 = .ok (.aload_n 0, 1) := by decide +kernel
theorem dX5_placesInState_14 : decode cX5_placesInState 14 = .ok (.getfield 33, 3) := by decide +kernel
theorem dX5_placesInState_17 : decode cX5_placesInState 17 = .ok (.iload_n 3, 1) := by decide +kernel
theorem dX5_placesInState_18 : decode cX5_placesInState 18 = .ok (.invokevirtual 93, 3) := by decide +kernel
theorem dX5_placesInState_21 : decode cX5_placesInState 21 = .ok (.iload_n 1, 1) := by decide +kernel
theorem dX5_placesInState_22 : decode cX5_placesInState 22 = .ok (.if_icmp .ne 7, 3) := by decide +kernel
theorem dX5_placesInState_25 : decode cX5_placesInState 25 = .ok (.iconst 1, 1) := by decide +kernel
theorem dX5_placesInState_26 : decode cX5_placesInState 26 = .ok (.goto 4, 3) := by decide +kernel
theorem dX5_placesInState_29 : decode cX5_placesInState 29 = .ok (.iconst 0, 1) := by decide +kernel
theorem dX5_placesInState_30 : decode cX5_placesInState 30 = .ok (.iadd, 1) := by decide +kernel
theorem dX5_placesInState_31 : decode cX5_placesInState 31 = .ok (.istore_n 2, 1) := by decide +kernel
theorem dX5_placesInState_32 : decode cX5_placesInState 32 = .ok (.iinc 3 1, 3) := by decide +kernel
theorem dX5_placesInState_35 : decode cX5_placesInState 35 = .ok (.goto (-31), 3) := by decide +kernel
theorem dX5_placesInState_38 : decode cX5_placesInState 38 = .ok (.iload_n 2, 1) := by decide +kernel
theorem dX5_placesInState_39 : decode cX5_placesInState 39 = .ok (.ireturn, 1) := by decide +kernel
theorem dX5_wrongPlaces_0 : decode cX5_wrongPlaces 0 = .ok (.aload_n 0, 1) := by decide +kernel
theorem dX5_wrongPlaces_1 : decode cX5_wrongPlaces 1 = .ok (.getfield 50, 3) := by decide +kernel
theorem dX5_wrongPlaces_4 : decode cX5_wrongPlaces 4 = .ok (.aload_n 0, 1) := by decide +kernel
theorem dX5_wrongPlaces_5 : decode cX5_wrongPlaces 5 = .ok (.iconst 0, 1) := by decide +kernel
theorem dX5_wrongPlaces_6 : decode cX5_wrongPlaces 6 = .ok (.invokevirtual 108, 3) := by decide +kernel
theorem dX5_wrongPlaces_9 : decode cX5_wrongPlaces 9 = .ok (.isub, 1) := by decide +kernel
theorem dX5_wrongPlaces_10 : decode cX5_wrongPlaces 10 = .ok (.ireturn, 1) := by decide +kernel
theorem dX5_sumOfBrightness_0 : decode cX5_sumOfBrightness 0 = .ok (.iconst 0, 1) := by decide +kernel
theorem dX5_sumOfBrightness_1 : decode cX5_sumOfBrightness 1 = .ok (.istore_n 1, 1) := by decide +kernel
theorem dX5_sumOfBrightness_2 : decode cX5_sumOfBrightness 2 = .ok (.iconst 0, 1) := by decide +kernel
theorem dX5_sumOfBrightness_3 : decode cX5_sumOfBrightness 3 = .ok (.istore_n 2, 1) := by decide +kernel
theorem dX5_sumOfBrightness_4 : decode cX5_sumOfBrightness 4 = .ok (.iload_n 2, 1) := by decide +kernel
theorem dX5_sumOfBrightness_5 : decode cX5_sumOfBrightness 5 = .ok (.aload_n 0, 1) := by decide +kernel
theorem dX5_sumOfBrightness_6 : decode cX5_sumOfBrightness 6 = .ok (.getfield 50, 3) := by decide +kernel
theorem dX5_sumOfBrightness_9 : decode cX5_sumOfBrightness 9 = .ok (.if_icmp .ge 20, 3) := by decide +kernel
theorem dX5_sumOfBrightness_12 : decode cX5_sumOfBrightness 12 = .ok (.iload_n 1, 1) := by decide +kernel
theorem dX5_sumOfBrightness_13 : decode cX5_sumOfBrightness 13 = .ok (.aload_n 0, 1) := by decide +kernel
theorem dX5_sumOfBrightness_14 : decode cX5_sumOfBrightness 14 = .ok (.getfield 30, 3) := by decide +kernel
theorem dX5_sumOfBrightness_17 : decode cX5_sumOfBrightness 17 = .ok (.iload_n 2, 1) := by decide +kernel
theorem dX5_sumOfBrightness_18 : decode cX5_sumOfBrightness 18 = .ok (.invokevirtual 93, 3) := by decide +kernel
theorem dX5_sumOfBrightness_21 : decode cX5_sumOfBrightness 21 = .ok (.iadd, 1) := by decide +kernel
theorem dX5_sumOfBrightness_22 : decode cX5_sumOfBrightness 22 = .ok (.istore_n 1, 1) := by decide +kernel
theorem dX5_sumOfBrightness_23 : decode cX5_sumOfBrightness 23 = .ok (.iinc 2 1, 3) := by decide +kernel
theorem dX5_sumOfBrightness_26 : decode cX5_sumOfBrightness 26 = .ok (.goto (-22), 3) := by decide +kernel
theorem dX5_sumOfBrightness_29 : decode cX5_sumOfBrightness 29 = .ok (.iload_n 1, 1) := by decide +kernel
theorem dX5_sumOfBrightness_30 : decode cX5_sumOfBrightness 30 = .ok (.ireturn, 1) := by decide +kernel
theorem dX5_sumOfLights_0 : decode cX5_sumOfLights 0 = .ok (.iconst 0, 1) := by decide +kernel
theorem dX5_sumOfLights_1 : decode cX5_sumOfLights 1 = .ok (.istore_n 2, 1) := by decide +kernel
theorem dX5_sumOfLights_2 : decode cX5_sumOfLights 2 = .ok (.iconst 0, 1) := by decide +kernel
theorem dX5_sumOfLights_3 : decode cX5_sumOfLights 3 = .ok (.istore_n 3, 1) := by decide +kernel
theorem dX5_sumOfLights_4 : decode cX5_sumOfLights 4 = .ok (.iload_n 3, 1) := by decide +kernel
theorem dX5_sumOfLights_5 : decode cX5_sumOfLights 5 = .ok (.aload_n 0, 1) := by decide +kernel
theorem dX5_sumOfLights_6 : decode cX5_sumOfLights 6 = .ok (.getfield 50, 3) := by decide +kernel
theorem dX5_sumOfLights_9 : decode cX5_sumOfLights 9 = .ok (.if_icmp .ge 39, 3) := by decide +kernel
theorem dX5_sumOfLights_12 : decode cX5_sumOfLights 12 = .ok (.iload_n 2, 1) := by decide +kernel
theorem dX5_sumOfLights_13 : decode cX5_sumOfLights 13 = .ok (.aload_n 0, 1) := by decide +kernel
theorem dX5_sumOfLights_14 : decode cX5_sumOfLights 14 = .ok (.iload_n 1, 1) := by decide +kernel
theorem dX5_sumOfLights_15 : decode cX5_sumOfLights 15 = .ok (.iload_n 3, 1) := by decide +kernel
theorem dX5_sumOfLights_16 : decode cX5_sumOfLights 16 = .ok (.invokevirtual 100, 3) := by decide +kernel
theorem dX5_sumOfLights_19 : decode cX5_sumOfLights 19 = .ok (.ifCond .eq 20, 3) := by decide +kernel
theorem dX5_sumOfLights_22 : decode cX5_sumOfLights 22 = .ok (.aload_n 0, 1) := by decide +kernel
theorem dX5_sumOfLights_23 : decode cX5_sumOfLights 23 = .ok (.getfield 23, 3) := by decide +kernel
theorem dX5_sumOfLights_26 : decode cX5_sumOfLights 26 = .ok (.sipush 384, 3) := by decide +kernel
theorem dX5_sumOfLights_29 : decode cX5_sumOfLights 29 = .ok (.iload_n 1, 1) := by decide +kernel
theorem dX5_sumOfLights_30 : decode cX5_sumOfLights 30 = .ok (.imul, 1) := by decide +kernel
theorem dX5_sumOfLights_31 : decode cX5_sumOfLights 31 = .ok (.iload_n 3, 1) := by decide +kernel
theorem dX5_sumOfLights_32 : decode cX5_sumOfLights 32 = .ok (.iadd, 1) := by decide +kernel
theorem dX5_sumOfLights_33 : decode cX5_sumOfLights 33 = .ok (.invokevirtual 93, 3) := by decide +kernel
theorem dX5_sumOfLights_36 : decode cX5_sumOfLights 36 = .ok (.goto 4, 3) := by decide +kernel
theorem dX5_sumOfLights_39 : decode cX5_sumOfLights 39 = .ok (.iconst 0, 1) := by decide +kernel
theorem dX5_sumOfLights_40 : decode cX5_sumOfLights 40 = .ok (.iadd, 1) := by decide +kernel
theorem dX5_sumOfLights_41 : decode cX5_sumOfLights 41 = .ok (.istore_n 2, 1) := by decide +kernel
theorem dX5_sumOfLights_42 : decode cX5_sumOfLights 42 = .ok (.iinc 3 1, 3) := by decide +kernel
theorem dX5_sumOfLights_45 : decode cX5_sumOfLights 45 = .ok (.goto (-41), 3) := by decide +kernel
theorem dX5_sumOfLights_48 : decode cX5_sumOfLights 48 = .ok (.iload_n 2, 1) := by decide +kernel
theorem dX5_sumOfLights_49 : decode cX5_sumOfLights 49 = .ok (.ireturn, 1) := by decide +kernel
theorem dX5_greatestLightOf_0 : decode cX5_greatestLightOf 0 = .ok (.iconst 0, 1) := by decide +kernel
theorem dX5_greatestLightOf_1 : decode cX5_greatestLightOf 1 = .ok (.istore_n 2, 1) := by decide +kernel
theorem dX5_greatestLightOf_2 : decode cX5_greatestLightOf 2 = .ok (.iconst 0, 1) := by decide +kernel
theorem dX5_greatestLightOf_3 : decode cX5_greatestLightOf 3 = .ok (.istore_n 3, 1) := by decide +kernel
theorem dX5_greatestLightOf_4 : decode cX5_greatestLightOf 4 = .ok (.iload_n 3, 1) := by decide +kernel
theorem dX5_greatestLightOf_5 : decode cX5_greatestLightOf 5 = .ok (.aload_n 0, 1) := by decide +kernel
theorem dX5_greatestLightOf_6 : decode cX5_greatestLightOf 6 = .ok (.getfield 50, 3) := by decide +kernel
theorem dX5_greatestLightOf_9 : decode cX5_greatestLightOf 9 = .ok (.if_icmp .ge 41, 3) := by decide +kernel
theorem dX5_greatestLightOf_12 : decode cX5_greatestLightOf 12 = .ok (.aload_n 0, 1) := by decide +kernel
theorem dX5_greatestLightOf_13 : decode cX5_greatestLightOf 13 = .ok (.iload_n 1, 1) := by decide +kernel
theorem dX5_greatestLightOf_14 : decode cX5_greatestLightOf 14 = .ok (.iload_n 3, 1) := by decide +kernel
theorem dX5_greatestLightOf_15 : decode cX5_greatestLightOf 15 = .ok (.invokevirtual 100, 3) := by decide +kernel
theorem dX5_greatestLightOf_18 : decode cX5_greatestLightOf 18 = .ok (.ifCond .eq 24, 3) := by decide +kernel
theorem dX5_greatestLightOf_21 : decode cX5_greatestLightOf 21 = .ok (.iload_n 2, 1) := by decide +kernel
theorem dX5_greatestLightOf_22 : decode cX5_greatestLightOf 22 = .ok (.aload_n 0, 1) := by decide +kernel
theorem dX5_greatestLightOf_23 : decode cX5_greatestLightOf 23 = .ok (.getfield 23, 3) := by decide +kernel
theorem dX5_greatestLightOf_26 : decode cX5_greatestLightOf 26 = .ok (.sipush 384, 3) := by decide +kernel
theorem dX5_greatestLightOf_29 : decode cX5_greatestLightOf 29 = .ok (.iload_n 1, 1) := by decide +kernel
theorem dX5_greatestLightOf_30 : decode cX5_greatestLightOf 30 = .ok (.imul, 1) := by decide +kernel
theorem dX5_greatestLightOf_31 : decode cX5_greatestLightOf 31 = .ok (.iload_n 3, 1) := by decide +kernel
theorem dX5_greatestLightOf_32 : decode cX5_greatestLightOf 32 = .ok (.iadd, 1) := by decide +kernel
theorem dX5_greatestLightOf_33 : decode cX5_greatestLightOf 33 = .ok (.invokevirtual 93, 3) := by decide +kernel
theorem dX5_greatestLightOf_36 : decode cX5_greatestLightOf 36 = .ok (.invokestatic 111, 3) := by decide +kernel
theorem dX5_greatestLightOf_39 : decode cX5_greatestLightOf 39 = .ok (.goto 4, 3) := by decide +kernel
theorem dX5_greatestLightOf_42 : decode cX5_greatestLightOf 42 = .ok (.iload_n 2, 1) := by decide +kernel
theorem dX5_greatestLightOf_43 : decode cX5_greatestLightOf 43 = .ok (.istore_n 2, 1) := by decide +kernel
theorem dX5_greatestLightOf_44 : decode cX5_greatestLightOf 44 = .ok (.iinc 3 1, 3) := by decide +kernel
theorem dX5_greatestLightOf_47 : decode cX5_greatestLightOf 47 = .ok (.goto (-43), 3) := by decide +kernel
theorem dX5_greatestLightOf_50 : decode cX5_greatestLightOf 50 = .ok (.iload_n 2, 1) := by decide +kernel
theorem dX5_greatestLightOf_51 : decode cX5_greatestLightOf 51 = .ok (.ireturn, 1) := by decide +kernel
theorem dX5_loadOf_0 : decode cX5_loadOf 0 = .ok (.aload_n 0, 1) := by decide +kernel
theorem dX5_loadOf_1 : decode cX5_loadOf 1 = .ok (.iload_n 1, 1) := by decide +kernel
theorem dX5_loadOf_2 : decode cX5_loadOf 2 = .ok (.invokevirtual 116, 3) := by decide +kernel
theorem dX5_loadOf_5 : decode cX5_loadOf 5 = .ok (.iload_n 2, 1) := by decide +kernel
theorem dX5_loadOf_6 : decode cX5_loadOf 6 = .ok (.imul, 1) := by decide +kernel
theorem dX5_loadOf_7 : decode cX5_loadOf 7 = .ok (.istore_n 3, 1) := by decide +kernel
theorem dX5_loadOf_8 : decode cX5_loadOf 8 = .ok (.iload_n 3, 1) := by decide +kernel
theorem dX5_loadOf_9 : decode cX5_loadOf 9 = .ok (.ifCond .le 16, 3) := by decide +kernel
theorem dX5_loadOf_12 : decode cX5_loadOf 12 = .ok (.bipush 100, 2) := by decide +kernel
theorem dX5_loadOf_14 : decode cX5_loadOf 14 = .ok (.aload_n 0, 1) := by decide +kernel
theorem dX5_loadOf_15 : decode cX5_loadOf 15 = .ok (.iload_n 1, 1) := by decide +kernel
theorem dX5_loadOf_16 : decode cX5_loadOf 16 = .ok (.invokevirtual 119, 3) := by decide +kernel
theorem dX5_loadOf_19 : decode cX5_loadOf 19 = .ok (.imul, 1) := by decide +kernel
theorem dX5_loadOf_20 : decode cX5_loadOf 20 = .ok (.iload_n 3, 1) := by decide +kernel
theorem dX5_loadOf_21 : decode cX5_loadOf 21 = .ok (.idiv, 1) := by decide +kernel
theorem dX5_loadOf_22 : decode cX5_loadOf 22 = .ok (.goto 4, 3) := by decide +kernel
theorem dX5_loadOf_25 : decode cX5_loadOf 25 = .ok (.iconst 0, 1) := by decide +kernel
theorem dX5_loadOf_26 : decode cX5_loadOf 26 = .ok (.ireturn, 1) := by decide +kernel
theorem dX6_init_0 : decode cX6_init 0 = .ok (.aload_n 0, 1) := by decide +kernel
theorem dX6_init_1 : decode cX6_init 1 = .ok (.invokespecial 3, 3) := by decide +kernel
theorem dX6_init_4 : decode cX6_init 4 = .ok (.aload_n 0, 1) := by decide +kernel
theorem dX6_init_5 : decode cX6_init 5 = .ok (.new 9, 3) := by decide +kernel
theorem dX6_init_8 : decode cX6_init 8 = .ok (.dup, 1) := by decide +kernel
theorem dX6_init_9 : decode cX6_init 9 = .ok (.invokespecial 11, 3) := by decide +kernel
theorem dX6_init_12 : decode cX6_init 12 = .ok (.putfield 12, 3) := by decide +kernel
theorem dX6_init_15 : decode cX6_init 15 = .ok (.aload_n 0, 1) := by decide +kernel
theorem dX6_init_16 : decode cX6_init 16 = .ok (.new 16, 3) := by decide +kernel
theorem dX6_init_19 : decode cX6_init 19 = .ok (.dup, 1) := by decide +kernel
theorem dX6_init_20 : decode cX6_init 20 = .ok (.invokespecial 18, 3) := by decide +kernel
theorem dX6_init_23 : decode cX6_init 23 = .ok (.putfield 19, 3) := by decide +kernel
theorem dX6_init_26 : decode cX6_init 26 = .ok (.aload_n 0, 1) := by decide +kernel
theorem dX6_init_27 : decode cX6_init 27 = .ok (.new 23, 3) := by decide +kernel
theorem dX6_init_30 : decode cX6_init 30 = .ok (.dup, 1) := by decide +kernel
theorem dX6_init_31 : decode cX6_init 31 = .ok (.invokespecial 25, 3) := by decide +kernel
theorem dX6_init_34 : decode cX6_init 34 = .ok (.putfield 26, 3) := by decide +kernel
theorem dX6_init_37 : decode cX6_init 37 = .ok (.aload_n 0, 1) := by decide +kernel
theorem dX6_init_38 : decode cX6_init 38 = .ok (.new 30, 3) := by decide +kernel
theorem dX6_init_41 : decode cX6_init 41 = .ok (.dup, 1) := by decide +kernel
theorem dX6_init_42 : decode cX6_init 42 = .ok (.invokespecial 32, 3) := by decide +kernel
theorem dX6_init_45 : decode cX6_init 45 = .ok (.putfield 33, 3) := by decide +kernel
theorem dX6_init_48 : decode cX6_init 48 = .ok (.aload_n 0, 1) := by decide +kernel
theorem dX6_init_49 : decode cX6_init 49 = .ok (.new 37, 3) := by decide +kernel
theorem dX6_init_52 : decode cX6_init 52 = .ok (.dup, 1) := by decide +kernel
theorem dX6_init_53 : decode cX6_init 53 = .ok (.invokespecial 39, 3) := by decide +kernel
theorem dX6_init_56 : decode cX6_init 56 = .ok (.putfield 40, 3) := by decide +kernel
theorem dX6_init_59 : decode cX6_init 59 = .ok (.return_, 1) := by decide +kernel
theorem dX6_begin_0 : decode cX6_begin 0 = .ok (.iload_n 1, 1) := by decide +kernel
theorem dX6_begin_1 : decode cX6_begin 1 = .ok (.iload_n 2, 1) := by decide +kernel
theorem dX6_begin_2 : decode cX6_begin 2 = .ok (.invokestatic 44, 3) := by decide +kernel
theorem dX6_begin_5 : decode cX6_begin 5 = .ok (.invokestatic 48, 3) := by decide +kernel
theorem dX6_begin_8 : decode cX6_begin 8 = .ok (.aload_n 0, 1) := by decide +kernel
theorem dX6_begin_9 : decode cX6_begin 9 = .ok (.getfield 33, 3) := by decide +kernel
theorem dX6_begin_12 : decode cX6_begin 12 = .ok (.aload_n 0, 1) := by decide +kernel
theorem dX6_begin_13 : decode cX6_begin 13 = .ok (.getfield 12, 3) := by decide +kernel
theorem dX6_begin_16 : decode cX6_begin 16 = .ok (.invokevirtual 52, 3) := by decide +kernel
theorem dX6_begin_19 : decode cX6_begin 19 = .ok (.aload_n 0, 1) := by decide +kernel
theorem dX6_begin_20 : decode cX6_begin 20 = .ok (.getfield 12, 3) := by decide +kernel
theorem dX6_begin_23 : decode cX6_begin 23 = .ok (.invokevirtual 56, 3) := by decide +kernel
theorem dX6_begin_26 : decode cX6_begin 26 = .ok (.istore_n 3, 1) := by decide +kernel
theorem dX6_begin_27 : decode cX6_begin 27 = .ok (.aload_n 0, 1) := by decide +kernel
theorem dX6_begin_28 : decode cX6_begin 28 = .ok (.getfield 12, 3) := by decide +kernel
theorem dX6_begin_31 : decode cX6_begin 31 = .ok (.iload_n 1, 1) := by decide +kernel
theorem dX6_begin_32 : decode cX6_begin 32 = .ok (.iload_n 2, 1) := by decide +kernel
theorem dX6_begin_33 : decode cX6_begin 33 = .ok (.invokevirtual 60, 3) := by decide +kernel
theorem dX6_begin_36 : decode cX6_begin 36 = .ok (.iload_n 3, 1) := by decide +kernel
theorem dX6_begin_37 : decode cX6_begin 37 = .ok (.ireturn, 1) := by decide +kernel
theorem dX6_paint_0 : decode cX6_paint 0 = .ok (.aload_n 0, 1) := by decide +kernel
theorem dX6_paint_1 : decode cX6_paint 1 = .ok (.iload_n 1, 1) := by decide +kernel
theorem dX6_paint_2 : decode cX6_paint 2 = .ok (.iload_n 2, 1) := by decide +kernel
theorem dX6_paint_3 : decode cX6_paint 3 = .ok (.iload_n 3, 1) := by decide +kernel
theorem dX6_paint_4 : decode cX6_paint 4 = .ok (.iload 4, 2) := by decide +kernel
theorem dX6_paint_6 : decode cX6_paint 6 = .ok (.iload 5, 2) := by decide +kernel
theorem dX6_paint_8 : decode cX6_paint 8 = .ok (.invokevirtual 64, 3) := by decide +kernel
theorem dX6_paint_11 : decode cX6_paint 11 = .ok (.istore 6, 2) := by decide +kernel
theorem dX6_paint_13 : decode cX6_paint 13 = .ok (.iload 6, 2) := by decide +kernel
theorem dX6_paint_15 : decode cX6_paint 15 = .ok (.invokestatic 68, 3) := by decide +kernel
theorem dX6_paint_18 : decode cX6_paint 18 = .ok (.iload 6, 2) := by decide +kernel
theorem dX6_paint_20 : decode cX6_paint 20 = .ok (.invokestatic 48, 3) := by decide +kernel
theorem dX6_paint_23 : decode cX6_paint 23 = .ok (.aload_n 0, 1) := by decide +kernel
theorem dX6_paint_24 : decode cX6_paint 24 = .ok (.getfield 33, 3) := by decide +kernel
theorem dX6_paint_27 : decode cX6_paint 27 = .ok (.aload_n 0, 1) := by decide +kernel
theorem dX6_paint_28 : decode cX6_paint 28 = .ok (.getfield 12, 3) := by decide +kernel
theorem dX6_paint_31 : decode cX6_paint 31 = .ok (.invokevirtual 52, 3) := by decide +kernel
theorem dX6_paint_34 : decode cX6_paint 34 = .ok (.aload_n 0, 1) := by decide +kernel
theorem dX6_paint_35 : decode cX6_paint 35 = .ok (.getfield 12, 3) := by decide +kernel
theorem dX6_paint_38 : decode cX6_paint 38 = .ok (.iload_n 1, 1) := by decide +kernel
theorem dX6_paint_39 : decode cX6_paint 39 = .ok (.iload_n 2, 1) := by decide +kernel
theorem dX6_paint_40 : decode cX6_paint 40 = .ok (.iload_n 3, 1) := by decide +kernel
theorem dX6_paint_41 : decode cX6_paint 41 = .ok (.iload 4, 2) := by decide +kernel
theorem dX6_paint_43 : decode cX6_paint 43 = .ok (.iload 5, 2) := by decide +kernel
theorem dX6_paint_45 : decode cX6_paint 45 = .ok (.invokevirtual 71, 3) := by decide +kernel
theorem dX6_paint_48 : decode cX6_paint 48 = .ok (.ireturn, 1) := by decide +kernel
theorem dX6_addLamp_0 : decode cX6_addLamp 0 = .ok (.aload_n 0, 1) := by decide +kernel
theorem dX6_addLamp_1 : decode cX6_addLamp 1 = .ok (.iload_n 1, 1) := by decide +kernel
theorem dX6_addLamp_2 : decode cX6_addLamp 2 = .ok (.iload_n 2, 1) := by decide +kernel
theorem dX6_addLamp_3 : decode cX6_addLamp 3 = .ok (.invokevirtual 74, 3) := by decide +kernel
theorem dX6_addLamp_6 : decode cX6_addLamp 6 = .ok (.istore_n 3, 1) := by decide +kernel
theorem dX6_addLamp_7 : decode cX6_addLamp 7 = .ok (.iload_n 3, 1) := by decide +kernel
theorem dX6_addLamp_8 : decode cX6_addLamp 8 = .ok (.invokestatic 48, 3) := by decide +kernel
theorem dX6_addLamp_11 : decode cX6_addLamp 11 = .ok (.iload_n 3, 1) := by decide +kernel
theorem dX6_addLamp_12 : decode cX6_addLamp 12 = .ok (.invokestatic 77, 3) := by decide +kernel
theorem dX6_addLamp_15 : decode cX6_addLamp 15 = .ok (.aload_n 0, 1) := by decide +kernel
theorem dX6_addLamp_16 : decode cX6_addLamp 16 = .ok (.getfield 33, 3) := by decide +kernel
theorem dX6_addLamp_19 : decode cX6_addLamp 19 = .ok (.aload_n 0, 1) := by decide +kernel
theorem dX6_addLamp_20 : decode cX6_addLamp 20 = .ok (.getfield 12, 3) := by decide +kernel
theorem dX6_addLamp_23 : decode cX6_addLamp 23 = .ok (.invokevirtual 52, 3) := by decide +kernel
theorem dX6_addLamp_26 : decode cX6_addLamp 26 = .ok (.aload_n 0, 1) := by decide +kernel
theorem dX6_addLamp_27 : decode cX6_addLamp 27 = .ok (.getfield 12, 3) := by decide +kernel
theorem dX6_addLamp_30 : decode cX6_addLamp 30 = .ok (.iload_n 1, 1) := by decide +kernel
theorem dX6_addLamp_31 : decode cX6_addLamp 31 = .ok (.iload_n 2, 1) := by decide +kernel
theorem dX6_addLamp_32 : decode cX6_addLamp 32 = .ok (.invokevirtual 80, 3) := by decide +kernel
theorem dX6_addLamp_35 : decode cX6_addLamp 35 = .ok (.ireturn, 1) := by decide +kernel
theorem dX6_setCorner_0 : decode cX6_setCorner 0 = .ok (.aload_n 0, 1) := by decide +kernel
theorem dX6_setCorner_1 : decode cX6_setCorner 1 = .ok (.iload_n 1, 1) := by decide +kernel
theorem dX6_setCorner_2 : decode cX6_setCorner 2 = .ok (.iload_n 2, 1) := by decide +kernel
theorem dX6_setCorner_3 : decode cX6_setCorner 3 = .ok (.iload_n 3, 1) := by decide +kernel
theorem dX6_setCorner_4 : decode cX6_setCorner 4 = .ok (.iload 4, 2) := by decide +kernel
theorem dX6_setCorner_6 : decode cX6_setCorner 6 = .ok (.invokevirtual 83, 3) := by decide +kernel
theorem dX6_setCorner_9 : decode cX6_setCorner 9 = .ok (.istore 5, 2) := by decide +kernel
theorem dX6_setCorner_11 : decode cX6_setCorner 11 = .ok (.iload 5, 2) := by decide +kernel
theorem dX6_setCorner_13 : decode cX6_setCorner 13 = .ok (.invokestatic 68, 3) := by decide +kernel
theorem dX6_setCorner_16 : decode cX6_setCorner 16 = .ok (.iload 5, 2) := by decide +kernel
theorem dX6_setCorner_18 : decode cX6_setCorner 18 = .ok (.invokestatic 48, 3) := by decide +kernel
theorem dX6_setCorner_21 : decode cX6_setCorner 21 = .ok (.aload_n 0, 1) := by decide +kernel
theorem dX6_setCorner_22 : decode cX6_setCorner 22 = .ok (.getfield 33, 3) := by decide +kernel
theorem dX6_setCorner_25 : decode cX6_setCorner 25 = .ok (.aload_n 0, 1) := by decide +kernel
theorem dX6_setCorner_26 : decode cX6_setCorner 26 = .ok (.getfield 12, 3) := by decide +kernel
theorem dX6_setCorner_29 : decode cX6_setCorner 29 = .ok (.invokevirtual 52, 3) := by decide +kernel
theorem dX6_setCorner_32 : decode cX6_setCorner 32 = .ok (.aload_n 0, 1) := by decide +kernel
theorem dX6_setCorner_33 : decode cX6_setCorner 33 = .ok (.getfield 12, 3) := by decide +kernel
theorem dX6_setCorner_36 : decode cX6_setCorner 36 = .ok (.iload_n 1, 1) := by decide +kernel
theorem dX6_setCorner_37 : decode cX6_setCorner 37 = .ok (.iload_n 2, 1) := by decide +kernel
theorem dX6_setCorner_38 : decode cX6_setCorner 38 = .ok (.iload_n 3, 1) := by decide +kernel
theorem dX6_setCorner_39 : decode cX6_setCorner 39 = .ok (.iload 4, 2) := by decide +kernel
theorem dX6_setCorner_41 : decode cX6_setCorner 41 = .ok (.invokevirtual 87, 3) := by decide +kernel
theorem dX6_setCorner_44 : decode cX6_setCorner 44 = .ok (.aload_n 0, 1) := by decide +kernel
theorem dX6_setCorner_45 : decode cX6_setCorner 45 = .ok (.getfield 12, 3) := by decide +kernel
theorem dX6_setCorner_48 : decode cX6_setCorner 48 = .ok (.iload_n 1, 1) := by decide +kernel
theorem dX6_setCorner_49 : decode cX6_setCorner 49 = .ok (.invokevirtual 91, 3) := by decide +kernel
theorem dX6_setCorner_52 : decode cX6_setCorner 52 = .ok (.ifCond .eq 7, 3) := by decide +kernel
theorem dX6_setCorner_55 : decode cX6_setCorner 55 = .ok (.iconst 1, 1) := by decide +kernel
theorem dX6_setCorner_56 : decode cX6_setCorner 56 = .ok (.goto 4, 3) := by decide +kernel
theorem dX6_setCorner_59 : decode cX6_setCorner 59 = .ok (.iconst 0, 1) := by decide +kernel
theorem dX6_setCorner_60 : decode cX6_setCorner 60 = .ok (.ireturn, 1) := by decide +kernel
theorem dX6_setRectangle_0 : decode cX6_setRectangle 0 = .ok (.aload_n 0, 1) := by decide +kernel
theorem dX6_setRectangle_1 : decode cX6_setRectangle 1 = .ok (.iload_n 1, 1) := by decide +kernel
theorem dX6_setRectangle_2 : decode cX6_setRectangle 2 = .ok (.iload_n 2, 1) := by decide +kernel
theorem dX6_setRectangle_3 : decode cX6_setRectangle 3 = .ok (.iload_n 3, 1) := by decide +kernel
theorem dX6_setRectangle_4 : decode cX6_setRectangle 4 = .ok (.iload 4, 2) := by decide +kernel
theorem dX6_setRectangle_6 : decode cX6_setRectangle 6 = .ok (.iload 5, 2) := by decide +kernel
theorem dX6_setRectangle_8 : decode cX6_setRectangle 8 = .ok (.invokevirtual 95, 3) := by decide +kernel
theorem dX6_setRectangle_11 : decode cX6_setRectangle 11 = .ok (.istore 6, 2) := by decide +kernel
theorem dX6_setRectangle_13 : decode cX6_setRectangle 13 = .ok (.iload 6, 2) := by decide +kernel
theorem dX6_setRectangle_15 : decode cX6_setRectangle 15 = .ok (.invokestatic 68, 3) := by decide +kernel
theorem dX6_setRectangle_18 : decode cX6_setRectangle 18 = .ok (.iload 6, 2) := by decide +kernel
theorem dX6_setRectangle_20 : decode cX6_setRectangle 20 = .ok (.invokestatic 48, 3) := by decide +kernel
theorem dX6_setRectangle_23 : decode cX6_setRectangle 23 = .ok (.aload_n 0, 1) := by decide +kernel
theorem dX6_setRectangle_24 : decode cX6_setRectangle 24 = .ok (.getfield 33, 3) := by decide +kernel
theorem dX6_setRectangle_27 : decode cX6_setRectangle 27 = .ok (.aload_n 0, 1) := by decide +kernel
theorem dX6_setRectangle_28 : decode cX6_setRectangle 28 = .ok (.getfield 12, 3) := by decide +kernel
theorem dX6_setRectangle_31 : decode cX6_setRectangle 31 = .ok (.invokevirtual 52, 3) := by decide +kernel
theorem dX6_setRectangle_34 : decode cX6_setRectangle 34 = .ok (.aload_n 0, 1) := by decide +kernel
theorem dX6_setRectangle_35 : decode cX6_setRectangle 35 = .ok (.getfield 12, 3) := by decide +kernel
theorem dX6_setRectangle_38 : decode cX6_setRectangle 38 = .ok (.iload_n 1, 1) := by decide +kernel
theorem dX6_setRectangle_39 : decode cX6_setRectangle 39 = .ok (.iconst 0, 1) := by decide +kernel
theorem dX6_setRectangle_40 : decode cX6_setRectangle 40 = .ok (.iload_n 2, 1) := by decide +kernel
theorem dX6_setRectangle_41 : decode cX6_setRectangle 41 = .ok (.iload_n 3, 1) := by decide +kernel
theorem dX6_setRectangle_42 : decode cX6_setRectangle 42 = .ok (.invokevirtual 87, 3) := by decide +kernel
theorem dX6_setRectangle_45 : decode cX6_setRectangle 45 = .ok (.aload_n 0, 1) := by decide +kernel
theorem dX6_setRectangle_46 : decode cX6_setRectangle 46 = .ok (.getfield 12, 3) := by decide +kernel
theorem dX6_setRectangle_49 : decode cX6_setRectangle 49 = .ok (.iload_n 1, 1) := by decide +kernel
theorem dX6_setRectangle_50 : decode cX6_setRectangle 50 = .ok (.iconst 1, 1) := by decide +kernel
theorem dX6_setRectangle_51 : decode cX6_setRectangle 51 = .ok (.iload 4, 2) := by decide +kernel
theorem dX6_setRectangle_53 : decode cX6_setRectangle 53 = .ok (.iload_n 3, 1) := by decide +kernel
theorem dX6_setRectangle_54 : decode cX6_setRectangle 54 = .ok (.invokevirtual 87, 3) := by decide +kernel
theorem dX6_setRectangle_57 : decode cX6_setRectangle 57 = .ok (.aload_n 0, 1) := by decide +kernel
theorem dX6_setRectangle_58 : decode cX6_setRectangle 58 = .ok (.getfield 12, 3) := by decide +kernel
theorem dX6_setRectangle_61 : decode cX6_setRectangle 61 = .ok (.iload_n 1, 1) := by decide +kernel
theorem dX6_setRectangle_62 : decode cX6_setRectangle 62 = .ok (.iconst 2, 1) := by decide +kernel
theorem dX6_setRectangle_63 : decode cX6_setRectangle 63 = .ok (.iload 4, 2) := by decide +kernel
theorem dX6_setRectangle_65 : decode cX6_setRectangle 65 = .ok (.iload 5, 2) := by decide +kernel
theorem dX6_setRectangle_67 : decode cX6_setRectangle 67 = .ok (.invokevirtual 87, 3) := by decide +kernel
theorem dX6_setRectangle_70 : decode cX6_setRectangle 70 = .ok (.aload_n 0, 1) := by decide +kernel
theorem dX6_setRectangle_71 : decode cX6_setRectangle 71 = .ok (.getfield 12, 3) := by decide +kernel
theorem dX6_setRectangle_74 : decode cX6_setRectangle 74 = .ok (.iload_n 1, 1) := by decide +kernel
theorem dX6_setRectangle_75 : decode cX6_setRectangle 75 = .ok (.iconst 3, 1) := by decide +kernel
theorem dX6_setRectangle_76 : decode cX6_setRectangle 76 = .ok (.iload_n 2, 1) := by decide +kernel
theorem dX6_setRectangle_77 : decode cX6_setRectangle 77 = .ok (.iload 5, 2) := by decide +kernel
theorem dX6_setRectangle_79 : decode cX6_setRectangle 79 = .ok (.invokevirtual 87, 3) := by decide +kernel
theorem dX6_setRectangle_82 : decode cX6_setRectangle 82 = .ok (.aload_n 0, 1) := by decide +kernel
theorem dX6_setRectangle_83 : decode cX6_setRectangle 83 = .ok (.getfield 19, 3) := by decide +kernel
theorem dX6_setRectangle_86 : decode cX6_setRectangle 86 = .ok (.aload_n 0, 1) := by decide +kernel
theorem dX6_setRectangle_87 : decode cX6_setRectangle 87 = .ok (.getfield 12, 3) := by decide +kernel
theorem dX6_setRectangle_90 : decode cX6_setRectangle 90 = .ok (.invokevirtual 98, 3) := by decide +kernel
theorem dX6_setRectangle_93 : decode cX6_setRectangle 93 = .ok (.aload_n 0, 1) := by decide +kernel
theorem dX6_setRectangle_94 : decode cX6_setRectangle 94 = .ok (.getfield 19, 3) := by decide +kernel
theorem dX6_setRectangle_97 : decode cX6_setRectangle 97 = .ok (.iload_n 1, 1) := by decide +kernel
theorem dX6_setRectangle_98 : decode cX6_setRectangle 98 = .ok (.invokevirtual 101, 3) := by decide +kernel
theorem dX6_setRectangle_101 : decode cX6_setRectangle 101 = .ok (.ireturn, 1) := by decide +kernel
theorem dX6_setLamp_0 : decode cX6_setLamp 0 = .ok (.aload_n 0, 1) := by decide +kernel
theorem dX6_setLamp_1 : decode cX6_setLamp 1 = .ok (.iload_n 1, 1) := by decide +kernel
theorem dX6_setLamp_2 : decode cX6_setLamp 2 = .ok (.iload_n 2, 1) := by decide +kernel
theorem dX6_setLamp_3 : decode cX6_setLamp 3 = .ok (.iload_n 3, 1) := by decide +kernel
theorem dX6_setLamp_4 : decode cX6_setLamp 4 = .ok (.invokevirtual 105, 3) := by decide +kernel
theorem dX6_setLamp_7 : decode cX6_setLamp 7 = .ok (.istore 4, 2) := by decide +kernel
theorem dX6_setLamp_9 : decode cX6_setLamp 9 = .ok (.iload 4, 2) := by decide +kernel
theorem dX6_setLamp_11 : decode cX6_setLamp 11 = .ok (.invokestatic 68, 3) := by decide +kernel
theorem dX6_setLamp_14 : decode cX6_setLamp 14 = .ok (.iload 4, 2) := by decide +kernel
theorem dX6_setLamp_16 : decode cX6_setLamp 16 = .ok (.invokestatic 48, 3) := by decide +kernel
theorem dX6_setLamp_19 : decode cX6_setLamp 19 = .ok (.aload_n 0, 1) := by decide +kernel
theorem dX6_setLamp_20 : decode cX6_setLamp 20 = .ok (.getfield 33, 3) := by decide +kernel
theorem dX6_setLamp_23 : decode cX6_setLamp 23 = .ok (.aload_n 0, 1) := by decide +kernel
theorem dX6_setLamp_24 : decode cX6_setLamp 24 = .ok (.getfield 12, 3) := by decide +kernel
theorem dX6_setLamp_27 : decode cX6_setLamp 27 = .ok (.invokevirtual 52, 3) := by decide +kernel
theorem dX6_setLamp_30 : decode cX6_setLamp 30 = .ok (.aload_n 0, 1) := by decide +kernel
theorem dX6_setLamp_31 : decode cX6_setLamp 31 = .ok (.iload_n 1, 1) := by decide +kernel
theorem dX6_setLamp_32 : decode cX6_setLamp 32 = .ok (.iload_n 2, 1) := by decide +kernel
theorem dX6_setLamp_33 : decode cX6_setLamp 33 = .ok (.invokevirtual 109, 3) := by decide +kernel
theorem dX6_setLamp_36 : decode cX6_setLamp 36 = .ok (.istore 5, 2) := by decide +kernel
theorem dX6_setLamp_38 : decode cX6_setLamp 38 = .ok (.aload_n 0, 1) := by decide +kernel
theorem dX6_setLamp_39 : decode cX6_setLamp 39 = .ok (.getfield 12, 3) := by decide +kernel
theorem dX6_setLamp_42 : decode cX6_setLamp 42 = .ok (.iload_n 1, 1) := by decide +kernel
theorem dX6_setLamp_43 : decode cX6_setLamp 43 = .ok (.iload_n 2, 1) := by decide +kernel
theorem dX6_setLamp_44 : decode cX6_setLamp 44 = .ok (.iload_n 3, 1) := by decide +kernel
theorem dX6_setLamp_45 : decode cX6_setLamp 45 = .ok (.invokevirtual 112, 3) := by decide +kernel
theorem dX6_setLamp_48 : decode cX6_setLamp 48 = .ok (.iload 5, 2) := by decide +kernel
theorem dX6_setLamp_50 : decode cX6_setLamp 50 = .ok (.ireturn, 1) := by decide +kernel
theorem dX6_setWorks_0 : decode cX6_setWorks 0 = .ok (.aload_n 0, 1) := by decide +kernel
theorem dX6_setWorks_1 : decode cX6_setWorks 1 = .ok (.iload_n 1, 1) := by decide +kernel
theorem dX6_setWorks_2 : decode cX6_setWorks 2 = .ok (.invokevirtual 116, 3) := by decide +kernel
theorem dX6_setWorks_5 : decode cX6_setWorks 5 = .ok (.invokestatic 68, 3) := by decide +kernel
theorem dX6_setWorks_8 : decode cX6_setWorks 8 = .ok (.aload_n 0, 1) := by decide +kernel
theorem dX6_setWorks_9 : decode cX6_setWorks 9 = .ok (.getfield 33, 3) := by decide +kernel
theorem dX6_setWorks_12 : decode cX6_setWorks 12 = .ok (.aload_n 0, 1) := by decide +kernel
theorem dX6_setWorks_13 : decode cX6_setWorks 13 = .ok (.getfield 12, 3) := by decide +kernel
theorem dX6_setWorks_16 : decode cX6_setWorks 16 = .ok (.invokevirtual 52, 3) := by decide +kernel
theorem dX6_setWorks_19 : decode cX6_setWorks 19 = .ok (.aload_n 0, 1) := by decide +kernel
theorem dX6_setWorks_20 : decode cX6_setWorks 20 = .ok (.getfield 12, 3) := by decide +kernel
theorem dX6_setWorks_23 : decode cX6_setWorks 23 = .ok (.iload_n 1, 1) := by decide +kernel
theorem dX6_setWorks_24 : decode cX6_setWorks 24 = .ok (.invokevirtual 119, 3) := by decide +kernel
theorem dX6_setWorks_27 : decode cX6_setWorks 27 = .ok (.ifCond .eq 7, 3) := by decide +kernel
theorem dX6_setWorks_30 : decode cX6_setWorks 30 = .ok (.iconst 1, 1) := by decide +kernel
theorem dX6_setWorks_31 : decode cX6_setWorks 31 = .ok (.goto 4, 3) := by decide +kernel
theorem dX6_setWorks_34 : decode cX6_setWorks 34 = .ok (.iconst 0, 1) := by decide +kernel
theorem dX6_setWorks_35 : decode cX6_setWorks 35 = .ok (.istore_n 3, 1) := by decide +kernel
theorem dX6_setWorks_36 : decode cX6_setWorks 36 = .ok (.aload_n 0, 1) := by decide +kernel
theorem dX6_setWorks_37 : decode cX6_setWorks 37 = .ok (.getfield 12, 3) := by decide +kernel
theorem dX6_setWorks_40 : decode cX6_setWorks 40 = .ok (.iload_n 1, 1) := by decide +kernel
theorem dX6_setWorks_41 : decode cX6_setWorks 41 = .ok (.iload_n 2, 1) := by decide +kernel
theorem dX6_setWorks_42 : decode cX6_setWorks 42 = .ok (.invokevirtual 122, 3) := by decide +kernel
theorem dX6_setWorks_45 : decode cX6_setWorks 45 = .ok (.iload_n 3, 1) := by decide +kernel
theorem dX6_setWorks_46 : decode cX6_setWorks 46 = .ok (.ireturn, 1) := by decide +kernel
theorem dX6_shift_0 : decode cX6_shift 0 = .ok (.iload_n 1, 1) := by decide +kernel
theorem dX6_shift_1 : decode cX6_shift 1 = .ok (.iload_n 2, 1) := by decide +kernel
theorem dX6_shift_2 : decode cX6_shift 2 = .ok (.invokestatic 126, 3) := by decide +kernel
theorem dX6_shift_5 : decode cX6_shift 5 = .ok (.invokestatic 48, 3) := by decide +kernel
theorem dX6_shift_8 : decode cX6_shift 8 = .ok (.aload_n 0, 1) := by decide +kernel
theorem dX6_shift_9 : decode cX6_shift 9 = .ok (.getfield 33, 3) := by decide +kernel
theorem dX6_shift_12 : decode cX6_shift 12 = .ok (.aload_n 0, 1) := by decide +kernel
theorem dX6_shift_13 : decode cX6_shift 13 = .ok (.getfield 12, 3) := by decide +kernel
theorem dX6_shift_16 : decode cX6_shift 16 = .ok (.invokevirtual 52, 3) := by decide +kernel
theorem dX6_shift_19 : decode cX6_shift 19 = .ok (.aload_n 0, 1) := by decide +kernel
theorem dX6_shift_20 : decode cX6_shift 20 = .ok (.getfield 12, 3) := by decide +kernel
theorem dX6_shift_23 : decode cX6_shift 23 = .ok (.iload_n 1, 1) := by decide +kernel
theorem dX6_shift_24 : decode cX6_shift 24 = .ok (.iload_n 2, 1) := by decide +kernel
theorem dX6_shift_25 : decode cX6_shift 25 = .ok (.invokevirtual 129, 3) := by decide +kernel
theorem dX6_shift_28 : decode cX6_shift 28 = .ok (.aload_n 0, 1) := by decide +kernel
theorem dX6_shift_29 : decode cX6_shift 29 = .ok (.getfield 19, 3) := by decide +kernel
theorem dX6_shift_32 : decode cX6_shift 32 = .ok (.aload_n 0, 1) := by decide +kernel
theorem dX6_shift_33 : decode cX6_shift 33 = .ok (.getfield 12, 3) := by decide +kernel
theorem dX6_shift_36 : decode cX6_shift 36 = .ok (.invokevirtual 98, 3) := by decide +kernel
theorem dX6_shift_39 : decode cX6_shift 39 = .ok (.aload_n 0, 1) := by decide +kernel
theorem dX6_shift_40 : decode cX6_shift 40 = .ok (.getfield 19, 3) := by decide +kernel
theorem dX6_shift_43 : decode cX6_shift 43 = .ok (.invokevirtual 132, 3) := by decide +kernel
theorem dX6_shift_46 : decode cX6_shift 46 = .ok (.ireturn, 1) := by decide +kernel
theorem dX6_burn_0 : decode cX6_burn 0 = .ok (.iload_n 1, 1) := by decide +kernel
theorem dX6_burn_1 : decode cX6_burn 1 = .ok (.invokestatic 135, 3) := by decide +kernel
theorem dX6_burn_4 : decode cX6_burn 4 = .ok (.invokestatic 48, 3) := by decide +kernel
theorem dX6_burn_7 : decode cX6_burn 7 = .ok (.aload_n 0, 1) := by decide +kernel
theorem dX6_burn_8 : decode cX6_burn 8 = .ok (.getfield 33, 3) := by decide +kernel
theorem dX6_burn_11 : decode cX6_burn 11 = .ok (.aload_n 0, 1) := by decide +kernel
theorem dX6_burn_12 : decode cX6_burn 12 = .ok (.getfield 12, 3) := by decide +kernel
theorem dX6_burn_15 : decode cX6_burn 15 = .ok (.invokevirtual 52, 3) := by decide +kernel
theorem dX6_burn_18 : decode cX6_burn 18 = .ok (.aload_n 0, 1) := by decide +kernel
theorem dX6_burn_19 : decode cX6_burn 19 = .ok (.iload_n 1, 1) := by decide +kernel
theorem dX6_burn_20 : decode cX6_burn 20 = .ok (.invokevirtual 138, 3) := by decide +kernel
theorem dX6_burn_23 : decode cX6_burn 23 = .ok (.aload_n 0, 1) := by decide +kernel
theorem dX6_burn_24 : decode cX6_burn 24 = .ok (.getfield 12, 3) := by decide +kernel
theorem dX6_burn_27 : decode cX6_burn 27 = .ok (.invokevirtual 141, 3) := by decide +kernel
theorem dX6_burn_30 : decode cX6_burn 30 = .ok (.ireturn, 1) := by decide +kernel
theorem dX6_place_0 : decode cX6_place 0 = .ok (.aload_n 0, 1) := by decide +kernel
theorem dX6_place_1 : decode cX6_place 1 = .ok (.iload_n 1, 1) := by decide +kernel
theorem dX6_place_2 : decode cX6_place 2 = .ok (.iload_n 2, 1) := by decide +kernel
theorem dX6_place_3 : decode cX6_place 3 = .ok (.invokevirtual 144, 3) := by decide +kernel
theorem dX6_place_6 : decode cX6_place 6 = .ok (.invokestatic 68, 3) := by decide +kernel
theorem dX6_place_9 : decode cX6_place 9 = .ok (.iload_n 3, 1) := by decide +kernel
theorem dX6_place_10 : decode cX6_place 10 = .ok (.iconst 0, 1) := by decide +kernel
theorem dX6_place_11 : decode cX6_place 11 = .ok (.iconst 5, 1) := by decide +kernel
theorem dX6_place_12 : decode cX6_place 12 = .ok (.invokestatic 147, 3) := by decide +kernel
theorem dX6_place_15 : decode cX6_place 15 = .ok (.invokestatic 48, 3) := by decide +kernel
theorem dX6_place_18 : decode cX6_place 18 = .ok (.aload_n 0, 1) := by decide +kernel
theorem dX6_place_19 : decode cX6_place 19 = .ok (.aload_n 0, 1) := by decide +kernel
theorem dX6_place_20 : decode cX6_place 20 = .ok (.getfield 12, 3) := by decide +kernel
theorem dX6_place_23 : decode cX6_place 23 = .ok (.iload_n 1, 1) := by decide +kernel
theorem dX6_place_24 : decode cX6_place 24 = .ok (.iload_n 2, 1) := by decide +kernel
theorem dX6_place_25 : decode cX6_place 25 = .ok (.invokevirtual 150, 3) := by decide +kernel
theorem dX6_place_28 : decode cX6_place 28 = .ok (.iload_n 3, 1) := by decide +kernel
theorem dX6_place_29 : decode cX6_place 29 = .ok (.invokevirtual 153, 3) := by decide +kernel
theorem dX6_place_32 : decode cX6_place 32 = .ok (.ireturn, 1) := by decide +kernel
theorem dX6_light_0 : decode cX6_light 0 = .ok (.aload_n 0, 1) := by decide +kernel
theorem dX6_light_1 : decode cX6_light 1 = .ok (.iload_n 1, 1) := by decide +kernel
theorem dX6_light_2 : decode cX6_light 2 = .ok (.invokevirtual 116, 3) := by decide +kernel
theorem dX6_light_5 : decode cX6_light 5 = .ok (.invokestatic 68, 3) := by decide +kernel
theorem dX6_light_8 : decode cX6_light 8 = .ok (.aload_n 0, 1) := by decide +kernel
theorem dX6_light_9 : decode cX6_light 9 = .ok (.iload_n 2, 1) := by decide +kernel
theorem dX6_light_10 : decode cX6_light 10 = .ok (.iload_n 3, 1) := by decide +kernel
theorem dX6_light_11 : decode cX6_light 11 = .ok (.invokevirtual 144, 3) := by decide +kernel
theorem dX6_light_14 : decode cX6_light 14 = .ok (.invokestatic 68, 3) := by decide +kernel
theorem dX6_light_17 : decode cX6_light 17 = .ok (.aload_n 0, 1) := by decide +kernel
theorem dX6_light_18 : decode cX6_light 18 = .ok (.getfield 19, 3) := by decide +kernel
theorem dX6_light_21 : decode cX6_light 21 = .ok (.aload_n 0, 1) := by decide +kernel
theorem dX6_light_22 : decode cX6_light 22 = .ok (.getfield 12, 3) := by decide +kernel
theorem dX6_light_25 : decode cX6_light 25 = .ok (.invokevirtual 98, 3) := by decide +kernel
theorem dX6_light_28 : decode cX6_light 28 = .ok (.aload_n 0, 1) := by decide +kernel
theorem dX6_light_29 : decode cX6_light 29 = .ok (.getfield 19, 3) := by decide +kernel
theorem dX6_light_32 : decode cX6_light 32 = .ok (.iload_n 1, 1) := by decide +kernel
theorem dX6_light_33 : decode cX6_light 33 = .ok (.aload_n 0, 1) := by decide +kernel
theorem dX6_light_34 : decode cX6_light 34 = .ok (.getfield 12, 3) := by decide +kernel
theorem dX6_light_37 : decode cX6_light 37 = .ok (.iload_n 2, 1) := by decide +kernel
theorem dX6_light_38 : decode cX6_light 38 = .ok (.iload_n 3, 1) := by decide +kernel
theorem dX6_light_39 : decode cX6_light 39 = .ok (.invokevirtual 150, 3) := by decide +kernel
theorem dX6_light_42 : decode cX6_light 42 = .ok (.invokevirtual 156, 3) := by decide +kernel
theorem dX6_light_45 : decode cX6_light 45 = .ok (.ireturn, 1) := by decide +kernel
theorem dX6_weight_0 : decode cX6_weight 0 = .ok (.aload_n 0, 1) := by decide +kernel
theorem dX6_weight_1 : decode cX6_weight 1 = .ok (.iload_n 1, 1) := by decide +kernel
theorem dX6_weight_2 : decode cX6_weight 2 = .ok (.invokevirtual 116, 3) := by decide +kernel
theorem dX6_weight_5 : decode cX6_weight 5 = .ok (.invokestatic 68, 3) := by decide +kernel
theorem dX6_weight_8 : decode cX6_weight 8 = .ok (.aload_n 0, 1) := by decide +kernel
theorem dX6_weight_9 : decode cX6_weight 9 = .ok (.iload_n 2, 1) := by decide +kernel
theorem dX6_weight_10 : decode cX6_weight 10 = .ok (.iload_n 3, 1) := by decide +kernel
theorem dX6_weight_11 : decode cX6_weight 11 = .ok (.invokevirtual 144, 3) := by decide +kernel
theorem dX6_weight_14 : decode cX6_weight 14 = .ok (.invokestatic 68, 3) := by decide +kernel
theorem dX6_weight_17 : decode cX6_weight 17 = .ok (.aload_n 0, 1) := by decide +kernel
theorem dX6_weight_18 : decode cX6_weight 18 = .ok (.getfield 19, 3) := by decide +kernel
theorem dX6_weight_21 : decode cX6_weight 21 = .ok (.aload_n 0, 1) := by decide +kernel
theorem dX6_weight_22 : decode cX6_weight 22 = .ok (.getfield 12, 3) := by decide +kernel
theorem dX6_weight_25 : decode cX6_weight 25 = .ok (.invokevirtual 98, 3) := by decide +kernel
theorem dX6_weight_28 : decode cX6_weight 28 = .ok (.aload_n 0, 1) := by decide +kernel
theorem dX6_weight_29 : decode cX6_weight 29 = .ok (.getfield 19, 3) := by decide +kernel
theorem dX6_weight_32 : decode cX6_weight 32 = .ok (.iload_n 1, 1) := by decide +kernel
theorem dX6_weight_33 : decode cX6_weight 33 = .ok (.aload_n 0, 1) := by decide +kernel
theorem dX6_weight_34 : decode cX6_weight 34 = .ok (.getfield 12, 3) := by decide +kernel
theorem dX6_weight_37 : decode cX6_weight 37 = .ok (.iload_n 2, 1) := by decide +kernel
theorem dX6_weight_38 : decode cX6_weight 38 = .ok (.iload_n 3, 1) := by decide +kernel
theorem dX6_weight_39 : decode cX6_weight 39 = .ok (.invokevirtual 150, 3) := by decide +kernel
theorem dX6_weight_42 : decode cX6_weight 42 = .ok (.invokevirtual 159, 3) := by decide +kernel
theorem dX6_weight_45 : decode cX6_weight 45 = .ok (.ifCond .ne 7, 3) := by decide +kernel
theorem dX6_weight_48 : decode cX6_weight 48 = .ok (.sipush (-1000), 3) := by decide +kernel
theorem dX6_weight_51 : decode cX6_weight 51 = .ok (.ireturn, 1) := by decide +kernel
theorem dX6_weight_52 : decode cX6_weight 52 = .ok (.aload_n 0, 1) := by decide +kernel
theorem dX6_weight_53 : decode cX6_weight 53 = .ok (.getfield 12, 3) := by decide +kernel
theorem dX6_weight_56 : decode cX6_weight 56 = .ok (.iload_n 1, 1) := by decide +kernel
theorem dX6_weight_57 : decode cX6_weight 57 = .ok (.iload_n 2, 1) := by decide +kernel
theorem dX6_weight_58 : decode cX6_weight 58 = .ok (.aload_n 0, 1) := by decide +kernel
theorem dX6_weight_59 : decode cX6_weight 59 = .ok (.getfield 12, 3) := by decide +kernel
theorem dX6_weight_62 : decode cX6_weight 62 = .ok (.getfield 163, 3) := by decide +kernel
theorem dX6_weight_65 : decode cX6_weight 65 = .ok (.invokestatic 167, 3) := by decide +kernel
theorem dX6_weight_68 : decode cX6_weight 68 = .ok (.iload_n 3, 1) := by decide +kernel
theorem dX6_weight_69 : decode cX6_weight 69 = .ok (.aload_n 0, 1) := by decide +kernel
theorem dX6_weight_70 : decode cX6_weight 70 = .ok (.getfield 12, 3) := by decide +kernel
theorem dX6_weight_73 : decode cX6_weight 73 = .ok (.getfield 170, 3) := by decide +kernel
theorem dX6_weight_76 : decode cX6_weight 76 = .ok (.invokestatic 167, 3) := by decide +kernel
theorem dX6_weight_79 : decode cX6_weight 79 = .ok (.invokevirtual 173, 3) := by decide +kernel
theorem dX6_weight_82 : decode cX6_weight 82 = .ok (.ireturn, 1) := by decide +kernel
theorem dX6_lamp_0 : decode cX6_lamp 0 = .ok (.aload_n 0, 1) := by decide +kernel
theorem dX6_lamp_1 : decode cX6_lamp 1 = .ok (.iload_n 1, 1) := by decide +kernel
theorem dX6_lamp_2 : decode cX6_lamp 2 = .ok (.invokevirtual 116, 3) := by decide +kernel
theorem dX6_lamp_5 : decode cX6_lamp 5 = .ok (.invokestatic 68, 3) := by decide +kernel
theorem dX6_lamp_8 : decode cX6_lamp 8 = .ok (.iload_n 2, 1) := by decide +kernel
theorem dX6_lamp_9 : decode cX6_lamp 9 = .ok (.iconst 0, 1) := by decide +kernel
theorem dX6_lamp_10 : decode cX6_lamp 10 = .ok (.bipush 11, 2) := by decide +kernel
theorem dX6_lamp_12 : decode cX6_lamp 12 = .ok (.invokestatic 147, 3) := by decide +kernel
theorem dX6_lamp_15 : decode cX6_lamp 15 = .ok (.invokestatic 48, 3) := by decide +kernel
theorem dX6_lamp_18 : decode cX6_lamp 18 = .ok (.aload_n 0, 1) := by decide +kernel
theorem dX6_lamp_19 : decode cX6_lamp 19 = .ok (.iload_n 1, 1) := by decide +kernel
theorem dX6_lamp_20 : decode cX6_lamp 20 = .ok (.iload_n 2, 1) := by decide +kernel
theorem dX6_lamp_21 : decode cX6_lamp 21 = .ok (.invokevirtual 109, 3) := by decide +kernel
theorem dX6_lamp_24 : decode cX6_lamp 24 = .ok (.ireturn, 1) := by decide +kernel
theorem dX6_corner_0 : decode cX6_corner 0 = .ok (.aload_n 0, 1) := by decide +kernel
theorem dX6_corner_1 : decode cX6_corner 1 = .ok (.iload_n 1, 1) := by decide +kernel
theorem dX6_corner_2 : decode cX6_corner 2 = .ok (.invokevirtual 116, 3) := by decide +kernel
theorem dX6_corner_5 : decode cX6_corner 5 = .ok (.invokestatic 68, 3) := by decide +kernel
theorem dX6_corner_8 : decode cX6_corner 8 = .ok (.iload_n 2, 1) := by decide +kernel
theorem dX6_corner_9 : decode cX6_corner 9 = .ok (.iconst 0, 1) := by decide +kernel
theorem dX6_corner_10 : decode cX6_corner 10 = .ok (.iconst 3, 1) := by decide +kernel
theorem dX6_corner_11 : decode cX6_corner 11 = .ok (.invokestatic 176, 3) := by decide +kernel
theorem dX6_corner_14 : decode cX6_corner 14 = .ok (.ifCond .eq 7, 3) := by decide +kernel
theorem dX6_corner_17 : decode cX6_corner 17 = .ok (.iconst 0, 1) := by decide +kernel
theorem dX6_corner_18 : decode cX6_corner 18 = .ok (.goto 4, 3) := by decide +kernel
theorem dX6_corner_21 : decode cX6_corner 21 = .ok (.iconst 1, 1) := by decide +kernel
theorem dX6_corner_22 : decode cX6_corner 22 = .ok (.invokestatic 68, 3) := by decide +kernel
theorem dX6_corner_25 : decode cX6_corner 25 = .ok (.iload_n 3, 1) := by decide +kernel
theorem dX6_corner_26 : decode cX6_corner 26 = .ok (.iconst 0, 1) := by decide +kernel
theorem dX6_corner_27 : decode cX6_corner 27 = .ok (.iconst 1, 1) := by decide +kernel
theorem dX6_corner_28 : decode cX6_corner 28 = .ok (.invokestatic 147, 3) := by decide +kernel
theorem dX6_corner_31 : decode cX6_corner 31 = .ok (.invokestatic 48, 3) := by decide +kernel
theorem dX6_corner_34 : decode cX6_corner 34 = .ok (.aload_n 0, 1) := by decide +kernel
theorem dX6_corner_35 : decode cX6_corner 35 = .ok (.getfield 12, 3) := by decide +kernel
theorem dX6_corner_38 : decode cX6_corner 38 = .ok (.iload_n 1, 1) := by decide +kernel
theorem dX6_corner_39 : decode cX6_corner 39 = .ok (.iload_n 2, 1) := by decide +kernel
theorem dX6_corner_40 : decode cX6_corner 40 = .ok (.iload_n 3, 1) := by decide +kernel
theorem dX6_corner_41 : decode cX6_corner 41 = .ok (.invokevirtual 180, 3) := by decide +kernel
theorem dX6_corner_44 : decode cX6_corner 44 = .ok (.ireturn, 1) := by decide +kernel
theorem dX6_whole_0 : decode cX6_whole 0 = .ok (.iload_n 1, 1) := by decide +kernel
theorem dX6_whole_1 : decode cX6_whole 1 = .ok (.iconst 0, 1) := by decide +kernel
theorem dX6_whole_2 : decode cX6_whole 2 = .ok (.bipush 14, 2) := by decide +kernel
theorem dX6_whole_4 : decode cX6_whole 4 = .ok (.invokestatic 147, 3) := by decide +kernel
theorem dX6_whole_7 : decode cX6_whole 7 = .ok (.invokestatic 48, 3) := by decide +kernel
theorem dX6_whole_10 : decode cX6_whole 10 = .ok (.aload_n 0, 1) := by decide +kernel
theorem dX6_whole_11 : decode cX6_whole 11 = .ok (.iload_n 1, 1) := by decide +kernel
theorem dX6_whole_12 : decode cX6_whole 12 = .ok (.invokevirtual 183, 3) := by decide +kernel
theorem dX6_whole_15 : decode cX6_whole 15 = .ok (.ireturn, 1) := by decide +kernel
theorem dX6_wrong_0 : decode cX6_wrong 0 = .ok (.iload_n 1, 1) := by decide +kernel
theorem dX6_wrong_1 : decode cX6_wrong 1 = .ok (.ifCond .lt 7, 3) := by decide +kernel
theorem dX6_wrong_4 : decode cX6_wrong 4 = .ok (.iconst 0, 1) := by decide +kernel
theorem dX6_wrong_5 : decode cX6_wrong 5 = .ok (.goto 4, 3) := by decide +kernel
theorem dX6_wrong_8 : decode cX6_wrong 8 = .ok (.iconst 2, 1) := by decide +kernel
theorem dX6_wrong_9 : decode cX6_wrong 9 = .ok (.invokestatic 48, 3) := by decide +kernel
theorem dX6_wrong_12 : decode cX6_wrong 12 = .ok (.aload_n 0, 1) := by decide +kernel
theorem dX6_wrong_13 : decode cX6_wrong 13 = .ok (.getfield 19, 3) := by decide +kernel
theorem dX6_wrong_16 : decode cX6_wrong 16 = .ok (.aload_n 0, 1) := by decide +kernel
theorem dX6_wrong_17 : decode cX6_wrong 17 = .ok (.getfield 12, 3) := by decide +kernel
theorem dX6_wrong_20 : decode cX6_wrong 20 = .ok (.invokevirtual 98, 3) := by decide +kernel
theorem dX6_wrong_23 : decode cX6_wrong 23 = .ok (.iload_n 1, 1) := by decide +kernel
theorem dX6_wrong_24 : decode cX6_wrong 24 = .ok (.istore_n 2, 1) := by decide +kernel
theorem dX6_wrong_25 : decode cX6_wrong 25 = .ok (.iconst 0, 1) := by decide +kernel
theorem dX6_wrong_26 : decode cX6_wrong 26 = .ok (.istore_n 3, 1) := by decide +kernel
theorem dX6_wrong_27 : decode cX6_wrong 27 = .ok (.iload_n 3, 1) := by decide +kernel
theorem dX6_wrong_28 : decode cX6_wrong 28 = .ok (.aload_n 0, 1) := by decide +kernel
theorem dX6_wrong_29 : decode cX6_wrong 29 = .ok (.getfield 12, 3) := by decide +kernel
theorem dX6_wrong_32 : decode cX6_wrong 32 = .ok (.getfield 186, 3) := by decide +kernel
theorem dX6_wrong_35 : decode cX6_wrong 35 = .ok (.if_icmp .ge 65, 3) := by decide +kernel
theorem dX6_wrong_38 : decode cX6_wrong 38 = .ok (.iconst 0, 1) := by decide +kernel
theorem dX6_wrong_39 : decode cX6_wrong 39 = .ok (.istore 4, 2) := by decide +kernel
theorem dX6_wrong_41 : decode cX6_wrong 41 = .ok (.iload 4, 2) := by decide +kernel
theorem dX6_wrong_43 : decode cX6_wrong 43 = .ok (.aload_n 0, 1) := by decide +kernel
theorem dX6_wrong_44 : decode cX6_wrong 44 = .ok (.getfield 12, 3) := by decide +kernel
theorem dX6_wrong_47 : decode cX6_wrong 47 = .ok (.getfield 189, 3) := by decide +kernel
theorem dX6_wrong_50 : decode cX6_wrong 50 = .ok (.if_icmp .ge 44, 3) := by decide +kernel
theorem dX6_wrong_53 : decode cX6_wrong 53 = .ok (.aload_n 0, 1) := by decide +kernel
theorem dX6_wrong_54 : decode cX6_wrong 54 = .ok (.getfield 19, 3) := by decide +kernel
theorem dX6_wrong_57 : decode cX6_wrong 57 = .ok (.aload_n 0, 1) := by decide +kernel
theorem dX6_wrong_58 : decode cX6_wrong 58 = .ok (.getfield 12, 3) := by decide +kernel
theorem dX6_wrong_61 : decode cX6_wrong 61 = .ok (.iload 4, 2) := by decide +kernel
theorem dX6_wrong_63 : decode cX6_wrong 63 = .ok (.iload_n 3, 1) := by decide +kernel
theorem dX6_wrong_64 : decode cX6_wrong 64 = .ok (.invokevirtual 150, 3) := by decide +kernel
theorem dX6_wrong_67 : decode cX6_wrong 67 = .ok (.invokevirtual 192, 3) := by decide +kernel
theorem dX6_wrong_70 : decode cX6_wrong 70 = .ok (.ifCond .eq 18, 3) := by decide +kernel
theorem dX6_wrong_73 : decode cX6_wrong 73 = .ok (.iload_n 2, 1) := by decide +kernel
theorem dX6_wrong_74 : decode cX6_wrong 74 = .ok (.ifCond .ne 11, 3) := by decide +kernel
theorem dX6_wrong_77 : decode cX6_wrong 77 = .ok (.bipush 100, 2) := by decide +kernel
theorem dX6_wrong_79 : decode cX6_wrong 79 = .ok (.iload_n 3, 1) := by decide +kernel
theorem dX6_wrong_80 : decode cX6_wrong 80 = .ok (.imul, 1) := by decide +kernel
theorem dX6_wrong_81 : decode cX6_wrong 81 = .ok (.iload 4, 2) := by decide +kernel
theorem dX6_wrong_83 : decode cX6_wrong 83 = .ok (.iadd, 1) := by decide +kernel
theorem dX6_wrong_84 : decode cX6_wrong 84 = .ok (.ireturn, 1) := by decide +kernel
theorem dX6_wrong_85 : decode cX6_wrong 85 = .ok (.iinc 2 (-1), 3) := by decide +kernel
theorem dX6_wrong_88 : decode cX6_wrong 88 = .ok (.iinc 4 1, 3) := by decide +kernel
theorem dX6_wrong_91 : decode cX6_wrong 91 = .ok (.goto (-50), 3) := by decide +kernel
theorem dX6_wrong_94 : decode cX6_wrong 94 = .ok (.iinc 3 1, 3) := by decide +kernel
theorem dX6_wrong_97 : decode cX6_wrong 97 = .ok (.goto (-70), 3) := by decide +kernel
theorem dX6_wrong_100 : decode cX6_wrong 100 = .ok (.sipush (-1000), 3) := by decide +kernel
theorem dX6_wrong_103 : decode cX6_wrong 103 = .ok (.ireturn, 1) := by decide +kernel
theorem dX6_wrongWithout_0 : decode cX6_wrongWithout 0 = .ok (.aload_n 0, 1) := by decide +kernel
theorem dX6_wrongWithout_1 : decode cX6_wrongWithout 1 = .ok (.iload_n 1, 1) := by decide +kernel
theorem dX6_wrongWithout_2 : decode cX6_wrongWithout 2 = .ok (.invokevirtual 116, 3) := by decide +kernel
theorem dX6_wrongWithout_5 : decode cX6_wrongWithout 5 = .ok (.invokestatic 68, 3) := by decide +kernel
theorem dX6_wrongWithout_8 : decode cX6_wrongWithout 8 = .ok (.aload_n 0, 1) := by decide +kernel
theorem dX6_wrongWithout_9 : decode cX6_wrongWithout 9 = .ok (.iload_n 1, 1) := by decide +kernel
theorem dX6_wrongWithout_10 : decode cX6_wrongWithout 10 = .ok (.invokevirtual 195, 3) := by decide +kernel
theorem dX6_wrongWithout_13 : decode cX6_wrongWithout 13 = .ok (.ireturn, 1) := by decide +kernel
theorem dX6_dearestLamp_0 : decode cX6_dearestLamp 0 = .ok (.sipush (-1000), 3) := by decide +kernel
theorem dX6_dearestLamp_3 : decode cX6_dearestLamp 3 = .ok (.istore_n 1, 1) := by decide +kernel
theorem dX6_dearestLamp_4 : decode cX6_dearestLamp 4 = .ok (.iconst (-1), 1) := by decide +kernel
theorem dX6_dearestLamp_5 : decode cX6_dearestLamp 5 = .ok (.istore_n 2, 1) := by decide +kernel
theorem dX6_dearestLamp_6 : decode cX6_dearestLamp 6 = .ok (.iconst 0, 1) := by decide +kernel
theorem dX6_dearestLamp_7 : decode cX6_dearestLamp 7 = .ok (.istore_n 3, 1) := by decide +kernel
theorem dX6_dearestLamp_8 : decode cX6_dearestLamp 8 = .ok (.iload_n 3, 1) := by decide +kernel
theorem dX6_dearestLamp_9 : decode cX6_dearestLamp 9 = .ok (.aload_n 0, 1) := by decide +kernel
theorem dX6_dearestLamp_10 : decode cX6_dearestLamp 10 = .ok (.getfield 12, 3) := by decide +kernel
theorem dX6_dearestLamp_13 : decode cX6_dearestLamp 13 = .ok (.getfield 198, 3) := by decide +kernel
theorem dX6_dearestLamp_16 : decode cX6_dearestLamp 16 = .ok (.if_icmp .ge 27, 3) := by decide +kernel
theorem dX6_dearestLamp_19 : decode cX6_dearestLamp 19 = .ok (.aload_n 0, 1) := by decide +kernel
theorem dX6_dearestLamp_20 : decode cX6_dearestLamp 20 = .ok (.iload_n 3, 1) := by decide +kernel
theorem dX6_dearestLamp_21 : decode cX6_dearestLamp 21 = .ok (.invokevirtual 195, 3) := by decide +kernel
theorem dX6_dearestLamp_24 : decode cX6_dearestLamp 24 = .ok (.istore 4, 2) := by decide +kernel
theorem dX6_dearestLamp_26 : decode cX6_dearestLamp 26 = .ok (.iload 4, 2) := by decide +kernel
theorem dX6_dearestLamp_28 : decode cX6_dearestLamp 28 = .ok (.iload_n 2, 1) := by decide +kernel
theorem dX6_dearestLamp_29 : decode cX6_dearestLamp 29 = .ok (.if_icmp .le 8, 3) := by decide +kernel
theorem dX6_dearestLamp_32 : decode cX6_dearestLamp 32 = .ok (.iload 4, 2) := by decide +kernel
theorem dX6_dearestLamp_34 : decode cX6_dearestLamp 34 = .ok (.istore_n 2, 1) := by decide +kernel
theorem dX6_dearestLamp_35 : decode cX6_dearestLamp 35 = .ok (.iload_n 3, 1) := by decide +kernel
theorem dX6_dearestLamp_36 : decode cX6_dearestLamp 36 = .ok (.istore_n 1, 1) := by decide +kernel
theorem dX6_dearestLamp_37 : decode cX6_dearestLamp 37 = .ok (.iinc 3 1, 3) := by decide +kernel
theorem dX6_dearestLamp_40 : decode cX6_dearestLamp 40 = .ok (.goto (-32), 3) := by decide +kernel
theorem dX6_dearestLamp_43 : decode cX6_dearestLamp 43 = .ok (.iload_n 1, 1) := by decide +kernel
theorem dX6_dearestLamp_44 : decode cX6_dearestLamp 44 = .ok (.ireturn, 1) := by decide +kernel
theorem dX6_wrongShifted_0 : decode cX6_wrongShifted 0 = .ok (.iload_n 1, 1) := by decide +kernel
theorem dX6_wrongShifted_1 : decode cX6_wrongShifted 1 = .ok (.iload_n 2, 1) := by decide +kernel
theorem dX6_wrongShifted_2 : decode cX6_wrongShifted 2 = .ok (.invokestatic 126, 3) := by decide +kernel
theorem dX6_wrongShifted_5 : decode cX6_wrongShifted 5 = .ok (.invokestatic 48, 3) := by decide +kernel
theorem dX6_wrongShifted_8 : decode cX6_wrongShifted 8 = .ok (.aload_n 0, 1) := by decide +kernel
theorem dX6_wrongShifted_9 : decode cX6_wrongShifted 9 = .ok (.getfield 26, 3) := by decide +kernel
theorem dX6_wrongShifted_12 : decode cX6_wrongShifted 12 = .ok (.aload_n 0, 1) := by decide +kernel
theorem dX6_wrongShifted_13 : decode cX6_wrongShifted 13 = .ok (.getfield 12, 3) := by decide +kernel
theorem dX6_wrongShifted_16 : decode cX6_wrongShifted 16 = .ok (.aload_n 0, 1) := by decide +kernel
theorem dX6_wrongShifted_17 : decode cX6_wrongShifted 17 = .ok (.getfield 12, 3) := by decide +kernel
theorem dX6_wrongShifted_20 : decode cX6_wrongShifted 20 = .ok (.invokevirtual 201, 3) := by decide +kernel
theorem dX6_wrongShifted_23 : decode cX6_wrongShifted 23 = .ok (.iload_n 1, 1) := by decide +kernel
theorem dX6_wrongShifted_24 : decode cX6_wrongShifted 24 = .ok (.iload_n 2, 1) := by decide +kernel
theorem dX6_wrongShifted_25 : decode cX6_wrongShifted 25 = .ok (.invokevirtual 204, 3) := by decide +kernel
theorem dX6_wrongShifted_28 : decode cX6_wrongShifted 28 = .ok (.ireturn, 1) := by decide +kernel
theorem dX6_bestShift_0 : decode cX6_bestShift 0 = .ok (.iload_n 1, 1) := by decide +kernel
theorem dX6_bestShift_1 : decode cX6_bestShift 1 = .ok (.iconst 0, 1) := by decide +kernel
theorem dX6_bestShift_2 : decode cX6_bestShift 2 = .ok (.iconst 3, 1) := by decide +kernel
theorem dX6_bestShift_3 : decode cX6_bestShift 3 = .ok (.invokestatic 147, 3) := by decide +kernel
theorem dX6_bestShift_6 : decode cX6_bestShift 6 = .ok (.invokestatic 48, 3) := by decide +kernel
theorem dX6_bestShift_9 : decode cX6_bestShift 9 = .ok (.aload_n 0, 1) := by decide +kernel
theorem dX6_bestShift_10 : decode cX6_bestShift 10 = .ok (.getfield 12, 3) := by decide +kernel
theorem dX6_bestShift_13 : decode cX6_bestShift 13 = .ok (.invokevirtual 201, 3) := by decide +kernel
theorem dX6_bestShift_16 : decode cX6_bestShift 16 = .ok (.istore_n 2, 1) := by decide +kernel
theorem dX6_bestShift_17 : decode cX6_bestShift 17 = .ok (.iconst 0, 1) := by decide +kernel
theorem dX6_bestShift_18 : decode cX6_bestShift 18 = .ok (.istore_n 3, 1) := by decide +kernel
theorem dX6_bestShift_19 : decode cX6_bestShift 19 = .ok (.sipush 385, 3) := by decide +kernel
theorem dX6_bestShift_22 : decode cX6_bestShift 22 = .ok (.istore 4, 2) := by decide +kernel
theorem dX6_bestShift_24 : decode cX6_bestShift 24 = .ok (.iload_n 1, 1) := by decide +kernel
theorem dX6_bestShift_25 : decode cX6_bestShift 25 = .ok (.ineg, 1) := by decide +kernel
theorem dX6_bestShift_26 : decode cX6_bestShift 26 = .ok (.istore 5, 2) := by decide +kernel
theorem dX6_bestShift_28 : decode cX6_bestShift 28 = .ok (.iload 5, 2) := by decide +kernel
theorem dX6_bestShift_30 : decode cX6_bestShift 30 = .ok (.iload_n 1, 1) := by decide +kernel
theorem dX6_bestShift_31 : decode cX6_bestShift 31 = .ok (.if_icmp .gt 69, 3) := by decide +kernel
theorem dX6_bestShift_34 : decode cX6_bestShift 34 = .ok (.iload_n 1, 1) := by decide +kernel
theorem dX6_bestShift_35 : decode cX6_bestShift 35 = .ok (.ineg, 1) := by decide +kernel
theorem dX6_bestShift_36 : decode cX6_bestShift 36 = .ok (.istore 6, 2) := by decide +kernel
theorem dX6_bestShift_38 : decode cX6_bestShift 38 = .ok (.iload 6, 2) := by decide +kernel
theorem dX6_bestShift_40 : decode cX6_bestShift 40 = .ok (.iload_n 1, 1) := by decide +kernel
theorem dX6_bestShift_41 : decode cX6_bestShift 41 = .ok (.if_icmp .gt 53, 3) := by decide +kernel
theorem dX6_bestShift_44 : decode cX6_bestShift 44 = .ok (.aload_n 0, 1) := by decide +kernel
theorem dX6_bestShift_45 : decode cX6_bestShift 45 = .ok (.getfield 26, 3) := by decide +kernel
theorem dX6_bestShift_48 : decode cX6_bestShift 48 = .ok (.aload_n 0, 1) := by decide +kernel
theorem dX6_bestShift_49 : decode cX6_bestShift 49 = .ok (.getfield 12, 3) := by decide +kernel
theorem dX6_bestShift_52 : decode cX6_bestShift 52 = .ok (.iload_n 2, 1) := by decide +kernel
theorem dX6_bestShift_53 : decode cX6_bestShift 53 = .ok (.iload 6, 2) := by decide +kernel
theorem dX6_bestShift_55 : decode cX6_bestShift 55 = .ok (.iload 5, 2) := by decide +kernel
theorem dX6_bestShift_57 : decode cX6_bestShift 57 = .ok (.invokevirtual 204, 3) := by decide +kernel
theorem dX6_bestShift_60 : decode cX6_bestShift 60 = .ok (.istore 7, 2) := by decide +kernel
theorem dX6_bestShift_62 : decode cX6_bestShift 62 = .ok (.iload 7, 2) := by decide +kernel
theorem dX6_bestShift_64 : decode cX6_bestShift 64 = .ok (.iload 4, 2) := by decide +kernel
theorem dX6_bestShift_66 : decode cX6_bestShift 66 = .ok (.if_icmp .ge 22, 3) := by decide +kernel
theorem dX6_bestShift_69 : decode cX6_bestShift 69 = .ok (.iload 7, 2) := by decide +kernel
theorem dX6_bestShift_71 : decode cX6_bestShift 71 = .ok (.istore 4, 2) := by decide +kernel
theorem dX6_bestShift_73 : decode cX6_bestShift 73 = .ok (.bipush 100, 2) := by decide +kernel
theorem dX6_bestShift_75 : decode cX6_bestShift 75 = .ok (.iload 5, 2) := by decide +kernel
theorem dX6_bestShift_77 : decode cX6_bestShift 77 = .ok (.bipush 10, 2) := by decide +kernel
theorem dX6_bestShift_79 : decode cX6_bestShift 79 = .ok (.iadd, 1) := by decide +kernel
theorem dX6_bestShift_80 : decode cX6_bestShift 80 = .ok (.imul, 1) := by decide +kernel
theorem dX6_bestShift_81 : decode cX6_bestShift 81 = .ok (.iload 6, 2) := by decide +kernel
theorem dX6_bestShift_83 : decode cX6_bestShift 83 = .ok (.bipush 10, 2) := by decide +kernel
theorem dX6_bestShift_85 : decode cX6_bestShift 85 = .ok (.iadd, 1) := by decide +kernel
theorem dX6_bestShift_86 : decode cX6_bestShift 86 = .ok (.iadd, 1) := by decide +kernel
theorem dX6_bestShift_87 : decode cX6_bestShift 87 = .ok (.istore_n 3, 1) := by decide +kernel
theorem dX6_bestShift_88 : decode cX6_bestShift 88 = .ok (.iinc 6 1, 3) := by decide +kernel
theorem dX6_bestShift_91 : decode cX6_bestShift 91 = .ok (.goto (-53), 3) := by decide +kernel
theorem dX6_bestShift_94 : decode cX6_bestShift 94 = .ok (.iinc 5 1, 3) := by decide +kernel
theorem dX6_bestShift_97 : decode cX6_bestShift 97 = .ok (.goto (-69), 3) := by decide +kernel
theorem dX6_bestShift_100 : decode cX6_bestShift 100 = .ok (.iload_n 3, 1) := by decide +kernel
theorem dX6_bestShift_101 : decode cX6_bestShift 101 = .ok (.ireturn, 1) := by decide +kernel
theorem dX6_neededLimit_0 : decode cX6_neededLimit 0 = .ok (.aload_n 0, 1) := by decide +kernel
theorem dX6_neededLimit_1 : decode cX6_neededLimit 1 = .ok (.iload_n 1, 1) := by decide +kernel
theorem dX6_neededLimit_2 : decode cX6_neededLimit 2 = .ok (.invokevirtual 116, 3) := by decide +kernel
theorem dX6_neededLimit_5 : decode cX6_neededLimit 5 = .ok (.invokestatic 68, 3) := by decide +kernel
theorem dX6_neededLimit_8 : decode cX6_neededLimit 8 = .ok (.aload_n 0, 1) := by decide +kernel
theorem dX6_neededLimit_9 : decode cX6_neededLimit 9 = .ok (.getfield 19, 3) := by decide +kernel
theorem dX6_neededLimit_12 : decode cX6_neededLimit 12 = .ok (.aload_n 0, 1) := by decide +kernel
theorem dX6_neededLimit_13 : decode cX6_neededLimit 13 = .ok (.getfield 12, 3) := by decide +kernel
theorem dX6_neededLimit_16 : decode cX6_neededLimit 16 = .ok (.invokevirtual 98, 3) := by decide +kernel
theorem dX6_neededLimit_19 : decode cX6_neededLimit 19 = .ok (.iconst 0, 1) := by decide +kernel
theorem dX6_neededLimit_20 : decode cX6_neededLimit 20 = .ok (.istore_n 2, 1) := by decide +kernel
theorem dX6_neededLimit_21 : decode cX6_neededLimit 21 = .ok (.iconst 0, 1) := by decide +kernel
theorem dX6_neededLimit_22 : decode cX6_neededLimit 22 = .ok (.istore_n 3, 1) := by decide +kernel
theorem dX6_neededLimit_23 : decode cX6_neededLimit 23 = .ok (.iload_n 3, 1) := by decide +kernel
theorem dX6_neededLimit_24 : decode cX6_neededLimit 24 = .ok (.aload_n 0, 1) := by decide +kernel
theorem dX6_neededLimit_25 : decode cX6_neededLimit 25 = .ok (.getfield 12, 3) := by decide +kernel
theorem dX6_neededLimit_28 : decode cX6_neededLimit 28 = .ok (.invokevirtual 56, 3) := by decide +kernel
theorem dX6_neededLimit_31 : decode cX6_neededLimit 31 = .ok (.if_icmp .ge 57, 3) := by decide +kernel
theorem dX6_neededLimit_34 : decode cX6_neededLimit 34 = .ok (.aload_n 0, 1) := by decide +kernel
theorem dX6_neededLimit_35 : decode cX6_neededLimit 35 = .ok (.getfield 19, 3) := by decide +kernel
theorem dX6_neededLimit_38 : decode cX6_neededLimit 38 = .ok (.iload_n 1, 1) := by decide +kernel
theorem dX6_neededLimit_39 : decode cX6_neededLimit 39 = .ok (.iload_n 3, 1) := by decide +kernel
theorem dX6_neededLimit_40 : decode cX6_neededLimit 40 = .ok (.invokevirtual 159, 3) := by decide +kernel
theorem dX6_neededLimit_43 : decode cX6_neededLimit 43 = .ok (.ifCond .eq 39, 3) := by decide +kernel
theorem dX6_neededLimit_46 : decode cX6_neededLimit 46 = .ok (.aload_n 0, 1) := by decide +kernel
theorem dX6_neededLimit_47 : decode cX6_neededLimit 47 = .ok (.getfield 19, 3) := by decide +kernel
theorem dX6_neededLimit_50 : decode cX6_neededLimit 50 = .ok (.iload_n 1, 1) := by decide +kernel
theorem dX6_neededLimit_51 : decode cX6_neededLimit 51 = .ok (.iload_n 3, 1) := by decide +kernel
theorem dX6_neededLimit_52 : decode cX6_neededLimit 52 = .ok (.invokevirtual 156, 3) := by decide +kernel
theorem dX6_neededLimit_55 : decode cX6_neededLimit 55 = .ok (.aload_n 0, 1) := by decide +kernel
theorem dX6_neededLimit_56 : decode cX6_neededLimit 56 = .ok (.getfield 12, 3) := by decide +kernel
theorem dX6_neededLimit_59 : decode cX6_neededLimit 59 = .ok (.iload_n 3, 1) := by decide +kernel
theorem dX6_neededLimit_60 : decode cX6_neededLimit 60 = .ok (.invokevirtual 208, 3) := by decide +kernel
theorem dX6_neededLimit_63 : decode cX6_neededLimit 63 = .ok (.iadd, 1) := by decide +kernel
theorem dX6_neededLimit_64 : decode cX6_neededLimit 64 = .ok (.aload_n 0, 1) := by decide +kernel
theorem dX6_neededLimit_65 : decode cX6_neededLimit 65 = .ok (.getfield 19, 3) := by decide +kernel
theorem dX6_neededLimit_68 : decode cX6_neededLimit 68 = .ok (.iload_n 3, 1) := by decide +kernel
theorem dX6_neededLimit_69 : decode cX6_neededLimit 69 = .ok (.invokevirtual 211, 3) := by decide +kernel
theorem dX6_neededLimit_72 : decode cX6_neededLimit 72 = .ok (.isub, 1) := by decide +kernel
theorem dX6_neededLimit_73 : decode cX6_neededLimit 73 = .ok (.istore 4, 2) := by decide +kernel
theorem dX6_neededLimit_75 : decode cX6_neededLimit 75 = .ok (.iload_n 2, 1) := by decide +kernel
theorem dX6_neededLimit_76 : decode cX6_neededLimit 76 = .ok (.iload 4, 2) := by decide +kernel
theorem dX6_neededLimit_78 : decode cX6_neededLimit 78 = .ok (.invokestatic 214, 3) := by decide +kernel
theorem dX6_neededLimit_81 : decode cX6_neededLimit 81 = .ok (.istore_n 2, 1) := by decide +kernel
theorem dX6_neededLimit_82 : decode cX6_neededLimit 82 = .ok (.iinc 3 1, 3) := by decide +kernel
theorem dX6_neededLimit_85 : decode cX6_neededLimit 85 = .ok (.goto (-62), 3) := by decide +kernel
theorem dX6_neededLimit_88 : decode cX6_neededLimit 88 = .ok (.iload_n 2, 1) := by decide +kernel
theorem dX6_neededLimit_89 : decode cX6_neededLimit 89 = .ok (.ireturn, 1) := by decide +kernel
theorem dX6_type_0 : decode cX6_type 0 = .ok (.iload_n 1, 1) := by decide +kernel
theorem dX6_type_1 : decode cX6_type 1 = .ok (.iconst 0, 1) := by decide +kernel
theorem dX6_type_2 : decode cX6_type 2 = .ok (.bipush 127, 2) := by decide +kernel
theorem dX6_type_4 : decode cX6_type 4 = .ok (.invokestatic 147, 3) := by decide +kernel
theorem dX6_type_7 : decode cX6_type 7 = .ok (.invokestatic 48, 3) := by decide +kernel
theorem dX6_type_10 : decode cX6_type 10 = .ok (.aload_n 0, 1) := by decide +kernel
theorem dX6_type_11 : decode cX6_type 11 = .ok (.getfield 40, 3) := by decide +kernel
theorem dX6_type_14 : decode cX6_type 14 = .ok (.getfield 219, 3) := by decide +kernel
theorem dX6_type_17 : decode cX6_type 17 = .ok (.sipush 150, 3) := by decide +kernel
theorem dX6_type_20 : decode cX6_type 20 = .ok (.if_icmp .ge 7, 3) := by decide +kernel
theorem dX6_type_23 : decode cX6_type 23 = .ok (.iconst 0, 1) := by decide +kernel
theorem dX6_type_24 : decode cX6_type 24 = .ok (.goto 4, 3) := by decide +kernel
theorem dX6_type_27 : decode cX6_type 27 = .ok (.iconst 3, 1) := by decide +kernel
theorem dX6_type_28 : decode cX6_type 28 = .ok (.invokestatic 77, 3) := by decide +kernel
theorem dX6_type_31 : decode cX6_type 31 = .ok (.aload_n 0, 1) := by decide +kernel
theorem dX6_type_32 : decode cX6_type 32 = .ok (.getfield 40, 3) := by decide +kernel
theorem dX6_type_35 : decode cX6_type 35 = .ok (.iload_n 1, 1) := by decide +kernel
theorem dX6_type_36 : decode cX6_type 36 = .ok (.invokevirtual 222, 3) := by decide +kernel
theorem dX6_type_39 : decode cX6_type 39 = .ok (.ireturn, 1) := by decide +kernel
theorem dX6_clearCommands_0 : decode cX6_clearCommands 0 = .ok (.aload_n 0, 1) := by decide +kernel
theorem dX6_clearCommands_1 : decode cX6_clearCommands 1 = .ok (.getfield 40, 3) := by decide +kernel
theorem dX6_clearCommands_4 : decode cX6_clearCommands 4 = .ok (.invokevirtual 225, 3) := by decide +kernel
theorem dX6_clearCommands_7 : decode cX6_clearCommands 7 = .ok (.ireturn, 1) := by decide +kernel
theorem dX6_runCommands_0 : decode cX6_runCommands 0 = .ok (.aload_n 0, 1) := by decide +kernel
theorem dX6_runCommands_1 : decode cX6_runCommands 1 = .ok (.getfield 40, 3) := by decide +kernel
theorem dX6_runCommands_4 : decode cX6_runCommands 4 = .ok (.invokevirtual 228, 3) := by decide +kernel
theorem dX6_runCommands_7 : decode cX6_runCommands 7 = .ok (.istore_n 1, 1) := by decide +kernel
theorem dX6_runCommands_8 : decode cX6_runCommands 8 = .ok (.iload_n 1, 1) := by decide +kernel
theorem dX6_runCommands_9 : decode cX6_runCommands 9 = .ok (.ifCond .lt 8, 3) := by decide +kernel
theorem dX6_runCommands_12 : decode cX6_runCommands 12 = .ok (.bipush (-10), 2) := by decide +kernel
theorem dX6_runCommands_14 : decode cX6_runCommands 14 = .ok (.iload_n 1, 1) := by decide +kernel
theorem dX6_runCommands_15 : decode cX6_runCommands 15 = .ok (.isub, 1) := by decide +kernel
theorem dX6_runCommands_16 : decode cX6_runCommands 16 = .ok (.ireturn, 1) := by decide +kernel
theorem dX6_runCommands_17 : decode cX6_runCommands 17 = .ok (.aload_n 0, 1) := by decide +kernel
theorem dX6_runCommands_18 : decode cX6_runCommands 18 = .ok (.getfield 33, 3) := by decide +kernel
theorem dX6_runCommands_21 : decode cX6_runCommands 21 = .ok (.aload_n 0, 1) := by decide +kernel
theorem dX6_runCommands_22 : decode cX6_runCommands 22 = .ok (.getfield 12, 3) := by decide +kernel
theorem dX6_runCommands_25 : decode cX6_runCommands 25 = .ok (.invokevirtual 52, 3) := by decide +kernel
theorem dX6_runCommands_28 : decode cX6_runCommands 28 = .ok (.aload_n 0, 1) := by decide +kernel
theorem dX6_runCommands_29 : decode cX6_runCommands 29 = .ok (.getfield 40, 3) := by decide +kernel
theorem dX6_runCommands_32 : decode cX6_runCommands 32 = .ok (.invokevirtual 231, 3) := by decide +kernel
theorem dX6_runCommands_35 : decode cX6_runCommands 35 = .ok (.iconst 0, 1) := by decide +kernel
theorem dX6_runCommands_36 : decode cX6_runCommands 36 = .ok (.istore_n 2, 1) := by decide +kernel
theorem dX6_runCommands_37 : decode cX6_runCommands 37 = .ok (.iconst 0, 1) := by decide +kernel
theorem dX6_runCommands_38 : decode cX6_runCommands 38 = .ok (.istore_n 3, 1) := by decide +kernel
theorem dX6_runCommands_39 : decode cX6_runCommands 39 = .ok (.iload_n 3, 1) := by decide +kernel
theorem dX6_runCommands_40 : decode cX6_runCommands 40 = .ok (.sipush 150, 3) := by decide +kernel
theorem dX6_runCommands_43 : decode cX6_runCommands 43 = .ok (.if_icmp .ge 32, 3) := by decide +kernel
theorem dX6_runCommands_46 : decode cX6_runCommands 46 = .ok (.aload_n 0, 1) := by decide +kernel
theorem dX6_runCommands_47 : decode cX6_runCommands 47 = .ok (.getfield 40, 3) := by decide +kernel
theorem dX6_runCommands_50 : decode cX6_runCommands 50 = .ok (.invokevirtual 234, 3) := by decide +kernel
theorem dX6_runCommands_53 : decode cX6_runCommands 53 = .ok (.ifCond .eq 22, 3) := by decide +kernel
theorem dX6_runCommands_56 : decode cX6_runCommands 56 = .ok (.aload_n 0, 1) := by decide +kernel
theorem dX6_runCommands_57 : decode cX6_runCommands 57 = .ok (.invokevirtual 238, 3) := by decide +kernel
theorem dX6_runCommands_60 : decode cX6_runCommands 60 = .ok (.ifCond .ne 6, 3) := by decide +kernel
theorem dX6_runCommands_63 : decode cX6_runCommands 63 = .ok (.goto 12, 3) := by decide +kernel
theorem dX6_runCommands_66 : decode cX6_runCommands 66 = .ok (.iinc 2 1, 3) := by decide +kernel
theorem dX6_runCommands_69 : decode cX6_runCommands 69 = .ok (.iinc 3 1, 3) := by decide +kernel
theorem dX6_runCommands_72 : decode cX6_runCommands 72 = .ok (.goto (-33), 3) := by decide +kernel
theorem dX6_runCommands_75 : decode cX6_runCommands 75 = .ok (.iload_n 2, 1) := by decide +kernel
theorem dX6_runCommands_76 : decode cX6_runCommands 76 = .ok (.ireturn, 1) := by decide +kernel
theorem dX6_undo_0 : decode cX6_undo 0 = .ok (.aload_n 0, 1) := by decide +kernel
theorem dX6_undo_1 : decode cX6_undo 1 = .ok (.getfield 33, 3) := by decide +kernel
theorem dX6_undo_4 : decode cX6_undo 4 = .ok (.getfield 241, 3) := by decide +kernel
theorem dX6_undo_7 : decode cX6_undo 7 = .ok (.ifCond .le 7, 3) := by decide +kernel
theorem dX6_undo_10 : decode cX6_undo 10 = .ok (.iconst 0, 1) := by decide +kernel
theorem dX6_undo_11 : decode cX6_undo 11 = .ok (.goto 4, 3) := by decide +kernel
theorem dX6_undo_14 : decode cX6_undo 14 = .ok (.iconst 3, 1) := by decide +kernel
theorem dX6_undo_15 : decode cX6_undo 15 = .ok (.invokestatic 77, 3) := by decide +kernel
theorem dX6_undo_18 : decode cX6_undo 18 = .ok (.aload_n 0, 1) := by decide +kernel
theorem dX6_undo_19 : decode cX6_undo 19 = .ok (.getfield 33, 3) := by decide +kernel
theorem dX6_undo_22 : decode cX6_undo 22 = .ok (.aload_n 0, 1) := by decide +kernel
theorem dX6_undo_23 : decode cX6_undo 23 = .ok (.getfield 12, 3) := by decide +kernel
theorem dX6_undo_26 : decode cX6_undo 26 = .ok (.invokevirtual 244, 3) := by decide +kernel
theorem dX6_undo_29 : decode cX6_undo 29 = .ok (.aload_n 0, 1) := by decide +kernel
theorem dX6_undo_30 : decode cX6_undo 30 = .ok (.getfield 33, 3) := by decide +kernel
theorem dX6_undo_33 : decode cX6_undo 33 = .ok (.getfield 241, 3) := by decide +kernel
theorem dX6_undo_36 : decode cX6_undo 36 = .ok (.ireturn, 1) := by decide +kernel
theorem dX6_digest_0 : decode cX6_digest 0 = .ok (.ldc2_w 247, 3) := by decide +kernel
theorem dX6_digest_3 : decode cX6_digest 3 = .ok (.lstore_n 1, 1) := by decide +kernel
theorem dX6_digest_4 : decode cX6_digest 4 = .ok (.ldc2_w 249, 3) := by decide +kernel
theorem dX6_digest_7 : decode cX6_digest 7 = .ok (.lload_n 1, 1) := by decide +kernel
theorem dX6_digest_8 : decode cX6_digest 8 = .ok (.lmul, 1) := by decide +kernel
theorem dX6_digest_9 : decode cX6_digest 9 = .ok (.aload_n 0, 1) := by decide +kernel
theorem dX6_digest_10 : decode cX6_digest 10 = .ok (.getfield 33, 3) := by decide +kernel
theorem dX6_digest_13 : decode cX6_digest 13 = .ok (.getfield 241, 3) := by decide +kernel
theorem dX6_digest_16 : decode cX6_digest 16 = .ok (.i2l, 1) := by decide +kernel
theorem dX6_digest_17 : decode cX6_digest 17 = .ok (.ladd, 1) := by decide +kernel
theorem dX6_digest_18 : decode cX6_digest 18 = .ok (.lstore_n 1, 1) := by decide +kernel
theorem dX6_digest_19 : decode cX6_digest 19 = .ok (.iconst 0, 1) := by decide +kernel
theorem dX6_digest_20 : decode cX6_digest 20 = .ok (.istore_n 3, 1) := by decide +kernel
theorem dX6_digest_21 : decode cX6_digest 21 = .ok (.iload_n 3, 1) := by decide +kernel
theorem dX6_digest_22 : decode cX6_digest 22 = .ok (.bipush 14, 2) := by decide +kernel
theorem dX6_digest_24 : decode cX6_digest 24 = .ok (.if_icmp .gt 22, 3) := by decide +kernel
theorem dX6_digest_27 : decode cX6_digest 27 = .ok (.ldc2_w 249, 3) := by decide +kernel
theorem dX6_digest_30 : decode cX6_digest 30 = .ok (.lload_n 1, 1) := by decide +kernel
theorem dX6_digest_31 : decode cX6_digest 31 = .ok (.lmul, 1) := by decide +kernel
theorem dX6_digest_32 : decode cX6_digest 32 = .ok (.aload_n 0, 1) := by decide +kernel
theorem dX6_digest_33 : decode cX6_digest 33 = .ok (.iload_n 3, 1) := by decide +kernel
theorem dX6_digest_34 : decode cX6_digest 34 = .ok (.invokevirtual 183, 3) := by decide +kernel
theorem dX6_digest_37 : decode cX6_digest 37 = .ok (.i2l, 1) := by decide +kernel
theorem dX6_digest_38 : decode cX6_digest 38 = .ok (.ladd, 1) := by decide +kernel
theorem dX6_digest_39 : decode cX6_digest 39 = .ok (.lstore_n 1, 1) := by decide +kernel
theorem dX6_digest_40 : decode cX6_digest 40 = .ok (.iinc 3 1, 3) := by decide +kernel
theorem dX6_digest_43 : decode cX6_digest 43 = .ok (.goto (-22), 3) := by decide +kernel
theorem dX6_digest_46 : decode cX6_digest 46 = .ok (.iconst 0, 1) := by decide +kernel
theorem dX6_digest_47 : decode cX6_digest 47 = .ok (.istore_n 3, 1) := by decide +kernel
theorem dX6_digest_48 : decode cX6_digest 48 = .ok (.iload_n 3, 1) := by decide +kernel
theorem dX6_digest_49 : decode cX6_digest 49 = .ok (.aload_n 0, 1) := by decide +kernel
theorem dX6_digest_50 : decode cX6_digest 50 = .ok (.getfield 12, 3) := by decide +kernel
theorem dX6_digest_53 : decode cX6_digest 53 = .ok (.getfield 198, 3) := by decide +kernel
theorem dX6_digest_56 : decode cX6_digest 56 = .ok (.if_icmp .ge 16, 3) := by decide +kernel
theorem dX6_digest_59 : decode cX6_digest 59 = .ok (.aload_n 0, 1) := by decide +kernel
theorem dX6_digest_60 : decode cX6_digest 60 = .ok (.lload_n 1, 1) := by decide +kernel
theorem dX6_digest_61 : decode cX6_digest 61 = .ok (.iload_n 3, 1) := by decide +kernel
theorem dX6_digest_62 : decode cX6_digest 62 = .ok (.invokevirtual 251, 3) := by decide +kernel
theorem dX6_digest_65 : decode cX6_digest 65 = .ok (.lstore_n 1, 1) := by decide +kernel
theorem dX6_digest_66 : decode cX6_digest 66 = .ok (.iinc 3 1, 3) := by decide +kernel
theorem dX6_digest_69 : decode cX6_digest 69 = .ok (.goto (-21), 3) := by decide +kernel
theorem dX6_digest_72 : decode cX6_digest 72 = .ok (.iconst 0, 1) := by decide +kernel
theorem dX6_digest_73 : decode cX6_digest 73 = .ok (.istore_n 3, 1) := by decide +kernel
theorem dX6_digest_74 : decode cX6_digest 74 = .ok (.iload_n 3, 1) := by decide +kernel
theorem dX6_digest_75 : decode cX6_digest 75 = .ok (.aload_n 0, 1) := by decide +kernel
theorem dX6_digest_76 : decode cX6_digest 76 = .ok (.getfield 12, 3) := by decide +kernel
theorem dX6_digest_79 : decode cX6_digest 79 = .ok (.invokevirtual 56, 3) := by decide +kernel
theorem dX6_digest_82 : decode cX6_digest 82 = .ok (.if_icmp .ge 16, 3) := by decide +kernel
theorem dX6_digest_85 : decode cX6_digest 85 = .ok (.aload_n 0, 1) := by decide +kernel
theorem dX6_digest_86 : decode cX6_digest 86 = .ok (.lload_n 1, 1) := by decide +kernel
theorem dX6_digest_87 : decode cX6_digest 87 = .ok (.iload_n 3, 1) := by decide +kernel
theorem dX6_digest_88 : decode cX6_digest 88 = .ok (.invokevirtual 255, 3) := by decide +kernel
theorem dX6_digest_91 : decode cX6_digest 91 = .ok (.lstore_n 1, 1) := by decide +kernel
theorem dX6_digest_92 : decode cX6_digest 92 = .ok (.iinc 3 1, 3) := by decide +kernel
theorem dX6_digest_95 : decode cX6_digest 95 = .ok (.goto (-21), 3) := by decide +kernel
theorem dX6_digest_98 : decode cX6_digest 98 = .ok (.lload_n 1, 1) := by decide +kernel
theorem dX6_digest_99 : decode cX6_digest 99 = .ok (.lreturn, 1) := by decide +kernel
theorem dX6_addLampTo_0 : decode cX6_addLampTo 0 = .ok (.lload_n 1, 1) := by decide +kernel
theorem dX6_addLampTo_1 : decode cX6_addLampTo 1 = .ok (.lstore 4, 2) := by decide +kernel
theorem dX6_addLampTo_3 : decode cX6_addLampTo 3 = .ok (.iconst 0, 1) := by decide +kernel
theorem dX6_addLampTo_4 : decode cX6_addLampTo 4 = .ok (.istore 6, 2) := by decide +kernel
theorem dX6_addLampTo_6 : decode cX6_addLampTo 6 = .ok (.iload 6, 2) := by decide +kernel
theorem dX6_addLampTo_8 : decode cX6_addLampTo 8 = .ok (.bipush 11, 2) := by decide +kernel
theorem dX6_addLampTo_10 : decode cX6_addLampTo 10 = .ok (.if_icmp .gt 26, 3) := by decide +kernel
theorem dX6_addLampTo_13 : decode cX6_addLampTo 13 = .ok (.ldc2_w 249, 3) := by decide +kernel
theorem dX6_addLampTo_16 : decode cX6_addLampTo 16 = .ok (.lload 4, 2) := by decide +kernel
theorem dX6_addLampTo_18 : decode cX6_addLampTo 18 = .ok (.lmul, 1) := by decide +kernel
theorem dX6_addLampTo_19 : decode cX6_addLampTo 19 = .ok (.aload_n 0, 1) := by decide +kernel
theorem dX6_addLampTo_20 : decode cX6_addLampTo 20 = .ok (.iload_n 3, 1) := by decide +kernel
theorem dX6_addLampTo_21 : decode cX6_addLampTo 21 = .ok (.iload 6, 2) := by decide +kernel
theorem dX6_addLampTo_23 : decode cX6_addLampTo 23 = .ok (.invokevirtual 109, 3) := by decide +kernel
theorem dX6_addLampTo_26 : decode cX6_addLampTo 26 = .ok (.i2l, 1) := by decide +kernel
theorem dX6_addLampTo_27 : decode cX6_addLampTo 27 = .ok (.ladd, 1) := by decide +kernel
theorem dX6_addLampTo_28 : decode cX6_addLampTo 28 = .ok (.lstore 4, 2) := by decide +kernel
theorem dX6_addLampTo_30 : decode cX6_addLampTo 30 = .ok (.iinc 6 1, 3) := by decide +kernel
theorem dX6_addLampTo_33 : decode cX6_addLampTo 33 = .ok (.goto (-27), 3) := by decide +kernel
theorem dX6_addLampTo_36 : decode cX6_addLampTo 36 = .ok (.iconst 0, 1) := by decide +kernel
theorem dX6_addLampTo_37 : decode cX6_addLampTo 37 = .ok (.istore 6, 2) := by decide +kernel
theorem dX6_addLampTo_39 : decode cX6_addLampTo 39 = .ok (.iload 6, 2) := by decide +kernel
theorem dX6_addLampTo_41 : decode cX6_addLampTo 41 = .ok (.iconst 4, 1) := by decide +kernel
theorem dX6_addLampTo_42 : decode cX6_addLampTo 42 = .ok (.if_icmp .ge 51, 3) := by decide +kernel
theorem dX6_addLampTo_45 : decode cX6_addLampTo 45 = .ok (.ldc2_w 249, 3) := by decide +kernel
theorem dX6_addLampTo_48 : decode cX6_addLampTo 48 = .ok (.lload 4, 2) := by decide +kernel
theorem dX6_addLampTo_50 : decode cX6_addLampTo 50 = .ok (.lmul, 1) := by decide +kernel
theorem dX6_addLampTo_51 : decode cX6_addLampTo 51 = .ok (.aload_n 0, 1) := by decide +kernel
theorem dX6_addLampTo_52 : decode cX6_addLampTo 52 = .ok (.getfield 12, 3) := by decide +kernel
theorem dX6_addLampTo_55 : decode cX6_addLampTo 55 = .ok (.iload_n 3, 1) := by decide +kernel
theorem dX6_addLampTo_56 : decode cX6_addLampTo 56 = .ok (.iload 6, 2) := by decide +kernel
theorem dX6_addLampTo_58 : decode cX6_addLampTo 58 = .ok (.iconst 0, 1) := by decide +kernel
theorem dX6_addLampTo_59 : decode cX6_addLampTo 59 = .ok (.invokevirtual 180, 3) := by decide +kernel
theorem dX6_addLampTo_62 : decode cX6_addLampTo 62 = .ok (.i2l, 1) := by decide +kernel
theorem dX6_addLampTo_63 : decode cX6_addLampTo 63 = .ok (.ladd, 1) := by decide +kernel
theorem dX6_addLampTo_64 : decode cX6_addLampTo 64 = .ok (.lstore 4, 2) := by decide +kernel
theorem dX6_addLampTo_66 : decode cX6_addLampTo 66 = .ok (.ldc2_w 249, 3) := by decide +kernel
theorem dX6_addLampTo_69 : decode cX6_addLampTo 69 = .ok (.lload 4, 2) := by decide +kernel
theorem dX6_addLampTo_71 : decode cX6_addLampTo 71 = .ok (.lmul, 1) := by decide +kernel
theorem dX6_addLampTo_72 : decode cX6_addLampTo 72 = .ok (.aload_n 0, 1) := by decide +kernel
theorem dX6_addLampTo_73 : decode cX6_addLampTo 73 = .ok (.getfield 12, 3) := by decide +kernel
theorem dX6_addLampTo_76 : decode cX6_addLampTo 76 = .ok (.iload_n 3, 1) := by decide +kernel
theorem dX6_addLampTo_77 : decode cX6_addLampTo 77 = .ok (.iload 6, 2) := by decide +kernel
theorem dX6_addLampTo_79 : decode cX6_addLampTo 79 = .ok (.iconst 1, 1) := by decide +kernel
theorem dX6_addLampTo_80 : decode cX6_addLampTo 80 = .ok (.invokevirtual 180, 3) := by decide +kernel
theorem dX6_addLampTo_83 : decode cX6_addLampTo 83 = .ok (.i2l, 1) := by decide +kernel
theorem dX6_addLampTo_84 : decode cX6_addLampTo 84 = .ok (.ladd, 1) := by decide +kernel
theorem dX6_addLampTo_85 : decode cX6_addLampTo 85 = .ok (.lstore 4, 2) := by decide +kernel
theorem dX6_addLampTo_87 : decode cX6_addLampTo 87 = .ok (.iinc 6 1, 3) := by decide +kernel
theorem dX6_addLampTo_90 : decode cX6_addLampTo 90 = .ok (.goto (-51), 3) := by decide +kernel
theorem dX6_addLampTo_93 : decode cX6_addLampTo 93 = .ok (.lload 4, 2) := by decide +kernel
theorem dX6_addLampTo_95 : decode cX6_addLampTo 95 = .ok (.lreturn, 1) := by decide +kernel
theorem dX6_addPlaceTo_0 : decode cX6_addPlaceTo 0 = .ok (.lload_n 1, 1) := by decide +kernel
theorem dX6_addPlaceTo_1 : decode cX6_addPlaceTo 1 = .ok (.lstore 4, 2) := by decide +kernel
theorem dX6_addPlaceTo_3 : decode cX6_addPlaceTo 3 = .ok (.iconst 0, 1) := by decide +kernel
theorem dX6_addPlaceTo_4 : decode cX6_addPlaceTo 4 = .ok (.istore 6, 2) := by decide +kernel
theorem dX6_addPlaceTo_6 : decode cX6_addPlaceTo 6 = .ok (.iload 6, 2) := by decide +kernel
theorem dX6_addPlaceTo_8 : decode cX6_addPlaceTo 8 = .ok (.iconst 5, 1) := by decide +kernel
theorem dX6_addPlaceTo_9 : decode cX6_addPlaceTo 9 = .ok (.if_icmp .gt 26, 3) := by decide +kernel
theorem dX6_addPlaceTo_12 : decode cX6_addPlaceTo 12 = .ok (.ldc2_w 249, 3) := by decide +kernel
theorem dX6_addPlaceTo_15 : decode cX6_addPlaceTo 15 = .ok (.lload 4, 2) := by decide +kernel
theorem dX6_addPlaceTo_17 : decode cX6_addPlaceTo 17 = .ok (.lmul, 1) := by decide +kernel
theorem dX6_addPlaceTo_18 : decode cX6_addPlaceTo 18 = .ok (.aload_n 0, 1) := by decide +kernel
theorem dX6_addPlaceTo_19 : decode cX6_addPlaceTo 19 = .ok (.iload_n 3, 1) := by decide +kernel
theorem dX6_addPlaceTo_20 : decode cX6_addPlaceTo 20 = .ok (.iload 6, 2) := by decide +kernel
theorem dX6_addPlaceTo_22 : decode cX6_addPlaceTo 22 = .ok (.invokevirtual 153, 3) := by decide +kernel
theorem dX6_addPlaceTo_25 : decode cX6_addPlaceTo 25 = .ok (.i2l, 1) := by decide +kernel
theorem dX6_addPlaceTo_26 : decode cX6_addPlaceTo 26 = .ok (.ladd, 1) := by decide +kernel
theorem dX6_addPlaceTo_27 : decode cX6_addPlaceTo 27 = .ok (.lstore 4, 2) := by decide +kernel
theorem dX6_addPlaceTo_29 : decode cX6_addPlaceTo 29 = .ok (.iinc 6 1, 3) := by decide +kernel
theorem dX6_addPlaceTo_32 : decode cX6_addPlaceTo 32 = .ok (.goto (-26), 3) := by decide +kernel
theorem dX6_addPlaceTo_35 : decode cX6_addPlaceTo 35 = .ok (.iconst 0, 1) := by decide +kernel
theorem dX6_addPlaceTo_36 : decode cX6_addPlaceTo 36 = .ok (.istore 6, 2) := by decide +kernel
theorem dX6_addPlaceTo_38 : decode cX6_addPlaceTo 38 = .ok (.iload 6, 2) := by decide +kernel
theorem dX6_addPlaceTo_40 : decode cX6_addPlaceTo 40 = .ok (.aload_n 0, 1) := by decide +kernel
theorem dX6_addPlaceTo_41 : decode cX6_addPlaceTo 41 = .ok (.getfield 12, 3) := by decide +kernel
theorem dX6_addPlaceTo_44 : decode cX6_addPlaceTo 44 = .ok (.getfield 198, 3) := by decide +kernel
theorem dX6_addPlaceTo_47 : decode cX6_addPlaceTo 47 = .ok (.if_icmp .ge 29, 3) := by decide +kernel
theorem dX6_addPlaceTo_50 : decode cX6_addPlaceTo 50 = .ok (.ldc2_w 249, 3) := by decide +kernel
theorem dX6_addPlaceTo_53 : decode cX6_addPlaceTo 53 = .ok (.lload 4, 2) := by decide +kernel
theorem dX6_addPlaceTo_55 : decode cX6_addPlaceTo 55 = .ok (.lmul, 1) := by decide +kernel
theorem dX6_addPlaceTo_56 : decode cX6_addPlaceTo 56 = .ok (.aload_n 0, 1) := by decide +kernel
theorem dX6_addPlaceTo_57 : decode cX6_addPlaceTo 57 = .ok (.getfield 19, 3) := by decide +kernel
theorem dX6_addPlaceTo_60 : decode cX6_addPlaceTo 60 = .ok (.iload 6, 2) := by decide +kernel
theorem dX6_addPlaceTo_62 : decode cX6_addPlaceTo 62 = .ok (.iload_n 3, 1) := by decide +kernel
theorem dX6_addPlaceTo_63 : decode cX6_addPlaceTo 63 = .ok (.invokevirtual 156, 3) := by decide +kernel
theorem dX6_addPlaceTo_66 : decode cX6_addPlaceTo 66 = .ok (.i2l, 1) := by decide +kernel
theorem dX6_addPlaceTo_67 : decode cX6_addPlaceTo 67 = .ok (.ladd, 1) := by decide +kernel
theorem dX6_addPlaceTo_68 : decode cX6_addPlaceTo 68 = .ok (.lstore 4, 2) := by decide +kernel
theorem dX6_addPlaceTo_70 : decode cX6_addPlaceTo 70 = .ok (.iinc 6 1, 3) := by decide +kernel
theorem dX6_addPlaceTo_73 : decode cX6_addPlaceTo 73 = .ok (.goto (-35), 3) := by decide +kernel
theorem dX6_addPlaceTo_76 : decode cX6_addPlaceTo 76 = .ok (.lload 4, 2) := by decide +kernel
theorem dX6_addPlaceTo_78 : decode cX6_addPlaceTo 78 = .ok (.lreturn, 1) := by decide +kernel
theorem dX6_placeValue_0 : decode cX6_placeValue 0 = .ok (.aload_n 0, 1) := by decide +kernel
theorem dX6_placeValue_1 : decode cX6_placeValue 1 = .ok (.getfield 19, 3) := by decide +kernel
theorem dX6_placeValue_4 : decode cX6_placeValue 4 = .ok (.aload_n 0, 1) := by decide +kernel
theorem dX6_placeValue_5 : decode cX6_placeValue 5 = .ok (.getfield 12, 3) := by decide +kernel
theorem dX6_placeValue_8 : decode cX6_placeValue 8 = .ok (.invokevirtual 98, 3) := by decide +kernel
theorem dX6_placeValue_11 : decode cX6_placeValue 11 = .ok (.iload_n 2, 1) := by decide +kernel
theorem dX6_placeValue_12 : decode cX6_placeValue 12 = .ok (.tableswitch 88 0 4 #[36, 45, 54, 63, 72], 36) := by decide +kernel
theorem dX6_placeValue_48 : decode cX6_placeValue 48 = .ok (.aload_n 0, 1) := by decide +kernel
theorem dX6_placeValue_49 : decode cX6_placeValue 49 = .ok (.getfield 12, 3) := by decide +kernel
theorem dX6_placeValue_52 : decode cX6_placeValue 52 = .ok (.iload_n 1, 1) := by decide +kernel
theorem dX6_placeValue_53 : decode cX6_placeValue 53 = .ok (.invokevirtual 208, 3) := by decide +kernel
theorem dX6_placeValue_56 : decode cX6_placeValue 56 = .ok (.ireturn, 1) := by decide +kernel
theorem dX6_placeValue_57 : decode cX6_placeValue 57 = .ok (.aload_n 0, 1) := by decide +kernel
theorem dX6_placeValue_58 : decode cX6_placeValue 58 = .ok (.getfield 19, 3) := by decide +kernel
theorem dX6_placeValue_61 : decode cX6_placeValue 61 = .ok (.iload_n 1, 1) := by decide +kernel
theorem dX6_placeValue_62 : decode cX6_placeValue 62 = .ok (.invokevirtual 211, 3) := by decide +kernel
theorem dX6_placeValue_65 : decode cX6_placeValue 65 = .ok (.ireturn, 1) := by decide +kernel
theorem dX6_placeValue_66 : decode cX6_placeValue 66 = .ok (.aload_n 0, 1) := by decide +kernel
theorem dX6_placeValue_67 : decode cX6_placeValue 67 = .ok (.getfield 19, 3) := by decide +kernel
theorem dX6_placeValue_70 : decode cX6_placeValue 70 = .ok (.iload_n 1, 1) := by decide +kernel
theorem dX6_placeValue_71 : decode cX6_placeValue 71 = .ok (.invokevirtual 192, 3) := by decide +kernel
theorem dX6_placeValue_74 : decode cX6_placeValue 74 = .ok (.ireturn, 1) := by decide +kernel
theorem dX6_placeValue_75 : decode cX6_placeValue 75 = .ok (.aload_n 0, 1) := by decide +kernel
theorem dX6_placeValue_76 : decode cX6_placeValue 76 = .ok (.getfield 19, 3) := by decide +kernel
theorem dX6_placeValue_79 : decode cX6_placeValue 79 = .ok (.iload_n 1, 1) := by decide +kernel
theorem dX6_placeValue_80 : decode cX6_placeValue 80 = .ok (.invokevirtual 258, 3) := by decide +kernel
theorem dX6_placeValue_83 : decode cX6_placeValue 83 = .ok (.ireturn, 1) := by decide +kernel
theorem dX6_placeValue_84 : decode cX6_placeValue 84 = .ok (.aload_n 0, 1) := by decide +kernel
theorem dX6_placeValue_85 : decode cX6_placeValue 85 = .ok (.getfield 12, 3) := by decide +kernel
theorem dX6_placeValue_88 : decode cX6_placeValue 88 = .ok (.aload_n 0, 1) := by decide +kernel
theorem dX6_placeValue_89 : decode cX6_placeValue 89 = .ok (.getfield 19, 3) := by decide +kernel
theorem dX6_placeValue_92 : decode cX6_placeValue 92 = .ok (.iload_n 1, 1) := by decide +kernel
theorem dX6_placeValue_93 : decode cX6_placeValue 93 = .ok (.invokevirtual 258, 3) := by decide +kernel
theorem dX6_placeValue_96 : decode cX6_placeValue 96 = .ok (.invokevirtual 261, 3) := by decide +kernel
theorem dX6_placeValue_99 : decode cX6_placeValue 99 = .ok (.ireturn, 1) := by decide +kernel
theorem dX6_placeValue_100 : decode cX6_placeValue 100 = .ok (.aload_n 0, 1) := by decide +kernel
theorem dX6_placeValue_101 : decode cX6_placeValue 101 = .ok (.getfield 12, 3) := by decide +kernel
theorem dX6_placeValue_104 : decode cX6_placeValue 104 = .ok (.aload_n 0, 1) := by decide +kernel
theorem dX6_placeValue_105 : decode cX6_placeValue 105 = .ok (.getfield 19, 3) := by decide +kernel
theorem dX6_placeValue_108 : decode cX6_placeValue 108 = .ok (.iload_n 1, 1) := by decide +kernel
theorem dX6_placeValue_109 : decode cX6_placeValue 109 = .ok (.invokevirtual 258, 3) := by decide +kernel
theorem dX6_placeValue_112 : decode cX6_placeValue 112 = .ok (.invokevirtual 264, 3) := by decide +kernel
theorem dX6_placeValue_115 : decode cX6_placeValue 115 = .ok (.ireturn, 1) := by decide +kernel
theorem dX6_lampValue_0 : decode cX6_lampValue 0 = .ok (.aload_n 0, 1) := by decide +kernel
theorem dX6_lampValue_1 : decode cX6_lampValue 1 = .ok (.getfield 19, 3) := by decide +kernel
theorem dX6_lampValue_4 : decode cX6_lampValue 4 = .ok (.aload_n 0, 1) := by decide +kernel
theorem dX6_lampValue_5 : decode cX6_lampValue 5 = .ok (.getfield 12, 3) := by decide +kernel
theorem dX6_lampValue_8 : decode cX6_lampValue 8 = .ok (.invokevirtual 98, 3) := by decide +kernel
theorem dX6_lampValue_11 : decode cX6_lampValue 11 = .ok (.iload_n 2, 1) := by decide +kernel
theorem dX6_lampValue_12 : decode cX6_lampValue 12 = .ok (.tableswitch 192 0 10 #[60, 72, 84, 96, 113, 122, 131, 148, 157, 166, 183], 60) := by decide +kernel
theorem dX6_lampValue_72 : decode cX6_lampValue 72 = .ok (.aload_n 0, 1) := by decide +kernel
theorem dX6_lampValue_73 : decode cX6_lampValue 73 = .ok (.getfield 12, 3) := by decide +kernel
theorem dX6_lampValue_76 : decode cX6_lampValue 76 = .ok (.getfield 267, 3) := by decide +kernel
theorem dX6_lampValue_79 : decode cX6_lampValue 79 = .ok (.iload_n 1, 1) := by decide +kernel
theorem dX6_lampValue_80 : decode cX6_lampValue 80 = .ok (.invokevirtual 271, 3) := by decide +kernel
theorem dX6_lampValue_83 : decode cX6_lampValue 83 = .ok (.ireturn, 1) := by decide +kernel
theorem dX6_lampValue_84 : decode cX6_lampValue 84 = .ok (.aload_n 0, 1) := by decide +kernel
theorem dX6_lampValue_85 : decode cX6_lampValue 85 = .ok (.getfield 12, 3) := by decide +kernel
theorem dX6_lampValue_88 : decode cX6_lampValue 88 = .ok (.getfield 276, 3) := by decide +kernel
theorem dX6_lampValue_91 : decode cX6_lampValue 91 = .ok (.iload_n 1, 1) := by decide +kernel
theorem dX6_lampValue_92 : decode cX6_lampValue 92 = .ok (.invokevirtual 271, 3) := by decide +kernel
theorem dX6_lampValue_95 : decode cX6_lampValue 95 = .ok (.ireturn, 1) := by decide +kernel
theorem dX6_lampValue_96 : decode cX6_lampValue 96 = .ok (.aload_n 0, 1) := by decide +kernel
theorem dX6_lampValue_97 : decode cX6_lampValue 97 = .ok (.getfield 12, 3) := by decide +kernel
theorem dX6_lampValue_100 : decode cX6_lampValue 100 = .ok (.getfield 279, 3) := by decide +kernel
theorem dX6_lampValue_103 : decode cX6_lampValue 103 = .ok (.iload_n 1, 1) := by decide +kernel
theorem dX6_lampValue_104 : decode cX6_lampValue 104 = .ok (.invokevirtual 271, 3) := by decide +kernel
theorem dX6_lampValue_107 : decode cX6_lampValue 107 = .ok (.ireturn, 1) := by decide +kernel
theorem dX6_lampValue_108 : decode cX6_lampValue 108 = .ok (.aload_n 0, 1) := by decide +kernel
theorem dX6_lampValue_109 : decode cX6_lampValue 109 = .ok (.getfield 12, 3) := by decide +kernel
theorem dX6_lampValue_112 : decode cX6_lampValue 112 = .ok (.iload_n 1, 1) := by decide +kernel
theorem dX6_lampValue_113 : decode cX6_lampValue 113 = .ok (.invokevirtual 119, 3) := by decide +kernel
theorem dX6_lampValue_116 : decode cX6_lampValue 116 = .ok (.ifCond .eq 7, 3) := by decide +kernel
theorem dX6_lampValue_119 : decode cX6_lampValue 119 = .ok (.iconst 1, 1) := by decide +kernel
theorem dX6_lampValue_120 : decode cX6_lampValue 120 = .ok (.goto 4, 3) := by decide +kernel
theorem dX6_lampValue_123 : decode cX6_lampValue 123 = .ok (.iconst 0, 1) := by decide +kernel
theorem dX6_lampValue_124 : decode cX6_lampValue 124 = .ok (.ireturn, 1) := by decide +kernel
theorem dX6_lampValue_125 : decode cX6_lampValue 125 = .ok (.aload_n 0, 1) := by decide +kernel
theorem dX6_lampValue_126 : decode cX6_lampValue 126 = .ok (.getfield 12, 3) := by decide +kernel
theorem dX6_lampValue_129 : decode cX6_lampValue 129 = .ok (.iload_n 1, 1) := by decide +kernel
theorem dX6_lampValue_130 : decode cX6_lampValue 130 = .ok (.invokevirtual 282, 3) := by decide +kernel
theorem dX6_lampValue_133 : decode cX6_lampValue 133 = .ok (.ireturn, 1) := by decide +kernel
theorem dX6_lampValue_134 : decode cX6_lampValue 134 = .ok (.aload_n 0, 1) := by decide +kernel
theorem dX6_lampValue_135 : decode cX6_lampValue 135 = .ok (.getfield 12, 3) := by decide +kernel
theorem dX6_lampValue_138 : decode cX6_lampValue 138 = .ok (.iload_n 1, 1) := by decide +kernel
theorem dX6_lampValue_139 : decode cX6_lampValue 139 = .ok (.invokevirtual 285, 3) := by decide +kernel
theorem dX6_lampValue_142 : decode cX6_lampValue 142 = .ok (.ireturn, 1) := by decide +kernel
theorem dX6_lampValue_143 : decode cX6_lampValue 143 = .ok (.aload_n 0, 1) := by decide +kernel
theorem dX6_lampValue_144 : decode cX6_lampValue 144 = .ok (.getfield 12, 3) := by decide +kernel
theorem dX6_lampValue_147 : decode cX6_lampValue 147 = .ok (.iload_n 1, 1) := by decide +kernel
theorem dX6_lampValue_148 : decode cX6_lampValue 148 = .ok (.invokevirtual 91, 3) := by decide +kernel
theorem dX6_lampValue_151 : decode cX6_lampValue 151 = .ok (.ifCond .eq 7, 3) := by decide +kernel
theorem dX6_lampValue_154 : decode cX6_lampValue 154 = .ok (.iconst 1, 1) := by decide +kernel
theorem dX6_lampValue_155 : decode cX6_lampValue 155 = .ok (.goto 4, 3) := by decide +kernel
theorem dX6_lampValue_158 : decode cX6_lampValue 158 = .ok (.iconst 0, 1) := by decide +kernel
theorem dX6_lampValue_159 : decode cX6_lampValue 159 = .ok (.ireturn, 1) := by decide +kernel
theorem dX6_lampValue_160 : decode cX6_lampValue 160 = .ok (.aload_n 0, 1) := by decide +kernel
theorem dX6_lampValue_161 : decode cX6_lampValue 161 = .ok (.getfield 19, 3) := by decide +kernel
theorem dX6_lampValue_164 : decode cX6_lampValue 164 = .ok (.iload_n 1, 1) := by decide +kernel
theorem dX6_lampValue_165 : decode cX6_lampValue 165 = .ok (.invokevirtual 101, 3) := by decide +kernel
theorem dX6_lampValue_168 : decode cX6_lampValue 168 = .ok (.ireturn, 1) := by decide +kernel
theorem dX6_lampValue_169 : decode cX6_lampValue 169 = .ok (.aload_n 0, 1) := by decide +kernel
theorem dX6_lampValue_170 : decode cX6_lampValue 170 = .ok (.getfield 19, 3) := by decide +kernel
theorem dX6_lampValue_173 : decode cX6_lampValue 173 = .ok (.iload_n 1, 1) := by decide +kernel
theorem dX6_lampValue_174 : decode cX6_lampValue 174 = .ok (.invokevirtual 288, 3) := by decide +kernel
theorem dX6_lampValue_177 : decode cX6_lampValue 177 = .ok (.ireturn, 1) := by decide +kernel
theorem dX6_lampValue_178 : decode cX6_lampValue 178 = .ok (.aload_n 0, 1) := by decide +kernel
theorem dX6_lampValue_179 : decode cX6_lampValue 179 = .ok (.getfield 19, 3) := by decide +kernel
theorem dX6_lampValue_182 : decode cX6_lampValue 182 = .ok (.iload_n 1, 1) := by decide +kernel
theorem dX6_lampValue_183 : decode cX6_lampValue 183 = .ok (.aload_n 0, 1) := by decide +kernel
theorem dX6_lampValue_184 : decode cX6_lampValue 184 = .ok (.getfield 12, 3) := by decide +kernel
theorem dX6_lampValue_187 : decode cX6_lampValue 187 = .ok (.iload_n 1, 1) := by decide +kernel
theorem dX6_lampValue_188 : decode cX6_lampValue 188 = .ok (.invokevirtual 282, 3) := by decide +kernel
theorem dX6_lampValue_191 : decode cX6_lampValue 191 = .ok (.invokevirtual 291, 3) := by decide +kernel
theorem dX6_lampValue_194 : decode cX6_lampValue 194 = .ok (.ireturn, 1) := by decide +kernel
theorem dX6_lampValue_195 : decode cX6_lampValue 195 = .ok (.aload_n 0, 1) := by decide +kernel
theorem dX6_lampValue_196 : decode cX6_lampValue 196 = .ok (.getfield 19, 3) := by decide +kernel
theorem dX6_lampValue_199 : decode cX6_lampValue 199 = .ok (.iload_n 1, 1) := by decide +kernel
theorem dX6_lampValue_200 : decode cX6_lampValue 200 = .ok (.invokevirtual 294, 3) := by decide +kernel
theorem dX6_lampValue_203 : decode cX6_lampValue 203 = .ok (.ireturn, 1) := by decide +kernel
theorem dX6_lampValue_204 : decode cX6_lampValue 204 = .ok (.aload_n 0, 1) := by decide +kernel
theorem dX6_lampValue_205 : decode cX6_lampValue 205 = .ok (.getfield 19, 3) := by decide +kernel
theorem dX6_lampValue_208 : decode cX6_lampValue 208 = .ok (.iload_n 1, 1) := by decide +kernel
theorem dX6_lampValue_209 : decode cX6_lampValue 209 = .ok (.invokevirtual 297, 3) := by decide +kernel
theorem dX6_lampValue_212 : decode cX6_lampValue 212 = .ok (.ireturn, 1) := by decide +kernel
theorem dX6_wholeValue_0 : decode cX6_wholeValue 0 = .ok (.aload_n 0, 1) := by decide +kernel
theorem dX6_wholeValue_1 : decode cX6_wholeValue 1 = .ok (.getfield 19, 3) := by decide +kernel
theorem dX6_wholeValue_4 : decode cX6_wholeValue 4 = .ok (.aload_n 0, 1) := by decide +kernel
theorem dX6_wholeValue_5 : decode cX6_wholeValue 5 = .ok (.getfield 12, 3) := by decide +kernel
theorem dX6_wholeValue_8 : decode cX6_wholeValue 8 = .ok (.invokevirtual 98, 3) := by decide +kernel
theorem dX6_wholeValue_11 : decode cX6_wholeValue 11 = .ok (.iload_n 1, 1) := by decide +kernel
theorem dX6_wholeValue_12 : decode cX6_wholeValue 12 = .ok (.tableswitch 164 0 13 #[72, 80, 88, 96, 104, 112, 120, 120, 120, 120, 132, 140, 148, 156], 72) := by decide +kernel
theorem dX6_wholeValue_84 : decode cX6_wholeValue 84 = .ok (.aload_n 0, 1) := by decide +kernel
theorem dX6_wholeValue_85 : decode cX6_wholeValue 85 = .ok (.getfield 12, 3) := by decide +kernel
theorem dX6_wholeValue_88 : decode cX6_wholeValue 88 = .ok (.getfield 189, 3) := by decide +kernel
theorem dX6_wholeValue_91 : decode cX6_wholeValue 91 = .ok (.ireturn, 1) := by decide +kernel
theorem dX6_wholeValue_92 : decode cX6_wholeValue 92 = .ok (.aload_n 0, 1) := by decide +kernel
theorem dX6_wholeValue_93 : decode cX6_wholeValue 93 = .ok (.getfield 12, 3) := by decide +kernel
theorem dX6_wholeValue_96 : decode cX6_wholeValue 96 = .ok (.getfield 186, 3) := by decide +kernel
theorem dX6_wholeValue_99 : decode cX6_wholeValue 99 = .ok (.ireturn, 1) := by decide +kernel
theorem dX6_wholeValue_100 : decode cX6_wholeValue 100 = .ok (.aload_n 0, 1) := by decide +kernel
theorem dX6_wholeValue_101 : decode cX6_wholeValue 101 = .ok (.getfield 12, 3) := by decide +kernel
theorem dX6_wholeValue_104 : decode cX6_wholeValue 104 = .ok (.getfield 163, 3) := by decide +kernel
theorem dX6_wholeValue_107 : decode cX6_wholeValue 107 = .ok (.ireturn, 1) := by decide +kernel
theorem dX6_wholeValue_108 : decode cX6_wholeValue 108 = .ok (.aload_n 0, 1) := by decide +kernel
theorem dX6_wholeValue_109 : decode cX6_wholeValue 109 = .ok (.getfield 12, 3) := by decide +kernel
theorem dX6_wholeValue_112 : decode cX6_wholeValue 112 = .ok (.getfield 170, 3) := by decide +kernel
theorem dX6_wholeValue_115 : decode cX6_wholeValue 115 = .ok (.ireturn, 1) := by decide +kernel
theorem dX6_wholeValue_116 : decode cX6_wholeValue 116 = .ok (.aload_n 0, 1) := by decide +kernel
theorem dX6_wholeValue_117 : decode cX6_wholeValue 117 = .ok (.getfield 12, 3) := by decide +kernel
theorem dX6_wholeValue_120 : decode cX6_wholeValue 120 = .ok (.getfield 198, 3) := by decide +kernel
theorem dX6_wholeValue_123 : decode cX6_wholeValue 123 = .ok (.ireturn, 1) := by decide +kernel
theorem dX6_wholeValue_124 : decode cX6_wholeValue 124 = .ok (.aload_n 0, 1) := by decide +kernel
theorem dX6_wholeValue_125 : decode cX6_wholeValue 125 = .ok (.getfield 12, 3) := by decide +kernel
theorem dX6_wholeValue_128 : decode cX6_wholeValue 128 = .ok (.invokevirtual 300, 3) := by decide +kernel
theorem dX6_wholeValue_131 : decode cX6_wholeValue 131 = .ok (.ireturn, 1) := by decide +kernel
theorem dX6_wholeValue_132 : decode cX6_wholeValue 132 = .ok (.aload_n 0, 1) := by decide +kernel
theorem dX6_wholeValue_133 : decode cX6_wholeValue 133 = .ok (.getfield 19, 3) := by decide +kernel
theorem dX6_wholeValue_136 : decode cX6_wholeValue 136 = .ok (.iload_n 1, 1) := by decide +kernel
theorem dX6_wholeValue_137 : decode cX6_wholeValue 137 = .ok (.bipush 6, 2) := by decide +kernel
theorem dX6_wholeValue_139 : decode cX6_wholeValue 139 = .ok (.isub, 1) := by decide +kernel
theorem dX6_wholeValue_140 : decode cX6_wholeValue 140 = .ok (.invokevirtual 303, 3) := by decide +kernel
theorem dX6_wholeValue_143 : decode cX6_wholeValue 143 = .ok (.ireturn, 1) := by decide +kernel
theorem dX6_wholeValue_144 : decode cX6_wholeValue 144 = .ok (.aload_n 0, 1) := by decide +kernel
theorem dX6_wholeValue_145 : decode cX6_wholeValue 145 = .ok (.getfield 12, 3) := by decide +kernel
theorem dX6_wholeValue_148 : decode cX6_wholeValue 148 = .ok (.invokevirtual 306, 3) := by decide +kernel
theorem dX6_wholeValue_151 : decode cX6_wholeValue 151 = .ok (.ireturn, 1) := by decide +kernel
theorem dX6_wholeValue_152 : decode cX6_wholeValue 152 = .ok (.aload_n 0, 1) := by decide +kernel
theorem dX6_wholeValue_153 : decode cX6_wholeValue 153 = .ok (.getfield 19, 3) := by decide +kernel
theorem dX6_wholeValue_156 : decode cX6_wholeValue 156 = .ok (.invokevirtual 309, 3) := by decide +kernel
theorem dX6_wholeValue_159 : decode cX6_wholeValue 159 = .ok (.ireturn, 1) := by decide +kernel
theorem dX6_wholeValue_160 : decode cX6_wholeValue 160 = .ok (.aload_n 0, 1) := by decide +kernel
theorem dX6_wholeValue_161 : decode cX6_wholeValue 161 = .ok (.getfield 12, 3) := by decide +kernel
theorem dX6_wholeValue_164 : decode cX6_wholeValue 164 = .ok (.getfield 312, 3) := by decide +kernel
theorem dX6_wholeValue_167 : decode cX6_wholeValue 167 = .ok (.ireturn, 1) := by decide +kernel
theorem dX6_wholeValue_168 : decode cX6_wholeValue 168 = .ok (.aload_n 0, 1) := by decide +kernel
theorem dX6_wholeValue_169 : decode cX6_wholeValue 169 = .ok (.getfield 19, 3) := by decide +kernel
theorem dX6_wholeValue_172 : decode cX6_wholeValue 172 = .ok (.invokevirtual 315, 3) := by decide +kernel
theorem dX6_wholeValue_175 : decode cX6_wholeValue 175 = .ok (.ireturn, 1) := by decide +kernel
theorem dX6_wholeValue_176 : decode cX6_wholeValue 176 = .ok (.aload_n 0, 1) := by decide +kernel
theorem dX6_wholeValue_177 : decode cX6_wholeValue 177 = .ok (.getfield 40, 3) := by decide +kernel
theorem dX6_wholeValue_180 : decode cX6_wholeValue 180 = .ok (.getfield 219, 3) := by decide +kernel
theorem dX6_wholeValue_183 : decode cX6_wholeValue 183 = .ok (.ireturn, 1) := by decide +kernel
theorem dX6_wrongIfFailed_0 : decode cX6_wrongIfFailed 0 = .ok (.aload_n 0, 1) := by decide +kernel
theorem dX6_wrongIfFailed_1 : decode cX6_wrongIfFailed 1 = .ok (.getfield 12, 3) := by decide +kernel
theorem dX6_wrongIfFailed_4 : decode cX6_wrongIfFailed 4 = .ok (.invokevirtual 201, 3) := by decide +kernel
theorem dX6_wrongIfFailed_7 : decode cX6_wrongIfFailed 7 = .ok (.iconst 1, 1) := by decide +kernel
theorem dX6_wrongIfFailed_8 : decode cX6_wrongIfFailed 8 = .ok (.iload_n 1, 1) := by decide +kernel
theorem dX6_wrongIfFailed_9 : decode cX6_wrongIfFailed 9 = .ok (.ishl, 1) := by decide +kernel
theorem dX6_wrongIfFailed_10 : decode cX6_wrongIfFailed 10 = .ok (.iconst (-1), 1) := by decide +kernel
theorem dX6_wrongIfFailed_11 : decode cX6_wrongIfFailed 11 = .ok (.ixor, 1) := by decide +kernel
theorem dX6_wrongIfFailed_12 : decode cX6_wrongIfFailed 12 = .ok (.iand, 1) := by decide +kernel
theorem dX6_wrongIfFailed_13 : decode cX6_wrongIfFailed 13 = .ok (.istore_n 2, 1) := by decide +kernel
theorem dX6_wrongIfFailed_14 : decode cX6_wrongIfFailed 14 = .ok (.aload_n 0, 1) := by decide +kernel
theorem dX6_wrongIfFailed_15 : decode cX6_wrongIfFailed 15 = .ok (.getfield 26, 3) := by decide +kernel
theorem dX6_wrongIfFailed_18 : decode cX6_wrongIfFailed 18 = .ok (.aload_n 0, 1) := by decide +kernel
theorem dX6_wrongIfFailed_19 : decode cX6_wrongIfFailed 19 = .ok (.getfield 12, 3) := by decide +kernel
theorem dX6_wrongIfFailed_22 : decode cX6_wrongIfFailed 22 = .ok (.iload_n 2, 1) := by decide +kernel
theorem dX6_wrongIfFailed_23 : decode cX6_wrongIfFailed 23 = .ok (.aload_n 0, 1) := by decide +kernel
theorem dX6_wrongIfFailed_24 : decode cX6_wrongIfFailed 24 = .ok (.getfield 12, 3) := by decide +kernel
theorem dX6_wrongIfFailed_27 : decode cX6_wrongIfFailed 27 = .ok (.getfield 163, 3) := by decide +kernel
theorem dX6_wrongIfFailed_30 : decode cX6_wrongIfFailed 30 = .ok (.aload_n 0, 1) := by decide +kernel
theorem dX6_wrongIfFailed_31 : decode cX6_wrongIfFailed 31 = .ok (.getfield 12, 3) := by decide +kernel
theorem dX6_wrongIfFailed_34 : decode cX6_wrongIfFailed 34 = .ok (.getfield 170, 3) := by decide +kernel
theorem dX6_wrongIfFailed_37 : decode cX6_wrongIfFailed 37 = .ok (.invokevirtual 204, 3) := by decide +kernel
theorem dX6_wrongIfFailed_40 : decode cX6_wrongIfFailed 40 = .ok (.ireturn, 1) := by decide +kernel
theorem dX6_burnHours_0 : decode cX6_burnHours 0 = .ok (.aload_n 0, 1) := by decide +kernel
theorem dX6_burnHours_1 : decode cX6_burnHours 1 = .ok (.getfield 19, 3) := by decide +kernel
theorem dX6_burnHours_4 : decode cX6_burnHours 4 = .ok (.aload_n 0, 1) := by decide +kernel
theorem dX6_burnHours_5 : decode cX6_burnHours 5 = .ok (.getfield 12, 3) := by decide +kernel
theorem dX6_burnHours_8 : decode cX6_burnHours 8 = .ok (.invokevirtual 98, 3) := by decide +kernel
theorem dX6_burnHours_11 : decode cX6_burnHours 11 = .ok (.iconst 0, 1) := by decide +kernel
theorem dX6_burnHours_12 : decode cX6_burnHours 12 = .ok (.istore_n 2, 1) := by decide +kernel
theorem dX6_burnHours_13 : decode cX6_burnHours 13 = .ok (.iload_n 2, 1) := by decide +kernel
theorem dX6_burnHours_14 : decode cX6_burnHours 14 = .ok (.aload_n 0, 1) := by decide +kernel
theorem dX6_burnHours_15 : decode cX6_burnHours 15 = .ok (.getfield 12, 3) := by decide +kernel
theorem dX6_burnHours_18 : decode cX6_burnHours 18 = .ok (.getfield 198, 3) := by decide +kernel
theorem dX6_burnHours_21 : decode cX6_burnHours 21 = .ok (.if_icmp .ge 49, 3) := by decide +kernel
theorem dX6_burnHours_24 : decode cX6_burnHours 24 = .ok (.aload_n 0, 1) := by decide +kernel
theorem dX6_burnHours_25 : decode cX6_burnHours 25 = .ok (.getfield 12, 3) := by decide +kernel
theorem dX6_burnHours_28 : decode cX6_burnHours 28 = .ok (.iload_n 2, 1) := by decide +kernel
theorem dX6_burnHours_29 : decode cX6_burnHours 29 = .ok (.invokevirtual 119, 3) := by decide +kernel
theorem dX6_burnHours_32 : decode cX6_burnHours 32 = .ok (.ifCond .eq 32, 3) := by decide +kernel
theorem dX6_burnHours_35 : decode cX6_burnHours 35 = .ok (.aload_n 0, 1) := by decide +kernel
theorem dX6_burnHours_36 : decode cX6_burnHours 36 = .ok (.getfield 12, 3) := by decide +kernel
theorem dX6_burnHours_39 : decode cX6_burnHours 39 = .ok (.iload_n 2, 1) := by decide +kernel
theorem dX6_burnHours_40 : decode cX6_burnHours 40 = .ok (.iload_n 1, 1) := by decide +kernel
theorem dX6_burnHours_41 : decode cX6_burnHours 41 = .ok (.aload_n 0, 1) := by decide +kernel
theorem dX6_burnHours_42 : decode cX6_burnHours 42 = .ok (.getfield 19, 3) := by decide +kernel
theorem dX6_burnHours_45 : decode cX6_burnHours 45 = .ok (.iload_n 2, 1) := by decide +kernel
theorem dX6_burnHours_46 : decode cX6_burnHours 46 = .ok (.aload_n 0, 1) := by decide +kernel
theorem dX6_burnHours_47 : decode cX6_burnHours 47 = .ok (.getfield 12, 3) := by decide +kernel
theorem dX6_burnHours_50 : decode cX6_burnHours 50 = .ok (.iload_n 2, 1) := by decide +kernel
theorem dX6_burnHours_51 : decode cX6_burnHours 51 = .ok (.invokevirtual 282, 3) := by decide +kernel
theorem dX6_burnHours_54 : decode cX6_burnHours 54 = .ok (.invokevirtual 291, 3) := by decide +kernel
theorem dX6_burnHours_57 : decode cX6_burnHours 57 = .ok (.imul, 1) := by decide +kernel
theorem dX6_burnHours_58 : decode cX6_burnHours 58 = .ok (.bipush 100, 2) := by decide +kernel
theorem dX6_burnHours_60 : decode cX6_burnHours 60 = .ok (.idiv, 1) := by decide +kernel
theorem dX6_burnHours_61 : decode cX6_burnHours 61 = .ok (.invokevirtual 318, 3) := by decide +kernel
theorem dX6_burnHours_64 : decode cX6_burnHours 64 = .ok (.iinc 2 1, 3) := by decide +kernel
theorem dX6_burnHours_67 : decode cX6_burnHours 67 = .ok (.goto (-54), 3) := by decide +kernel
theorem dX6_burnHours_70 : decode cX6_burnHours 70 = .ok (.aload_n 0, 1) := by decide +kernel
theorem dX6_burnHours_71 : decode cX6_burnHours 71 = .ok (.getfield 12, 3) := by decide +kernel
theorem dX6_burnHours_74 : decode cX6_burnHours 74 = .ok (.iload_n 1, 1) := by decide +kernel
theorem dX6_burnHours_75 : decode cX6_burnHours 75 = .ok (.invokevirtual 321, 3) := by decide +kernel
theorem dX6_burnHours_78 : decode cX6_burnHours 78 = .ok (.return_, 1) := by decide +kernel
theorem dX6_carryOut_0 : decode cX6_carryOut 0 = .ok (.aload_n 0, 1) := by decide +kernel
theorem dX6_carryOut_1 : decode cX6_carryOut 1 = .ok (.getfield 40, 3) := by decide +kernel
theorem dX6_carryOut_4 : decode cX6_carryOut 4 = .ok (.iconst 0, 1) := by decide +kernel
theorem dX6_carryOut_5 : decode cX6_carryOut 5 = .ok (.invokevirtual 324, 3) := by decide +kernel
theorem dX6_carryOut_8 : decode cX6_carryOut 8 = .ok (.istore_n 1, 1) := by decide +kernel
theorem dX6_carryOut_9 : decode cX6_carryOut 9 = .ok (.aload_n 0, 1) := by decide +kernel
theorem dX6_carryOut_10 : decode cX6_carryOut 10 = .ok (.getfield 40, 3) := by decide +kernel
theorem dX6_carryOut_13 : decode cX6_carryOut 13 = .ok (.iconst 1, 1) := by decide +kernel
theorem dX6_carryOut_14 : decode cX6_carryOut 14 = .ok (.invokevirtual 324, 3) := by decide +kernel
theorem dX6_carryOut_17 : decode cX6_carryOut 17 = .ok (.istore_n 2, 1) := by decide +kernel
theorem dX6_carryOut_18 : decode cX6_carryOut 18 = .ok (.aload_n 0, 1) := by decide +kernel
theorem dX6_carryOut_19 : decode cX6_carryOut 19 = .ok (.getfield 40, 3) := by decide +kernel
theorem dX6_carryOut_22 : decode cX6_carryOut 22 = .ok (.iconst 2, 1) := by decide +kernel
theorem dX6_carryOut_23 : decode cX6_carryOut 23 = .ok (.invokevirtual 324, 3) := by decide +kernel
theorem dX6_carryOut_26 : decode cX6_carryOut 26 = .ok (.istore_n 3, 1) := by decide +kernel
theorem dX6_carryOut_27 : decode cX6_carryOut 27 = .ok (.aload_n 0, 1) := by decide +kernel
theorem dX6_carryOut_28 : decode cX6_carryOut 28 = .ok (.getfield 40, 3) := by decide +kernel
theorem dX6_carryOut_31 : decode cX6_carryOut 31 = .ok (.iconst 3, 1) := by decide +kernel
theorem dX6_carryOut_32 : decode cX6_carryOut 32 = .ok (.invokevirtual 324, 3) := by decide +kernel
theorem dX6_carryOut_35 : decode cX6_carryOut 35 = .ok (.istore 4, 2) := by decide +kernel
theorem dX6_carryOut_37 : decode cX6_carryOut 37 = .ok (.aload_n 0, 1) := by decide +kernel
theorem dX6_carryOut_38 : decode cX6_carryOut 38 = .ok (.getfield 40, 3) := by decide +kernel
theorem dX6_carryOut_41 : decode cX6_carryOut 41 = .ok (.iconst 4, 1) := by decide +kernel
theorem dX6_carryOut_42 : decode cX6_carryOut 42 = .ok (.invokevirtual 324, 3) := by decide +kernel
theorem dX6_carryOut_45 : decode cX6_carryOut 45 = .ok (.istore 5, 2) := by decide +kernel
theorem dX6_carryOut_47 : decode cX6_carryOut 47 = .ok (.aload_n 0, 1) := by decide +kernel
theorem dX6_carryOut_48 : decode cX6_carryOut 48 = .ok (.iload_n 1, 1) := by decide +kernel
theorem dX6_carryOut_49 : decode cX6_carryOut 49 = .ok (.iload_n 2, 1) := by decide +kernel
theorem dX6_carryOut_50 : decode cX6_carryOut 50 = .ok (.iload_n 3, 1) := by decide +kernel
theorem dX6_carryOut_51 : decode cX6_carryOut 51 = .ok (.iload 4, 2) := by decide +kernel
theorem dX6_carryOut_53 : decode cX6_carryOut 53 = .ok (.iload 5, 2) := by decide +kernel
theorem dX6_carryOut_55 : decode cX6_carryOut 55 = .ok (.invokevirtual 327, 3) := by decide +kernel
theorem dX6_carryOut_58 : decode cX6_carryOut 58 = .ok (.ifCond .eq 5, 3) := by decide +kernel
theorem dX6_carryOut_61 : decode cX6_carryOut 61 = .ok (.iconst 0, 1) := by decide +kernel
theorem dX6_carryOut_62 : decode cX6_carryOut 62 = .ok (.ireturn, 1) := by decide +kernel
theorem dX6_carryOut_63 : decode cX6_carryOut 63 = .ok (.aload_n 0, 1) := by decide +kernel
theorem dX6_carryOut_64 : decode cX6_carryOut 64 = .ok (.getfield 40, 3) := by decide +kernel
theorem dX6_carryOut_67 : decode cX6_carryOut 67 = .ok (.getfield 330, 3) := by decide +kernel
theorem dX6_carryOut_70 : decode cX6_carryOut 70 = .ok (.tableswitch 136 1 7 #[42, 54, 72, 85, 100, 112, 124], 42) := by decide +kernel
theorem dX6_carryOut_112 : decode cX6_carryOut 112 = .ok (.aload_n 0, 1) := by decide +kernel
theorem dX6_carryOut_113 : decode cX6_carryOut 113 = .ok (.getfield 12, 3) := by decide +kernel
theorem dX6_carryOut_116 : decode cX6_carryOut 116 = .ok (.iload_n 1, 1) := by decide +kernel
theorem dX6_carryOut_117 : decode cX6_carryOut 117 = .ok (.iload_n 2, 1) := by decide +kernel
theorem dX6_carryOut_118 : decode cX6_carryOut 118 = .ok (.invokevirtual 60, 3) := by decide +kernel
theorem dX6_carryOut_121 : decode cX6_carryOut 121 = .ok (.goto 90, 3) := by decide +kernel
theorem dX6_carryOut_124 : decode cX6_carryOut 124 = .ok (.aload_n 0, 1) := by decide +kernel
theorem dX6_carryOut_125 : decode cX6_carryOut 125 = .ok (.getfield 12, 3) := by decide +kernel
theorem dX6_carryOut_128 : decode cX6_carryOut 128 = .ok (.iload_n 1, 1) := by decide +kernel
theorem dX6_carryOut_129 : decode cX6_carryOut 129 = .ok (.iload_n 2, 1) := by decide +kernel
theorem dX6_carryOut_130 : decode cX6_carryOut 130 = .ok (.iload_n 3, 1) := by decide +kernel
theorem dX6_carryOut_131 : decode cX6_carryOut 131 = .ok (.iload 4, 2) := by decide +kernel
theorem dX6_carryOut_133 : decode cX6_carryOut 133 = .ok (.iload 5, 2) := by decide +kernel
theorem dX6_carryOut_135 : decode cX6_carryOut 135 = .ok (.invokevirtual 71, 3) := by decide +kernel
theorem dX6_carryOut_138 : decode cX6_carryOut 138 = .ok (.pop, 1) := by decide +kernel
theorem dX6_carryOut_139 : decode cX6_carryOut 139 = .ok (.goto 72, 3) := by decide +kernel
theorem dX6_carryOut_142 : decode cX6_carryOut 142 = .ok (.aload_n 0, 1) := by decide +kernel
theorem dX6_carryOut_143 : decode cX6_carryOut 143 = .ok (.getfield 12, 3) := by decide +kernel
theorem dX6_carryOut_146 : decode cX6_carryOut 146 = .ok (.iload_n 1, 1) := by decide +kernel
theorem dX6_carryOut_147 : decode cX6_carryOut 147 = .ok (.iload_n 2, 1) := by decide +kernel
theorem dX6_carryOut_148 : decode cX6_carryOut 148 = .ok (.invokevirtual 80, 3) := by decide +kernel
theorem dX6_carryOut_151 : decode cX6_carryOut 151 = .ok (.pop, 1) := by decide +kernel
theorem dX6_carryOut_152 : decode cX6_carryOut 152 = .ok (.goto 59, 3) := by decide +kernel
theorem dX6_carryOut_155 : decode cX6_carryOut 155 = .ok (.aload_n 0, 1) := by decide +kernel
theorem dX6_carryOut_156 : decode cX6_carryOut 156 = .ok (.getfield 12, 3) := by decide +kernel
theorem dX6_carryOut_159 : decode cX6_carryOut 159 = .ok (.iload_n 1, 1) := by decide +kernel
theorem dX6_carryOut_160 : decode cX6_carryOut 160 = .ok (.iload_n 2, 1) := by decide +kernel
theorem dX6_carryOut_161 : decode cX6_carryOut 161 = .ok (.iload_n 3, 1) := by decide +kernel
theorem dX6_carryOut_162 : decode cX6_carryOut 162 = .ok (.iload 4, 2) := by decide +kernel
theorem dX6_carryOut_164 : decode cX6_carryOut 164 = .ok (.invokevirtual 87, 3) := by decide +kernel
theorem dX6_carryOut_167 : decode cX6_carryOut 167 = .ok (.goto 44, 3) := by decide +kernel
theorem dX6_carryOut_170 : decode cX6_carryOut 170 = .ok (.aload_n 0, 1) := by decide +kernel
theorem dX6_carryOut_171 : decode cX6_carryOut 171 = .ok (.getfield 12, 3) := by decide +kernel
theorem dX6_carryOut_174 : decode cX6_carryOut 174 = .ok (.iload_n 1, 1) := by decide +kernel
theorem dX6_carryOut_175 : decode cX6_carryOut 175 = .ok (.iload_n 2, 1) := by decide +kernel
theorem dX6_carryOut_176 : decode cX6_carryOut 176 = .ok (.invokevirtual 129, 3) := by decide +kernel
theorem dX6_carryOut_179 : decode cX6_carryOut 179 = .ok (.goto 32, 3) := by decide +kernel
theorem dX6_carryOut_182 : decode cX6_carryOut 182 = .ok (.aload_n 0, 1) := by decide +kernel
theorem dX6_carryOut_183 : decode cX6_carryOut 183 = .ok (.getfield 12, 3) := by decide +kernel
theorem dX6_carryOut_186 : decode cX6_carryOut 186 = .ok (.iload_n 1, 1) := by decide +kernel
theorem dX6_carryOut_187 : decode cX6_carryOut 187 = .ok (.iconst 0, 1) := by decide +kernel
theorem dX6_carryOut_188 : decode cX6_carryOut 188 = .ok (.invokevirtual 122, 3) := by decide +kernel
theorem dX6_carryOut_191 : decode cX6_carryOut 191 = .ok (.goto 20, 3) := by decide +kernel
theorem dX6_carryOut_194 : decode cX6_carryOut 194 = .ok (.aload_n 0, 1) := by decide +kernel
theorem dX6_carryOut_195 : decode cX6_carryOut 195 = .ok (.getfield 12, 3) := by decide +kernel
theorem dX6_carryOut_198 : decode cX6_carryOut 198 = .ok (.iload_n 1, 1) := by decide +kernel
theorem dX6_carryOut_199 : decode cX6_carryOut 199 = .ok (.iconst 1, 1) := by decide +kernel
theorem dX6_carryOut_200 : decode cX6_carryOut 200 = .ok (.invokevirtual 122, 3) := by decide +kernel
theorem dX6_carryOut_203 : decode cX6_carryOut 203 = .ok (.goto 8, 3) := by decide +kernel
theorem dX6_carryOut_206 : decode cX6_carryOut 206 = .ok (.aload_n 0, 1) := by decide +kernel
theorem dX6_carryOut_207 : decode cX6_carryOut 207 = .ok (.iload_n 1, 1) := by decide +kernel
theorem dX6_carryOut_208 : decode cX6_carryOut 208 = .ok (.invokevirtual 138, 3) := by decide +kernel
theorem dX6_carryOut_211 : decode cX6_carryOut 211 = .ok (.iconst 1, 1) := by decide +kernel
theorem dX6_carryOut_212 : decode cX6_carryOut 212 = .ok (.ireturn, 1) := by decide +kernel
theorem dX6_faultOfCommand_0 : decode cX6_faultOfCommand 0 = .ok (.aload_n 0, 1) := by decide +kernel
theorem dX6_faultOfCommand_1 : decode cX6_faultOfCommand 1 = .ok (.getfield 40, 3) := by decide +kernel
theorem dX6_faultOfCommand_4 : decode cX6_faultOfCommand 4 = .ok (.getfield 330, 3) := by decide +kernel
theorem dX6_faultOfCommand_7 : decode cX6_faultOfCommand 7 = .ok (.tableswitch 88 1 7 #[41, 47, 59, 66, 76, 82, 82], 41) := by decide +kernel
theorem dX6_faultOfCommand_48 : decode cX6_faultOfCommand 48 = .ok (.iload_n 1, 1) := by decide +kernel
theorem dX6_faultOfCommand_49 : decode cX6_faultOfCommand 49 = .ok (.iload_n 2, 1) := by decide +kernel
theorem dX6_faultOfCommand_50 : decode cX6_faultOfCommand 50 = .ok (.invokestatic 44, 3) := by decide +kernel
theorem dX6_faultOfCommand_53 : decode cX6_faultOfCommand 53 = .ok (.ireturn, 1) := by decide +kernel
theorem dX6_faultOfCommand_54 : decode cX6_faultOfCommand 54 = .ok (.aload_n 0, 1) := by decide +kernel
theorem dX6_faultOfCommand_55 : decode cX6_faultOfCommand 55 = .ok (.iload_n 1, 1) := by decide +kernel
theorem dX6_faultOfCommand_56 : decode cX6_faultOfCommand 56 = .ok (.iload_n 2, 1) := by decide +kernel
theorem dX6_faultOfCommand_57 : decode cX6_faultOfCommand 57 = .ok (.iload_n 3, 1) := by decide +kernel
theorem dX6_faultOfCommand_58 : decode cX6_faultOfCommand 58 = .ok (.iload 4, 2) := by decide +kernel
theorem dX6_faultOfCommand_60 : decode cX6_faultOfCommand 60 = .ok (.iload 5, 2) := by decide +kernel
theorem dX6_faultOfCommand_62 : decode cX6_faultOfCommand 62 = .ok (.invokevirtual 64, 3) := by decide +kernel
theorem dX6_faultOfCommand_65 : decode cX6_faultOfCommand 65 = .ok (.ireturn, 1) := by decide +kernel
theorem dX6_faultOfCommand_66 : decode cX6_faultOfCommand 66 = .ok (.aload_n 0, 1) := by decide +kernel
theorem dX6_faultOfCommand_67 : decode cX6_faultOfCommand 67 = .ok (.iload_n 1, 1) := by decide +kernel
theorem dX6_faultOfCommand_68 : decode cX6_faultOfCommand 68 = .ok (.iload_n 2, 1) := by decide +kernel
theorem dX6_faultOfCommand_69 : decode cX6_faultOfCommand 69 = .ok (.invokevirtual 74, 3) := by decide +kernel
theorem dX6_faultOfCommand_72 : decode cX6_faultOfCommand 72 = .ok (.ireturn, 1) := by decide +kernel
theorem dX6_faultOfCommand_73 : decode cX6_faultOfCommand 73 = .ok (.aload_n 0, 1) := by decide +kernel
theorem dX6_faultOfCommand_74 : decode cX6_faultOfCommand 74 = .ok (.iload_n 1, 1) := by decide +kernel
theorem dX6_faultOfCommand_75 : decode cX6_faultOfCommand 75 = .ok (.iload_n 2, 1) := by decide +kernel
theorem dX6_faultOfCommand_76 : decode cX6_faultOfCommand 76 = .ok (.iload_n 3, 1) := by decide +kernel
theorem dX6_faultOfCommand_77 : decode cX6_faultOfCommand 77 = .ok (.iload 4, 2) := by decide +kernel
theorem dX6_faultOfCommand_79 : decode cX6_faultOfCommand 79 = .ok (.invokevirtual 83, 3) := by decide +kernel
theorem dX6_faultOfCommand_82 : decode cX6_faultOfCommand 82 = .ok (.ireturn, 1) := by decide +kernel
theorem dX6_faultOfCommand_83 : decode cX6_faultOfCommand 83 = .ok (.iload_n 1, 1) := by decide +kernel
theorem dX6_faultOfCommand_84 : decode cX6_faultOfCommand 84 = .ok (.iload_n 2, 1) := by decide +kernel
theorem dX6_faultOfCommand_85 : decode cX6_faultOfCommand 85 = .ok (.invokestatic 126, 3) := by decide +kernel
theorem dX6_faultOfCommand_88 : decode cX6_faultOfCommand 88 = .ok (.ireturn, 1) := by decide +kernel
theorem dX6_faultOfCommand_89 : decode cX6_faultOfCommand 89 = .ok (.aload_n 0, 1) := by decide +kernel
theorem dX6_faultOfCommand_90 : decode cX6_faultOfCommand 90 = .ok (.iload_n 1, 1) := by decide +kernel
theorem dX6_faultOfCommand_91 : decode cX6_faultOfCommand 91 = .ok (.invokevirtual 116, 3) := by decide +kernel
theorem dX6_faultOfCommand_94 : decode cX6_faultOfCommand 94 = .ok (.ireturn, 1) := by decide +kernel
theorem dX6_faultOfCommand_95 : decode cX6_faultOfCommand 95 = .ok (.iload_n 1, 1) := by decide +kernel
theorem dX6_faultOfCommand_96 : decode cX6_faultOfCommand 96 = .ok (.invokestatic 135, 3) := by decide +kernel
theorem dX6_faultOfCommand_99 : decode cX6_faultOfCommand 99 = .ok (.ireturn, 1) := by decide +kernel
theorem dX6_faultOfWall_0 : decode cX6_faultOfWall 0 = .ok (.iload_n 0, 1) := by decide +kernel
theorem dX6_faultOfWall_1 : decode cX6_faultOfWall 1 = .ok (.iconst 1, 1) := by decide +kernel
theorem dX6_faultOfWall_2 : decode cX6_faultOfWall 2 = .ok (.bipush 24, 2) := by decide +kernel
theorem dX6_faultOfWall_4 : decode cX6_faultOfWall 4 = .ok (.invokestatic 176, 3) := by decide +kernel
theorem dX6_faultOfWall_7 : decode cX6_faultOfWall 7 = .ok (.ifCond .eq 17, 3) := by decide +kernel
theorem dX6_faultOfWall_10 : decode cX6_faultOfWall 10 = .ok (.iload_n 1, 1) := by decide +kernel
theorem dX6_faultOfWall_11 : decode cX6_faultOfWall 11 = .ok (.iconst 1, 1) := by decide +kernel
theorem dX6_faultOfWall_12 : decode cX6_faultOfWall 12 = .ok (.bipush 16, 2) := by decide +kernel
theorem dX6_faultOfWall_14 : decode cX6_faultOfWall 14 = .ok (.invokestatic 176, 3) := by decide +kernel
theorem dX6_faultOfWall_17 : decode cX6_faultOfWall 17 = .ok (.ifCond .eq 7, 3) := by decide +kernel
theorem dX6_faultOfWall_20 : decode cX6_faultOfWall 20 = .ok (.iconst 0, 1) := by decide +kernel
theorem dX6_faultOfWall_21 : decode cX6_faultOfWall 21 = .ok (.goto 4, 3) := by decide +kernel
theorem dX6_faultOfWall_24 : decode cX6_faultOfWall 24 = .ok (.iconst 2, 1) := by decide +kernel
theorem dX6_faultOfWall_25 : decode cX6_faultOfWall 25 = .ok (.ireturn, 1) := by decide +kernel
theorem dX6_faultOfPainting_0 : decode cX6_faultOfPainting 0 = .ok (.aload_n 0, 1) := by decide +kernel
theorem dX6_faultOfPainting_1 : decode cX6_faultOfPainting 1 = .ok (.getfield 12, 3) := by decide +kernel
theorem dX6_faultOfPainting_4 : decode cX6_faultOfPainting 4 = .ok (.iload_n 1, 1) := by decide +kernel
theorem dX6_faultOfPainting_5 : decode cX6_faultOfPainting 5 = .ok (.iload_n 2, 1) := by decide +kernel
theorem dX6_faultOfPainting_6 : decode cX6_faultOfPainting 6 = .ok (.invokevirtual 333, 3) := by decide +kernel
theorem dX6_faultOfPainting_9 : decode cX6_faultOfPainting 9 = .ok (.ifCond .eq 16, 3) := by decide +kernel
theorem dX6_faultOfPainting_12 : decode cX6_faultOfPainting 12 = .ok (.aload_n 0, 1) := by decide +kernel
theorem dX6_faultOfPainting_13 : decode cX6_faultOfPainting 13 = .ok (.getfield 12, 3) := by decide +kernel
theorem dX6_faultOfPainting_16 : decode cX6_faultOfPainting 16 = .ok (.iload_n 3, 1) := by decide +kernel
theorem dX6_faultOfPainting_17 : decode cX6_faultOfPainting 17 = .ok (.iload 4, 2) := by decide +kernel
theorem dX6_faultOfPainting_19 : decode cX6_faultOfPainting 19 = .ok (.invokevirtual 333, 3) := by decide +kernel
theorem dX6_faultOfPainting_22 : decode cX6_faultOfPainting 22 = .ok (.ifCond .ne 5, 3) := by decide +kernel
theorem dX6_faultOfPainting_25 : decode cX6_faultOfPainting 25 = .ok (.iconst 1, 1) := by decide +kernel
theorem dX6_faultOfPainting_26 : decode cX6_faultOfPainting 26 = .ok (.ireturn, 1) := by decide +kernel
theorem dX6_faultOfPainting_27 : decode cX6_faultOfPainting 27 = .ok (.iload_n 3, 1) := by decide +kernel
theorem dX6_faultOfPainting_28 : decode cX6_faultOfPainting 28 = .ok (.iload_n 1, 1) := by decide +kernel
theorem dX6_faultOfPainting_29 : decode cX6_faultOfPainting 29 = .ok (.if_icmp .lt 25, 3) := by decide +kernel
theorem dX6_faultOfPainting_32 : decode cX6_faultOfPainting 32 = .ok (.iload 4, 2) := by decide +kernel
theorem dX6_faultOfPainting_34 : decode cX6_faultOfPainting 34 = .ok (.iload_n 2, 1) := by decide +kernel
theorem dX6_faultOfPainting_35 : decode cX6_faultOfPainting 35 = .ok (.if_icmp .lt 19, 3) := by decide +kernel
theorem dX6_faultOfPainting_38 : decode cX6_faultOfPainting 38 = .ok (.iload 5, 2) := by decide +kernel
theorem dX6_faultOfPainting_40 : decode cX6_faultOfPainting 40 = .ok (.iconst 0, 1) := by decide +kernel
theorem dX6_faultOfPainting_41 : decode cX6_faultOfPainting 41 = .ok (.sipush 255, 3) := by decide +kernel
theorem dX6_faultOfPainting_44 : decode cX6_faultOfPainting 44 = .ok (.invokestatic 176, 3) := by decide +kernel
theorem dX6_faultOfPainting_47 : decode cX6_faultOfPainting 47 = .ok (.ifCond .eq 7, 3) := by decide +kernel
theorem dX6_faultOfPainting_50 : decode cX6_faultOfPainting 50 = .ok (.iconst 0, 1) := by decide +kernel
theorem dX6_faultOfPainting_51 : decode cX6_faultOfPainting 51 = .ok (.goto 4, 3) := by decide +kernel
theorem dX6_faultOfPainting_54 : decode cX6_faultOfPainting 54 = .ok (.iconst 2, 1) := by decide +kernel
theorem dX6_faultOfPainting_55 : decode cX6_faultOfPainting 55 = .ok (.ireturn, 1) := by decide +kernel
theorem dX6_faultOfNewLamp_0 : decode cX6_faultOfNewLamp 0 = .ok (.iload_n 1, 1) := by decide +kernel
theorem dX6_faultOfNewLamp_1 : decode cX6_faultOfNewLamp 1 = .ok (.iconst 0, 1) := by decide +kernel
theorem dX6_faultOfNewLamp_2 : decode cX6_faultOfNewLamp 2 = .ok (.sipush 255, 3) := by decide +kernel
theorem dX6_faultOfNewLamp_5 : decode cX6_faultOfNewLamp 5 = .ok (.invokestatic 176, 3) := by decide +kernel
theorem dX6_faultOfNewLamp_8 : decode cX6_faultOfNewLamp 8 = .ok (.ifCond .eq 14, 3) := by decide +kernel
theorem dX6_faultOfNewLamp_11 : decode cX6_faultOfNewLamp 11 = .ok (.iload_n 2, 1) := by decide +kernel
theorem dX6_faultOfNewLamp_12 : decode cX6_faultOfNewLamp 12 = .ok (.iconst 0, 1) := by decide +kernel
theorem dX6_faultOfNewLamp_13 : decode cX6_faultOfNewLamp 13 = .ok (.sipush 255, 3) := by decide +kernel
theorem dX6_faultOfNewLamp_16 : decode cX6_faultOfNewLamp 16 = .ok (.invokestatic 176, 3) := by decide +kernel
theorem dX6_faultOfNewLamp_19 : decode cX6_faultOfNewLamp 19 = .ok (.ifCond .ne 5, 3) := by decide +kernel
theorem dX6_faultOfNewLamp_22 : decode cX6_faultOfNewLamp 22 = .ok (.iconst 2, 1) := by decide +kernel
theorem dX6_faultOfNewLamp_23 : decode cX6_faultOfNewLamp 23 = .ok (.ireturn, 1) := by decide +kernel
theorem dX6_faultOfNewLamp_24 : decode cX6_faultOfNewLamp 24 = .ok (.aload_n 0, 1) := by decide +kernel
theorem dX6_faultOfNewLamp_25 : decode cX6_faultOfNewLamp 25 = .ok (.getfield 12, 3) := by decide +kernel
theorem dX6_faultOfNewLamp_28 : decode cX6_faultOfNewLamp 28 = .ok (.getfield 198, 3) := by decide +kernel
theorem dX6_faultOfNewLamp_31 : decode cX6_faultOfNewLamp 31 = .ok (.bipush 8, 2) := by decide +kernel
theorem dX6_faultOfNewLamp_33 : decode cX6_faultOfNewLamp 33 = .ok (.if_icmp .ge 7, 3) := by decide +kernel
theorem dX6_faultOfNewLamp_36 : decode cX6_faultOfNewLamp 36 = .ok (.iconst 0, 1) := by decide +kernel
theorem dX6_faultOfNewLamp_37 : decode cX6_faultOfNewLamp 37 = .ok (.goto 4, 3) := by decide +kernel
theorem dX6_faultOfNewLamp_40 : decode cX6_faultOfNewLamp 40 = .ok (.iconst 3, 1) := by decide +kernel
theorem dX6_faultOfNewLamp_41 : decode cX6_faultOfNewLamp 41 = .ok (.ireturn, 1) := by decide +kernel
theorem dX6_faultOfCorner_0 : decode cX6_faultOfCorner 0 = .ok (.aload_n 0, 1) := by decide +kernel
theorem dX6_faultOfCorner_1 : decode cX6_faultOfCorner 1 = .ok (.getfield 12, 3) := by decide +kernel
theorem dX6_faultOfCorner_4 : decode cX6_faultOfCorner 4 = .ok (.iload_n 1, 1) := by decide +kernel
theorem dX6_faultOfCorner_5 : decode cX6_faultOfCorner 5 = .ok (.invokevirtual 336, 3) := by decide +kernel
theorem dX6_faultOfCorner_8 : decode cX6_faultOfCorner 8 = .ok (.ifCond .eq 12, 3) := by decide +kernel
theorem dX6_faultOfCorner_11 : decode cX6_faultOfCorner 11 = .ok (.iload_n 2, 1) := by decide +kernel
theorem dX6_faultOfCorner_12 : decode cX6_faultOfCorner 12 = .ok (.iconst 0, 1) := by decide +kernel
theorem dX6_faultOfCorner_13 : decode cX6_faultOfCorner 13 = .ok (.iconst 3, 1) := by decide +kernel
theorem dX6_faultOfCorner_14 : decode cX6_faultOfCorner 14 = .ok (.invokestatic 176, 3) := by decide +kernel
theorem dX6_faultOfCorner_17 : decode cX6_faultOfCorner 17 = .ok (.ifCond .ne 5, 3) := by decide +kernel
theorem dX6_faultOfCorner_20 : decode cX6_faultOfCorner 20 = .ok (.iconst 1, 1) := by decide +kernel
theorem dX6_faultOfCorner_21 : decode cX6_faultOfCorner 21 = .ok (.ireturn, 1) := by decide +kernel
theorem dX6_faultOfCorner_22 : decode cX6_faultOfCorner 22 = .ok (.iload_n 3, 1) := by decide +kernel
theorem dX6_faultOfCorner_23 : decode cX6_faultOfCorner 23 = .ok (.bipush (-20), 2) := by decide +kernel
theorem dX6_faultOfCorner_25 : decode cX6_faultOfCorner 25 = .ok (.bipush 40, 2) := by decide +kernel
theorem dX6_faultOfCorner_27 : decode cX6_faultOfCorner 27 = .ok (.invokestatic 176, 3) := by decide +kernel
theorem dX6_faultOfCorner_30 : decode cX6_faultOfCorner 30 = .ok (.ifCond .eq 19, 3) := by decide +kernel
theorem dX6_faultOfCorner_33 : decode cX6_faultOfCorner 33 = .ok (.iload 4, 2) := by decide +kernel
theorem dX6_faultOfCorner_35 : decode cX6_faultOfCorner 35 = .ok (.bipush (-20), 2) := by decide +kernel
theorem dX6_faultOfCorner_37 : decode cX6_faultOfCorner 37 = .ok (.bipush 40, 2) := by decide +kernel
theorem dX6_faultOfCorner_39 : decode cX6_faultOfCorner 39 = .ok (.invokestatic 176, 3) := by decide +kernel
theorem dX6_faultOfCorner_42 : decode cX6_faultOfCorner 42 = .ok (.ifCond .eq 7, 3) := by decide +kernel
theorem dX6_faultOfCorner_45 : decode cX6_faultOfCorner 45 = .ok (.iconst 1, 1) := by decide +kernel
theorem dX6_faultOfCorner_46 : decode cX6_faultOfCorner 46 = .ok (.goto 4, 3) := by decide +kernel
theorem dX6_faultOfCorner_49 : decode cX6_faultOfCorner 49 = .ok (.iconst 0, 1) := by decide +kernel
theorem dX6_faultOfCorner_50 : decode cX6_faultOfCorner 50 = .ok (.istore 5, 2) := by decide +kernel
theorem dX6_faultOfCorner_52 : decode cX6_faultOfCorner 52 = .ok (.iload 5, 2) := by decide +kernel
theorem dX6_faultOfCorner_54 : decode cX6_faultOfCorner 54 = .ok (.ifCond .eq 7, 3) := by decide +kernel
theorem dX6_faultOfCorner_57 : decode cX6_faultOfCorner 57 = .ok (.iconst 0, 1) := by decide +kernel
theorem dX6_faultOfCorner_58 : decode cX6_faultOfCorner 58 = .ok (.goto 4, 3) := by decide +kernel
theorem dX6_faultOfCorner_61 : decode cX6_faultOfCorner 61 = .ok (.iconst 2, 1) := by decide +kernel
theorem dX6_faultOfCorner_62 : decode cX6_faultOfCorner 62 = .ok (.ireturn, 1) := by decide +kernel
theorem dX6_faultOfRectangle_0 : decode cX6_faultOfRectangle 0 = .ok (.aload_n 0, 1) := by decide +kernel
theorem dX6_faultOfRectangle_1 : decode cX6_faultOfRectangle 1 = .ok (.getfield 12, 3) := by decide +kernel
theorem dX6_faultOfRectangle_4 : decode cX6_faultOfRectangle 4 = .ok (.iload_n 1, 1) := by decide +kernel
theorem dX6_faultOfRectangle_5 : decode cX6_faultOfRectangle 5 = .ok (.invokevirtual 336, 3) := by decide +kernel
theorem dX6_faultOfRectangle_8 : decode cX6_faultOfRectangle 8 = .ok (.ifCond .ne 5, 3) := by decide +kernel
theorem dX6_faultOfRectangle_11 : decode cX6_faultOfRectangle 11 = .ok (.iconst 1, 1) := by decide +kernel
theorem dX6_faultOfRectangle_12 : decode cX6_faultOfRectangle 12 = .ok (.ireturn, 1) := by decide +kernel
theorem dX6_faultOfRectangle_13 : decode cX6_faultOfRectangle 13 = .ok (.iload_n 2, 1) := by decide +kernel
theorem dX6_faultOfRectangle_14 : decode cX6_faultOfRectangle 14 = .ok (.bipush (-20), 2) := by decide +kernel
theorem dX6_faultOfRectangle_16 : decode cX6_faultOfRectangle 16 = .ok (.bipush 39, 2) := by decide +kernel
theorem dX6_faultOfRectangle_18 : decode cX6_faultOfRectangle 18 = .ok (.invokestatic 176, 3) := by decide +kernel
theorem dX6_faultOfRectangle_21 : decode cX6_faultOfRectangle 21 = .ok (.ifCond .eq 18, 3) := by decide +kernel
theorem dX6_faultOfRectangle_24 : decode cX6_faultOfRectangle 24 = .ok (.iload_n 3, 1) := by decide +kernel
theorem dX6_faultOfRectangle_25 : decode cX6_faultOfRectangle 25 = .ok (.bipush (-20), 2) := by decide +kernel
theorem dX6_faultOfRectangle_27 : decode cX6_faultOfRectangle 27 = .ok (.bipush 39, 2) := by decide +kernel
theorem dX6_faultOfRectangle_29 : decode cX6_faultOfRectangle 29 = .ok (.invokestatic 176, 3) := by decide +kernel
theorem dX6_faultOfRectangle_32 : decode cX6_faultOfRectangle 32 = .ok (.ifCond .eq 7, 3) := by decide +kernel
theorem dX6_faultOfRectangle_35 : decode cX6_faultOfRectangle 35 = .ok (.iconst 1, 1) := by decide +kernel
theorem dX6_faultOfRectangle_36 : decode cX6_faultOfRectangle 36 = .ok (.goto 4, 3) := by decide +kernel
theorem dX6_faultOfRectangle_39 : decode cX6_faultOfRectangle 39 = .ok (.iconst 0, 1) := by decide +kernel
theorem dX6_faultOfRectangle_40 : decode cX6_faultOfRectangle 40 = .ok (.istore 6, 2) := by decide +kernel
theorem dX6_faultOfRectangle_42 : decode cX6_faultOfRectangle 42 = .ok (.iload 4, 2) := by decide +kernel
theorem dX6_faultOfRectangle_44 : decode cX6_faultOfRectangle 44 = .ok (.iload_n 2, 1) := by decide +kernel
theorem dX6_faultOfRectangle_45 : decode cX6_faultOfRectangle 45 = .ok (.if_icmp .le 27, 3) := by decide +kernel
theorem dX6_faultOfRectangle_48 : decode cX6_faultOfRectangle 48 = .ok (.iload 4, 2) := by decide +kernel
theorem dX6_faultOfRectangle_50 : decode cX6_faultOfRectangle 50 = .ok (.bipush 40, 2) := by decide +kernel
theorem dX6_faultOfRectangle_52 : decode cX6_faultOfRectangle 52 = .ok (.if_icmp .gt 20, 3) := by decide +kernel
theorem dX6_faultOfRectangle_55 : decode cX6_faultOfRectangle 55 = .ok (.iload 5, 2) := by decide +kernel
theorem dX6_faultOfRectangle_57 : decode cX6_faultOfRectangle 57 = .ok (.iload_n 3, 1) := by decide +kernel
theorem dX6_faultOfRectangle_58 : decode cX6_faultOfRectangle 58 = .ok (.if_icmp .le 14, 3) := by decide +kernel
theorem dX6_faultOfRectangle_61 : decode cX6_faultOfRectangle 61 = .ok (.iload 5, 2) := by decide +kernel
theorem dX6_faultOfRectangle_63 : decode cX6_faultOfRectangle 63 = .ok (.bipush 40, 2) := by decide +kernel
theorem dX6_faultOfRectangle_65 : decode cX6_faultOfRectangle 65 = .ok (.if_icmp .gt 7, 3) := by decide +kernel
theorem dX6_faultOfRectangle_68 : decode cX6_faultOfRectangle 68 = .ok (.iconst 1, 1) := by decide +kernel
theorem dX6_faultOfRectangle_69 : decode cX6_faultOfRectangle 69 = .ok (.goto 4, 3) := by decide +kernel
theorem dX6_faultOfRectangle_72 : decode cX6_faultOfRectangle 72 = .ok (.iconst 0, 1) := by decide +kernel
theorem dX6_faultOfRectangle_73 : decode cX6_faultOfRectangle 73 = .ok (.istore 7, 2) := by decide +kernel
theorem dX6_faultOfRectangle_75 : decode cX6_faultOfRectangle 75 = .ok (.iload 6, 2) := by decide +kernel
theorem dX6_faultOfRectangle_77 : decode cX6_faultOfRectangle 77 = .ok (.ifCond .eq 12, 3) := by decide +kernel
theorem dX6_faultOfRectangle_80 : decode cX6_faultOfRectangle 80 = .ok (.iload 7, 2) := by decide +kernel
theorem dX6_faultOfRectangle_82 : decode cX6_faultOfRectangle 82 = .ok (.ifCond .eq 7, 3) := by decide +kernel
theorem dX6_faultOfRectangle_85 : decode cX6_faultOfRectangle 85 = .ok (.iconst 0, 1) := by decide +kernel
theorem dX6_faultOfRectangle_86 : decode cX6_faultOfRectangle 86 = .ok (.goto 4, 3) := by decide +kernel
theorem dX6_faultOfRectangle_89 : decode cX6_faultOfRectangle 89 = .ok (.iconst 2, 1) := by decide +kernel
theorem dX6_faultOfRectangle_90 : decode cX6_faultOfRectangle 90 = .ok (.ireturn, 1) := by decide +kernel
theorem dX6_faultOfLampValue_0 : decode cX6_faultOfLampValue 0 = .ok (.aload_n 0, 1) := by decide +kernel
theorem dX6_faultOfLampValue_1 : decode cX6_faultOfLampValue 1 = .ok (.getfield 12, 3) := by decide +kernel
theorem dX6_faultOfLampValue_4 : decode cX6_faultOfLampValue 4 = .ok (.iload_n 1, 1) := by decide +kernel
theorem dX6_faultOfLampValue_5 : decode cX6_faultOfLampValue 5 = .ok (.invokevirtual 336, 3) := by decide +kernel
theorem dX6_faultOfLampValue_8 : decode cX6_faultOfLampValue 8 = .ok (.ifCond .ne 5, 3) := by decide +kernel
theorem dX6_faultOfLampValue_11 : decode cX6_faultOfLampValue 11 = .ok (.iconst 1, 1) := by decide +kernel
theorem dX6_faultOfLampValue_12 : decode cX6_faultOfLampValue 12 = .ok (.ireturn, 1) := by decide +kernel
theorem dX6_faultOfLampValue_13 : decode cX6_faultOfLampValue 13 = .ok (.iload_n 2, 1) := by decide +kernel
theorem dX6_faultOfLampValue_14 : decode cX6_faultOfLampValue 14 = .ok (.iconst 0, 1) := by decide +kernel
theorem dX6_faultOfLampValue_15 : decode cX6_faultOfLampValue 15 = .ok (.iconst 2, 1) := by decide +kernel
theorem dX6_faultOfLampValue_16 : decode cX6_faultOfLampValue 16 = .ok (.invokestatic 176, 3) := by decide +kernel
theorem dX6_faultOfLampValue_19 : decode cX6_faultOfLampValue 19 = .ok (.ifCond .eq 29, 3) := by decide +kernel
theorem dX6_faultOfLampValue_22 : decode cX6_faultOfLampValue 22 = .ok (.iload_n 3, 1) := by decide +kernel
theorem dX6_faultOfLampValue_23 : decode cX6_faultOfLampValue 23 = .ok (.iconst 0, 1) := by decide +kernel
theorem dX6_faultOfLampValue_24 : decode cX6_faultOfLampValue 24 = .ok (.iload_n 2, 1) := by decide +kernel
theorem dX6_faultOfLampValue_25 : decode cX6_faultOfLampValue 25 = .ok (.iconst 2, 1) := by decide +kernel
theorem dX6_faultOfLampValue_26 : decode cX6_faultOfLampValue 26 = .ok (.if_icmp .ne 9, 3) := by decide +kernel
theorem dX6_faultOfLampValue_29 : decode cX6_faultOfLampValue 29 = .ok (.sipush 900, 3) := by decide +kernel
theorem dX6_faultOfLampValue_32 : decode cX6_faultOfLampValue 32 = .ok (.goto 6, 3) := by decide +kernel
theorem dX6_faultOfLampValue_35 : decode cX6_faultOfLampValue 35 = .ok (.sipush 255, 3) := by decide +kernel
theorem dX6_faultOfLampValue_38 : decode cX6_faultOfLampValue 38 = .ok (.invokestatic 176, 3) := by decide +kernel
theorem dX6_faultOfLampValue_41 : decode cX6_faultOfLampValue 41 = .ok (.ifCond .eq 7, 3) := by decide +kernel
theorem dX6_faultOfLampValue_44 : decode cX6_faultOfLampValue 44 = .ok (.iconst 0, 1) := by decide +kernel
theorem dX6_faultOfLampValue_45 : decode cX6_faultOfLampValue 45 = .ok (.goto 4, 3) := by decide +kernel
theorem dX6_faultOfLampValue_48 : decode cX6_faultOfLampValue 48 = .ok (.iconst 2, 1) := by decide +kernel
theorem dX6_faultOfLampValue_49 : decode cX6_faultOfLampValue 49 = .ok (.ireturn, 1) := by decide +kernel
theorem dX6_faultOfLamp_0 : decode cX6_faultOfLamp 0 = .ok (.aload_n 0, 1) := by decide +kernel
theorem dX6_faultOfLamp_1 : decode cX6_faultOfLamp 1 = .ok (.getfield 12, 3) := by decide +kernel
theorem dX6_faultOfLamp_4 : decode cX6_faultOfLamp 4 = .ok (.iload_n 1, 1) := by decide +kernel
theorem dX6_faultOfLamp_5 : decode cX6_faultOfLamp 5 = .ok (.invokevirtual 336, 3) := by decide +kernel
theorem dX6_faultOfLamp_8 : decode cX6_faultOfLamp 8 = .ok (.ifCond .eq 7, 3) := by decide +kernel
theorem dX6_faultOfLamp_11 : decode cX6_faultOfLamp 11 = .ok (.iconst 0, 1) := by decide +kernel
theorem dX6_faultOfLamp_12 : decode cX6_faultOfLamp 12 = .ok (.goto 4, 3) := by decide +kernel
theorem dX6_faultOfLamp_15 : decode cX6_faultOfLamp 15 = .ok (.iconst 1, 1) := by decide +kernel
theorem dX6_faultOfLamp_16 : decode cX6_faultOfLamp 16 = .ok (.ireturn, 1) := by decide +kernel
theorem dX6_faultOfPlace_0 : decode cX6_faultOfPlace 0 = .ok (.aload_n 0, 1) := by decide +kernel
theorem dX6_faultOfPlace_1 : decode cX6_faultOfPlace 1 = .ok (.getfield 12, 3) := by decide +kernel
theorem dX6_faultOfPlace_4 : decode cX6_faultOfPlace 4 = .ok (.iload_n 1, 1) := by decide +kernel
theorem dX6_faultOfPlace_5 : decode cX6_faultOfPlace 5 = .ok (.iload_n 2, 1) := by decide +kernel
theorem dX6_faultOfPlace_6 : decode cX6_faultOfPlace 6 = .ok (.invokevirtual 333, 3) := by decide +kernel
theorem dX6_faultOfPlace_9 : decode cX6_faultOfPlace 9 = .ok (.ifCond .eq 7, 3) := by decide +kernel
theorem dX6_faultOfPlace_12 : decode cX6_faultOfPlace 12 = .ok (.iconst 0, 1) := by decide +kernel
theorem dX6_faultOfPlace_13 : decode cX6_faultOfPlace 13 = .ok (.goto 4, 3) := by decide +kernel
theorem dX6_faultOfPlace_16 : decode cX6_faultOfPlace 16 = .ok (.iconst 1, 1) := by decide +kernel
theorem dX6_faultOfPlace_17 : decode cX6_faultOfPlace 17 = .ok (.ireturn, 1) := by decide +kernel
theorem dX6_faultOfShift_0 : decode cX6_faultOfShift 0 = .ok (.iload_n 0, 1) := by decide +kernel
theorem dX6_faultOfShift_1 : decode cX6_faultOfShift 1 = .ok (.bipush (-10), 2) := by decide +kernel
theorem dX6_faultOfShift_3 : decode cX6_faultOfShift 3 = .ok (.bipush 10, 2) := by decide +kernel
theorem dX6_faultOfShift_5 : decode cX6_faultOfShift 5 = .ok (.invokestatic 176, 3) := by decide +kernel
theorem dX6_faultOfShift_8 : decode cX6_faultOfShift 8 = .ok (.ifCond .eq 18, 3) := by decide +kernel
theorem dX6_faultOfShift_11 : decode cX6_faultOfShift 11 = .ok (.iload_n 1, 1) := by decide +kernel
theorem dX6_faultOfShift_12 : decode cX6_faultOfShift 12 = .ok (.bipush (-10), 2) := by decide +kernel
theorem dX6_faultOfShift_14 : decode cX6_faultOfShift 14 = .ok (.bipush 10, 2) := by decide +kernel
theorem dX6_faultOfShift_16 : decode cX6_faultOfShift 16 = .ok (.invokestatic 176, 3) := by decide +kernel
theorem dX6_faultOfShift_19 : decode cX6_faultOfShift 19 = .ok (.ifCond .eq 7, 3) := by decide +kernel
theorem dX6_faultOfShift_22 : decode cX6_faultOfShift 22 = .ok (.iconst 1, 1) := by decide +kernel
theorem dX6_faultOfShift_23 : decode cX6_faultOfShift 23 = .ok (.goto 4, 3) := by decide +kernel
theorem dX6_faultOfShift_26 : decode cX6_faultOfShift 26 = .ok (.iconst 0, 1) := by decide +kernel
theorem dX6_faultOfShift_27 : decode cX6_faultOfShift 27 = .ok (.istore_n 2, 1) := by decide +kernel
theorem dX6_faultOfShift_28 : decode cX6_faultOfShift 28 = .ok (.iload_n 2, 1) := by decide +kernel
theorem dX6_faultOfShift_29 : decode cX6_faultOfShift 29 = .ok (.ifCond .eq 7, 3) := by decide +kernel
theorem dX6_faultOfShift_32 : decode cX6_faultOfShift 32 = .ok (.iconst 0, 1) := by decide +kernel
theorem dX6_faultOfShift_33 : decode cX6_faultOfShift 33 = .ok (.goto 4, 3) := by decide +kernel
theorem dX6_faultOfShift_36 : decode cX6_faultOfShift 36 = .ok (.iconst 2, 1) := by decide +kernel
theorem dX6_faultOfShift_37 : decode cX6_faultOfShift 37 = .ok (.ireturn, 1) := by decide +kernel
theorem dX6_faultOfHours_0 : decode cX6_faultOfHours 0 = .ok (.iload_n 0, 1) := by decide +kernel
theorem dX6_faultOfHours_1 : decode cX6_faultOfHours 1 = .ok (.iconst 1, 1) := by decide +kernel
theorem dX6_faultOfHours_2 : decode cX6_faultOfHours 2 = .ok (.sipush 9999, 3) := by decide +kernel
theorem dX6_faultOfHours_5 : decode cX6_faultOfHours 5 = .ok (.invokestatic 147, 3) := by decide +kernel
theorem dX6_faultOfHours_8 : decode cX6_faultOfHours 8 = .ok (.ireturn, 1) := by decide +kernel
theorem dX6_faultOfRange_0 : decode cX6_faultOfRange 0 = .ok (.iload_n 0, 1) := by decide +kernel
theorem dX6_faultOfRange_1 : decode cX6_faultOfRange 1 = .ok (.iload_n 1, 1) := by decide +kernel
theorem dX6_faultOfRange_2 : decode cX6_faultOfRange 2 = .ok (.iload_n 2, 1) := by decide +kernel
theorem dX6_faultOfRange_3 : decode cX6_faultOfRange 3 = .ok (.invokestatic 176, 3) := by decide +kernel
theorem dX6_faultOfRange_6 : decode cX6_faultOfRange 6 = .ok (.ifCond .eq 7, 3) := by decide +kernel
theorem dX6_faultOfRange_9 : decode cX6_faultOfRange 9 = .ok (.iconst 0, 1) := by decide +kernel
theorem dX6_faultOfRange_10 : decode cX6_faultOfRange 10 = .ok (.goto 4, 3) := by decide +kernel
theorem dX6_faultOfRange_13 : decode cX6_faultOfRange 13 = .ok (.iconst 2, 1) := by decide +kernel
theorem dX6_faultOfRange_14 : decode cX6_faultOfRange 14 = .ok (.ireturn, 1) := by decide +kernel
theorem dX6_refuseIndex_0 : decode cX6_refuseIndex 0 = .ok (.iload_n 0, 1) := by decide +kernel
theorem dX6_refuseIndex_1 : decode cX6_refuseIndex 1 = .ok (.iconst 1, 1) := by decide +kernel
theorem dX6_refuseIndex_2 : decode cX6_refuseIndex 2 = .ok (.if_icmp .ne 14, 3) := by decide +kernel
theorem dX6_refuseIndex_5 : decode cX6_refuseIndex 5 = .ok (.new 339, 3) := by decide +kernel
theorem dX6_refuseIndex_8 : decode cX6_refuseIndex 8 = .ok (.dup, 1) := by decide +kernel
theorem dX6_refuseIndex_9 : decode cX6_refuseIndex 9 = .ok (.ldc_w 341, 3) := by decide +kernel
theorem dX6_refuseIndex_12 : decode cX6_refuseIndex 12 = .ok (.invokespecial 343, 3) := by decide +kernel
theorem dX6_refuseIndex_15 : decode cX6_refuseIndex 15 = .ok (.athrow, 1) := by decide +kernel
theorem dX6_refuseIndex_16 : decode cX6_refuseIndex 16 = .ok (.return_, 1) := by decide +kernel
theorem dX6_refuseArgument_0 : decode cX6_refuseArgument 0 = .ok (.iload_n 0, 1) := by decide +kernel
theorem dX6_refuseArgument_1 : decode cX6_refuseArgument 1 = .ok (.iconst 2, 1) := by decide +kernel
theorem dX6_refuseArgument_2 : decode cX6_refuseArgument 2 = .ok (.if_icmp .ne 14, 3) := by decide +kernel
theorem dX6_refuseArgument_5 : decode cX6_refuseArgument 5 = .ok (.new 346, 3) := by decide +kernel
theorem dX6_refuseArgument_8 : decode cX6_refuseArgument 8 = .ok (.dup, 1) := by decide +kernel
theorem dX6_refuseArgument_9 : decode cX6_refuseArgument 9 = .ok (.ldc_w 348, 3) := by decide +kernel
theorem dX6_refuseArgument_12 : decode cX6_refuseArgument 12 = .ok (.invokespecial 350, 3) := by decide +kernel
theorem dX6_refuseArgument_15 : decode cX6_refuseArgument 15 = .ok (.athrow, 1) := by decide +kernel
theorem dX6_refuseArgument_16 : decode cX6_refuseArgument 16 = .ok (.return_, 1) := by decide +kernel
theorem dX6_refuseState_0 : decode cX6_refuseState 0 = .ok (.iload_n 0, 1) := by decide +kernel
theorem dX6_refuseState_1 : decode cX6_refuseState 1 = .ok (.iconst 3, 1) := by decide +kernel
theorem dX6_refuseState_2 : decode cX6_refuseState 2 = .ok (.if_icmp .ne 14, 3) := by decide +kernel
theorem dX6_refuseState_5 : decode cX6_refuseState 5 = .ok (.new 351, 3) := by decide +kernel
theorem dX6_refuseState_8 : decode cX6_refuseState 8 = .ok (.dup, 1) := by decide +kernel
theorem dX6_refuseState_9 : decode cX6_refuseState 9 = .ok (.ldc_w 353, 3) := by decide +kernel
theorem dX6_refuseState_12 : decode cX6_refuseState 12 = .ok (.invokespecial 355, 3) := by decide +kernel
theorem dX6_refuseState_15 : decode cX6_refuseState 15 = .ok (.athrow, 1) := by decide +kernel
theorem dX6_refuseState_16 : decode cX6_refuseState 16 = .ok (.return_, 1) := by decide +kernel
theorem dX6_within_0 : decode cX6_within 0 = .ok (.iload_n 0, 1) := by decide +kernel
theorem dX6_within_1 : decode cX6_within 1 = .ok (.iload_n 1, 1) := by decide +kernel
theorem dX6_within_2 : decode cX6_within 2 = .ok (.if_icmp .lt 12, 3) := by decide +kernel
theorem dX6_within_5 : decode cX6_within 5 = .ok (.iload_n 0, 1) := by decide +kernel
theorem dX6_within_6 : decode cX6_within 6 = .ok (.iload_n 2, 1) := by decide +kernel
theorem dX6_within_7 : decode cX6_within 7 = .ok (.if_icmp .gt 7, 3) := by decide +kernel
theorem dX6_within_10 : decode cX6_within 10 = .ok (.iconst 1, 1) := by decide +kernel
theorem dX6_within_11 : decode cX6_within 11 = .ok (.goto 4, 3) := by decide +kernel
theorem dX6_within_14 : decode cX6_within 14 = .ok (.iconst 0, 1) := by decide +kernel
theorem dX6_within_15 : decode cX6_within 15 = .ok (.ireturn, 1) := by decide +kernel
theorem dX6_cross_0 : decode cX6_cross 0 = .ok (.iload_n 0, 1) := by decide +kernel
theorem dX6_cross_1 : decode cX6_cross 1 = .ok (.iload_n 3, 1) := by decide +kernel
theorem dX6_cross_2 : decode cX6_cross 2 = .ok (.imul, 1) := by decide +kernel
theorem dX6_cross_3 : decode cX6_cross 3 = .ok (.iload_n 1, 1) := by decide +kernel
theorem dX6_cross_4 : decode cX6_cross 4 = .ok (.iload_n 2, 1) := by decide +kernel
theorem dX6_cross_5 : decode cX6_cross 5 = .ok (.imul, 1) := by decide +kernel
theorem dX6_cross_6 : decode cX6_cross 6 = .ok (.isub, 1) := by decide +kernel
theorem dX6_cross_7 : decode cX6_cross 7 = .ok (.ireturn, 1) := by decide +kernel
theorem dX6_pointOf_0 : decode cX6_pointOf 0 = .ok (.iconst 2, 1) := by decide +kernel
theorem dX6_pointOf_1 : decode cX6_pointOf 1 = .ok (.iload_n 0, 1) := by decide +kernel
theorem dX6_pointOf_2 : decode cX6_pointOf 2 = .ok (.iload_n 1, 1) := by decide +kernel
theorem dX6_pointOf_3 : decode cX6_pointOf 3 = .ok (.iadd, 1) := by decide +kernel
theorem dX6_pointOf_4 : decode cX6_pointOf 4 = .ok (.imul, 1) := by decide +kernel
theorem dX6_pointOf_5 : decode cX6_pointOf 5 = .ok (.iconst 1, 1) := by decide +kernel
theorem dX6_pointOf_6 : decode cX6_pointOf 6 = .ok (.iadd, 1) := by decide +kernel
theorem dX6_pointOf_7 : decode cX6_pointOf 7 = .ok (.ireturn, 1) := by decide +kernel
theorem dX6_isIn_0 : decode cX6_isIn 0 = .ok (.iload_n 1, 1) := by decide +kernel
theorem dX6_isIn_1 : decode cX6_isIn 1 = .ok (.iload_n 0, 1) := by decide +kernel
theorem dX6_isIn_2 : decode cX6_isIn 2 = .ok (.ishr, 1) := by decide +kernel
theorem dX6_isIn_3 : decode cX6_isIn 3 = .ok (.iconst 1, 1) := by decide +kernel
theorem dX6_isIn_4 : decode cX6_isIn 4 = .ok (.iand, 1) := by decide +kernel
theorem dX6_isIn_5 : decode cX6_isIn 5 = .ok (.iconst 1, 1) := by decide +kernel
theorem dX6_isIn_6 : decode cX6_isIn 6 = .ok (.if_icmp .ne 7, 3) := by decide +kernel
theorem dX6_isIn_9 : decode cX6_isIn 9 = .ok (.iconst 1, 1) := by decide +kernel
theorem dX6_isIn_10 : decode cX6_isIn 10 = .ok (.goto 4, 3) := by decide +kernel
theorem dX6_isIn_13 : decode cX6_isIn 13 = .ok (.iconst 0, 1) := by decide +kernel
theorem dX6_isIn_14 : decode cX6_isIn 14 = .ok (.ireturn, 1) := by decide +kernel
theorem dJ6_bitCount_0f7a4_0 : decode cJ6_bitCount_0f7a4 0 = .ok (.iload_n 0, 1) := by decide +kernel
theorem dJ6_bitCount_0f7a4_1 : decode cJ6_bitCount_0f7a4 1 = .ok (.iload_n 0, 1) := by decide +kernel
theorem dJ6_bitCount_0f7a4_2 : decode cJ6_bitCount_0f7a4 2 = .ok (.iconst 1, 1) := by decide +kernel
theorem dJ6_bitCount_0f7a4_3 : decode cJ6_bitCount_0f7a4 3 = .ok (.iushr, 1) := by decide +kernel
theorem dJ6_bitCount_0f7a4_4 : decode cJ6_bitCount_0f7a4 4 = .ok (.ldc_w 265, 3) := by decide +kernel
theorem dJ6_bitCount_0f7a4_7 : decode cJ6_bitCount_0f7a4 7 = .ok (.iand, 1) := by decide +kernel
theorem dJ6_bitCount_0f7a4_8 : decode cJ6_bitCount_0f7a4 8 = .ok (.isub, 1) := by decide +kernel
theorem dJ6_bitCount_0f7a4_9 : decode cJ6_bitCount_0f7a4 9 = .ok (.istore_n 0, 1) := by decide +kernel
theorem dJ6_bitCount_0f7a4_10 : decode cJ6_bitCount_0f7a4 10 = .ok (.iload_n 0, 1) := by decide +kernel
theorem dJ6_bitCount_0f7a4_11 : decode cJ6_bitCount_0f7a4 11 = .ok (.ldc_w 266, 3) := by decide +kernel
theorem dJ6_bitCount_0f7a4_14 : decode cJ6_bitCount_0f7a4 14 = .ok (.iand, 1) := by decide +kernel
theorem dJ6_bitCount_0f7a4_15 : decode cJ6_bitCount_0f7a4 15 = .ok (.iload_n 0, 1) := by decide +kernel
theorem dJ6_bitCount_0f7a4_16 : decode cJ6_bitCount_0f7a4 16 = .ok (.iconst 2, 1) := by decide +kernel
theorem dJ6_bitCount_0f7a4_17 : decode cJ6_bitCount_0f7a4 17 = .ok (.iushr, 1) := by decide +kernel
theorem dJ6_bitCount_0f7a4_18 : decode cJ6_bitCount_0f7a4 18 = .ok (.ldc_w 266, 3) := by decide +kernel
theorem dJ6_bitCount_0f7a4_21 : decode cJ6_bitCount_0f7a4 21 = .ok (.iand, 1) := by decide +kernel
theorem dJ6_bitCount_0f7a4_22 : decode cJ6_bitCount_0f7a4 22 = .ok (.iadd, 1) := by decide +kernel
theorem dJ6_bitCount_0f7a4_23 : decode cJ6_bitCount_0f7a4 23 = .ok (.istore_n 0, 1) := by decide +kernel
theorem dJ6_bitCount_0f7a4_24 : decode cJ6_bitCount_0f7a4 24 = .ok (.iload_n 0, 1) := by decide +kernel
theorem dJ6_bitCount_0f7a4_25 : decode cJ6_bitCount_0f7a4 25 = .ok (.iload_n 0, 1) := by decide +kernel
theorem dJ6_bitCount_0f7a4_26 : decode cJ6_bitCount_0f7a4 26 = .ok (.iconst 4, 1) := by decide +kernel
theorem dJ6_bitCount_0f7a4_27 : decode cJ6_bitCount_0f7a4 27 = .ok (.iushr, 1) := by decide +kernel
theorem dJ6_bitCount_0f7a4_28 : decode cJ6_bitCount_0f7a4 28 = .ok (.iadd, 1) := by decide +kernel
theorem dJ6_bitCount_0f7a4_29 : decode cJ6_bitCount_0f7a4 29 = .ok (.ldc_w 267, 3) := by decide +kernel
theorem dJ6_bitCount_0f7a4_32 : decode cJ6_bitCount_0f7a4 32 = .ok (.iand, 1) := by decide +kernel
theorem dJ6_bitCount_0f7a4_33 : decode cJ6_bitCount_0f7a4 33 = .ok (.istore_n 0, 1) := by decide +kernel
theorem dJ6_bitCount_0f7a4_34 : decode cJ6_bitCount_0f7a4 34 = .ok (.iload_n 0, 1) := by decide +kernel
theorem dJ6_bitCount_0f7a4_35 : decode cJ6_bitCount_0f7a4 35 = .ok (.iload_n 0, 1) := by decide +kernel
theorem dJ6_bitCount_0f7a4_36 : decode cJ6_bitCount_0f7a4 36 = .ok (.bipush 8, 2) := by decide +kernel
theorem dJ6_bitCount_0f7a4_38 : decode cJ6_bitCount_0f7a4 38 = .ok (.iushr, 1) := by decide +kernel
theorem dJ6_bitCount_0f7a4_39 : decode cJ6_bitCount_0f7a4 39 = .ok (.iadd, 1) := by decide +kernel
theorem dJ6_bitCount_0f7a4_40 : decode cJ6_bitCount_0f7a4 40 = .ok (.istore_n 0, 1) := by decide +kernel
theorem dJ6_bitCount_0f7a4_41 : decode cJ6_bitCount_0f7a4 41 = .ok (.iload_n 0, 1) := by decide +kernel
theorem dJ6_bitCount_0f7a4_42 : decode cJ6_bitCount_0f7a4 42 = .ok (.iload_n 0, 1) := by decide +kernel
theorem dJ6_bitCount_0f7a4_43 : decode cJ6_bitCount_0f7a4 43 = .ok (.bipush 16, 2) := by decide +kernel
theorem dJ6_bitCount_0f7a4_45 : decode cJ6_bitCount_0f7a4 45 = .ok (.iushr, 1) := by decide +kernel
theorem dJ6_bitCount_0f7a4_46 : decode cJ6_bitCount_0f7a4 46 = .ok (.iadd, 1) := by decide +kernel
theorem dJ6_bitCount_0f7a4_47 : decode cJ6_bitCount_0f7a4 47 = .ok (.istore_n 0, 1) := by decide +kernel
theorem dJ6_bitCount_0f7a4_48 : decode cJ6_bitCount_0f7a4 48 = .ok (.iload_n 0, 1) := by decide +kernel
theorem dJ6_bitCount_0f7a4_49 : decode cJ6_bitCount_0f7a4 49 = .ok (.bipush 63, 2) := by decide +kernel
theorem dJ6_bitCount_0f7a4_51 : decode cJ6_bitCount_0f7a4 51 = .ok (.iand, 1) := by decide +kernel
theorem dJ6_bitCount_0f7a4_52 : decode cJ6_bitCount_0f7a4 52 = .ok (.ireturn, 1) := by decide +kernel
theorem dJ9_abs_0f7a4_0 : decode cJ9_abs_0f7a4 0 = .ok (.iload_n 0, 1) := by decide +kernel
theorem dJ9_abs_0f7a4_1 : decode cJ9_abs_0f7a4 1 = .ok (.ifCond .ge 8, 3) := by decide +kernel
theorem dJ9_abs_0f7a4_4 : decode cJ9_abs_0f7a4 4 = .ok (.iload_n 0, 1) := by decide +kernel
theorem dJ9_abs_0f7a4_5 : decode cJ9_abs_0f7a4 5 = .ok (.ineg, 1) := by decide +kernel
theorem dJ9_abs_0f7a4_6 : decode cJ9_abs_0f7a4 6 = .ok (.goto 4, 3) := by decide +kernel
theorem dJ9_abs_0f7a4_9 : decode cJ9_abs_0f7a4 9 = .ok (.iload_n 0, 1) := by decide +kernel
theorem dJ9_abs_0f7a4_10 : decode cJ9_abs_0f7a4 10 = .ok (.ireturn, 1) := by decide +kernel
theorem dJ9_max_7cf53_0 : decode cJ9_max_7cf53 0 = .ok (.iload_n 0, 1) := by decide +kernel
theorem dJ9_max_7cf53_1 : decode cJ9_max_7cf53 1 = .ok (.iload_n 1, 1) := by decide +kernel
theorem dJ9_max_7cf53_2 : decode cJ9_max_7cf53 2 = .ok (.if_icmp .lt 7, 3) := by decide +kernel
theorem dJ9_max_7cf53_5 : decode cJ9_max_7cf53 5 = .ok (.iload_n 0, 1) := by decide +kernel
theorem dJ9_max_7cf53_6 : decode cJ9_max_7cf53 6 = .ok (.goto 4, 3) := by decide +kernel
theorem dJ9_max_7cf53_9 : decode cJ9_max_7cf53 9 = .ok (.iload_n 1, 1) := by decide +kernel
theorem dJ9_max_7cf53_10 : decode cJ9_max_7cf53 10 = .ok (.ireturn, 1) := by decide +kernel
theorem dJ9_min_7cf53_0 : decode cJ9_min_7cf53 0 = .ok (.iload_n 0, 1) := by decide +kernel
theorem dJ9_min_7cf53_1 : decode cJ9_min_7cf53 1 = .ok (.iload_n 1, 1) := by decide +kernel
theorem dJ9_min_7cf53_2 : decode cJ9_min_7cf53 2 = .ok (.if_icmp .gt 7, 3) := by decide +kernel
theorem dJ9_min_7cf53_5 : decode cJ9_min_7cf53 5 = .ok (.iload_n 0, 1) := by decide +kernel
theorem dJ9_min_7cf53_6 : decode cJ9_min_7cf53 6 = .ok (.goto 4, 3) := by decide +kernel
theorem dJ9_min_7cf53_9 : decode cJ9_min_7cf53 9 = .ok (.iload_n 1, 1) := by decide +kernel
theorem dJ9_min_7cf53_10 : decode cJ9_min_7cf53 10 = .ok (.ireturn, 1) := by decide +kernel
theorem dJ0_length_8abf5_0 : decode cJ0_length_8abf5 0 = .ok (.aload_n 0, 1) := by decide +kernel
theorem dJ0_length_8abf5_1 : decode cJ0_length_8abf5 1 = .ok (.getfield 9, 3) := by decide +kernel
theorem dJ0_length_8abf5_4 : decode cJ0_length_8abf5 4 = .ok (.arraylength, 1) := by decide +kernel
theorem dJ0_length_8abf5_5 : decode cJ0_length_8abf5 5 = .ok (.aload_n 0, 1) := by decide +kernel
theorem dJ0_length_8abf5_6 : decode cJ0_length_8abf5 6 = .ok (.invokevirtual 335, 3) := by decide +kernel
theorem dJ0_length_8abf5_9 : decode cJ0_length_8abf5 9 = .ok (.ishr, 1) := by decide +kernel
theorem dJ0_length_8abf5_10 : decode cJ0_length_8abf5 10 = .ok (.ireturn, 1) := by decide +kernel
theorem dJ0_charAt_5068e_0 : decode cJ0_charAt_5068e 0 = .ok (.aload_n 0, 1) := by decide +kernel
theorem dJ0_charAt_5068e_1 : decode cJ0_charAt_5068e 1 = .ok (.invokevirtual 492, 3) := by decide +kernel
theorem dJ0_charAt_5068e_4 : decode cJ0_charAt_5068e 4 = .ok (.ifCond .eq 12, 3) := by decide +kernel
theorem dJ0_charAt_5068e_7 : decode cJ0_charAt_5068e 7 = .ok (.aload_n 0, 1) := by decide +kernel
theorem dJ0_charAt_5068e_8 : decode cJ0_charAt_5068e 8 = .ok (.getfield 9, 3) := by decide +kernel
theorem dJ0_charAt_5068e_11 : decode cJ0_charAt_5068e 11 = .ok (.iload_n 1, 1) := by decide +kernel
theorem dJ0_charAt_5068e_12 : decode cJ0_charAt_5068e 12 = .ok (.invokestatic 495, 3) := by decide +kernel
theorem dJ0_charAt_5068e_15 : decode cJ0_charAt_5068e 15 = .ok (.ireturn, 1) := by decide +kernel
theorem dJ0_charAt_5068e_16 : decode cJ0_charAt_5068e 16 = .ok (.aload_n 0, 1) := by decide +kernel
theorem dJ0_charAt_5068e_17 : decode cJ0_charAt_5068e 17 = .ok (.getfield 9, 3) := by decide +kernel
theorem dJ0_charAt_5068e_20 : decode cJ0_charAt_5068e 20 = .ok (.iload_n 1, 1) := by decide +kernel
theorem dJ0_charAt_5068e_21 : decode cJ0_charAt_5068e 21 = .ok (.invokestatic 498, 3) := by decide +kernel
theorem dJ0_charAt_5068e_24 : decode cJ0_charAt_5068e 24 = .ok (.ireturn, 1) := by decide +kernel
theorem dJ0_coder_7d493_0 : decode cJ0_coder_7d493 0 = .ok (.getstatic 38, 3) := by decide +kernel
theorem dJ0_coder_7d493_3 : decode cJ0_coder_7d493 3 = .ok (.ifCond .eq 10, 3) := by decide +kernel
theorem dJ0_coder_7d493_6 : decode cJ0_coder_7d493 6 = .ok (.aload_n 0, 1) := by decide +kernel
theorem dJ0_coder_7d493_7 : decode cJ0_coder_7d493 7 = .ok (.getfield 15, 3) := by decide +kernel
theorem dJ0_coder_7d493_10 : decode cJ0_coder_7d493 10 = .ok (.goto 4, 3) := by decide +kernel
theorem dJ0_coder_7d493_13 : decode cJ0_coder_7d493 13 = .ok (.iconst 1, 1) := by decide +kernel
theorem dJ0_coder_7d493_14 : decode cJ0_coder_7d493 14 = .ok (.ireturn, 1) := by decide +kernel
theorem dJ0_isLatin1_aae02_0 : decode cJ0_isLatin1_aae02 0 = .ok (.getstatic 38, 3) := by decide +kernel
theorem dJ0_isLatin1_aae02_3 : decode cJ0_isLatin1_aae02 3 = .ok (.ifCond .eq 14, 3) := by decide +kernel
theorem dJ0_isLatin1_aae02_6 : decode cJ0_isLatin1_aae02 6 = .ok (.aload_n 0, 1) := by decide +kernel
theorem dJ0_isLatin1_aae02_7 : decode cJ0_isLatin1_aae02 7 = .ok (.getfield 15, 3) := by decide +kernel
theorem dJ0_isLatin1_aae02_10 : decode cJ0_isLatin1_aae02 10 = .ok (.ifCond .ne 7, 3) := by decide +kernel
theorem dJ0_isLatin1_aae02_13 : decode cJ0_isLatin1_aae02 13 = .ok (.iconst 1, 1) := by decide +kernel
theorem dJ0_isLatin1_aae02_14 : decode cJ0_isLatin1_aae02 14 = .ok (.goto 4, 3) := by decide +kernel
theorem dJ0_isLatin1_aae02_17 : decode cJ0_isLatin1_aae02 17 = .ok (.iconst 0, 1) := by decide +kernel
theorem dJ0_isLatin1_aae02_18 : decode cJ0_isLatin1_aae02 18 = .ok (.ireturn, 1) := by decide +kernel
theorem dJ0_checkIndex_df160_0 : decode cJ0_checkIndex_df160 0 = .ok (.iload_n 0, 1) := by decide +kernel
theorem dJ0_checkIndex_df160_1 : decode cJ0_checkIndex_df160 1 = .ok (.iload_n 1, 1) := by decide +kernel
theorem dJ0_checkIndex_df160_2 : decode cJ0_checkIndex_df160 2 = .ok (.getstatic 1053, 3) := by decide +kernel
theorem dJ0_checkIndex_df160_5 : decode cJ0_checkIndex_df160 5 = .ok (.invokestatic 1059, 3) := by decide +kernel
theorem dJ0_checkIndex_df160_8 : decode cJ0_checkIndex_df160 8 = .ok (.pop, 1) := by decide +kernel
theorem dJ0_checkIndex_df160_9 : decode cJ0_checkIndex_df160 9 = .ok (.return_, 1) := by decide +kernel
theorem dJ1_charAt_3b067_0 : decode cJ1_charAt_3b067 0 = .ok (.iload_n 1, 1) := by decide +kernel
theorem dJ1_charAt_3b067_1 : decode cJ1_charAt_3b067 1 = .ok (.aload_n 0, 1) := by decide +kernel
theorem dJ1_charAt_3b067_2 : decode cJ1_charAt_3b067 2 = .ok (.arraylength, 1) := by decide +kernel
theorem dJ1_charAt_3b067_3 : decode cJ1_charAt_3b067 3 = .ok (.invokestatic 9, 3) := by decide +kernel
theorem dJ1_charAt_3b067_6 : decode cJ1_charAt_3b067 6 = .ok (.aload_n 0, 1) := by decide +kernel
theorem dJ1_charAt_3b067_7 : decode cJ1_charAt_3b067 7 = .ok (.iload_n 1, 1) := by decide +kernel
theorem dJ1_charAt_3b067_8 : decode cJ1_charAt_3b067 8 = .ok (.baload, 1) := by decide +kernel
theorem dJ1_charAt_3b067_9 : decode cJ1_charAt_3b067 9 = .ok (.sipush 255, 3) := by decide +kernel
theorem dJ1_charAt_3b067_12 : decode cJ1_charAt_3b067 12 = .ok (.iand, 1) := by decide +kernel
theorem dJ1_charAt_3b067_13 : decode cJ1_charAt_3b067 13 = .ok (.i2c, 1) := by decide +kernel
theorem dJ1_charAt_3b067_14 : decode cJ1_charAt_3b067 14 = .ok (.ireturn, 1) := by decide +kernel
theorem dJ2_getChar_3b067_0 : decode cJ2_getChar_3b067 0 = .ok (.getstatic 44, 3) := by decide +kernel
theorem dJ2_getChar_3b067_3 : decode cJ2_getChar_3b067 3 = .ok (.ifCond .ne 25, 3) := by decide +kernel
theorem dJ2_getChar_3b067_6 : decode cJ2_getChar_3b067 6 = .ok (.iload_n 1, 1) := by decide +kernel
theorem dJ2_getChar_3b067_7 : decode cJ2_getChar_3b067 7 = .ok (.ifCond .lt 11, 3) := by decide +kernel
theorem dJ2_getChar_3b067_10 : decode cJ2_getChar_3b067 10 = .ok (.iload_n 1, 1) := by decide +kernel
theorem dJ2_getChar_3b067_11 : decode cJ2_getChar_3b067 11 = .ok (.aload_n 0, 1) := by decide +kernel
theorem dJ2_getChar_3b067_12 : decode cJ2_getChar_3b067 12 = .ok (.invokestatic 48, 3) := by decide +kernel
theorem dJ2_getChar_3b067_15 : decode cJ2_getChar_3b067 15 = .ok (.if_icmp .lt 13, 3) := by decide +kernel
theorem dJ2_getChar_3b067_18 : decode cJ2_getChar_3b067 18 = .ok (.new 52, 3) := by decide +kernel
theorem dJ2_getChar_3b067_21 : decode cJ2_getChar_3b067 21 = .ok (.dup, 1) := by decide +kernel
theorem dJ2_getChar_3b067_22 : decode cJ2_getChar_3b067 22 = .ok (.ldc 54, 2) := by decide +kernel
theorem dJ2_getChar_3b067_24 : decode cJ2_getChar_3b067 24 = .ok (.invokespecial 56, 3) := by decide +kernel
theorem dJ2_getChar_3b067_27 : decode cJ2_getChar_3b067 27 = .ok (.athrow, 1) := by decide +kernel
theorem dJ2_getChar_3b067_28 : decode cJ2_getChar_3b067 28 = .ok (.iload_n 1, 1) := by decide +kernel
theorem dJ2_getChar_3b067_29 : decode cJ2_getChar_3b067 29 = .ok (.iconst 1, 1) := by decide +kernel
theorem dJ2_getChar_3b067_30 : decode cJ2_getChar_3b067 30 = .ok (.ishl, 1) := by decide +kernel
theorem dJ2_getChar_3b067_31 : decode cJ2_getChar_3b067 31 = .ok (.istore_n 1, 1) := by decide +kernel
theorem dJ2_getChar_3b067_32 : decode cJ2_getChar_3b067 32 = .ok (.aload_n 0, 1) := by decide +kernel
theorem dJ2_getChar_3b067_33 : decode cJ2_getChar_3b067 33 = .ok (.iload_n 1, 1) := by decide +kernel
theorem dJ2_getChar_3b067_34 : decode cJ2_getChar_3b067 34 = .ok (.iinc 1 1, 3) := by decide +kernel
theorem dJ2_getChar_3b067_37 : decode cJ2_getChar_3b067 37 = .ok (.baload, 1) := by decide +kernel
theorem dJ2_getChar_3b067_38 : decode cJ2_getChar_3b067 38 = .ok (.sipush 255, 3) := by decide +kernel
theorem dJ2_getChar_3b067_41 : decode cJ2_getChar_3b067 41 = .ok (.iand, 1) := by decide +kernel
theorem dJ2_getChar_3b067_42 : decode cJ2_getChar_3b067 42 = .ok (.getstatic 59, 3) := by decide +kernel
theorem dJ2_getChar_3b067_45 : decode cJ2_getChar_3b067 45 = .ok (.ishl, 1) := by decide +kernel
theorem dJ2_getChar_3b067_46 : decode cJ2_getChar_3b067 46 = .ok (.aload_n 0, 1) := by decide +kernel
theorem dJ2_getChar_3b067_47 : decode cJ2_getChar_3b067 47 = .ok (.iload_n 1, 1) := by decide +kernel
theorem dJ2_getChar_3b067_48 : decode cJ2_getChar_3b067 48 = .ok (.baload, 1) := by decide +kernel
theorem dJ2_getChar_3b067_49 : decode cJ2_getChar_3b067 49 = .ok (.sipush 255, 3) := by decide +kernel
theorem dJ2_getChar_3b067_52 : decode cJ2_getChar_3b067 52 = .ok (.iand, 1) := by decide +kernel
theorem dJ2_getChar_3b067_53 : decode cJ2_getChar_3b067 53 = .ok (.getstatic 63, 3) := by decide +kernel
theorem dJ2_getChar_3b067_56 : decode cJ2_getChar_3b067 56 = .ok (.ishl, 1) := by decide +kernel
theorem dJ2_getChar_3b067_57 : decode cJ2_getChar_3b067 57 = .ok (.ior, 1) := by decide +kernel
theorem dJ2_getChar_3b067_58 : decode cJ2_getChar_3b067 58 = .ok (.i2c, 1) := by decide +kernel
theorem dJ2_getChar_3b067_59 : decode cJ2_getChar_3b067 59 = .ok (.ireturn, 1) := by decide +kernel
theorem dJ2_length_9d52b_0 : decode cJ2_length_9d52b 0 = .ok (.aload_n 0, 1) := by decide +kernel
theorem dJ2_length_9d52b_1 : decode cJ2_length_9d52b 1 = .ok (.arraylength, 1) := by decide +kernel
theorem dJ2_length_9d52b_2 : decode cJ2_length_9d52b 2 = .ok (.iconst 1, 1) := by decide +kernel
theorem dJ2_length_9d52b_3 : decode cJ2_length_9d52b 3 = .ok (.ishr, 1) := by decide +kernel
theorem dJ2_length_9d52b_4 : decode cJ2_length_9d52b 4 = .ok (.ireturn, 1) := by decide +kernel
theorem dJ2_charAt_3b067_0 : decode cJ2_charAt_3b067 0 = .ok (.iload_n 1, 1) := by decide +kernel
theorem dJ2_charAt_3b067_1 : decode cJ2_charAt_3b067 1 = .ok (.aload_n 0, 1) := by decide +kernel
theorem dJ2_charAt_3b067_2 : decode cJ2_charAt_3b067 2 = .ok (.invokestatic 67, 3) := by decide +kernel
theorem dJ2_charAt_3b067_5 : decode cJ2_charAt_3b067 5 = .ok (.aload_n 0, 1) := by decide +kernel
theorem dJ2_charAt_3b067_6 : decode cJ2_charAt_3b067 6 = .ok (.iload_n 1, 1) := by decide +kernel
theorem dJ2_charAt_3b067_7 : decode cJ2_charAt_3b067 7 = .ok (.invokestatic 71, 3) := by decide +kernel
theorem dJ2_charAt_3b067_10 : decode cJ2_charAt_3b067 10 = .ok (.ireturn, 1) := by decide +kernel
theorem dJ2_checkIndex_2214a_0 : decode cJ2_checkIndex_2214a 0 = .ok (.iload_n 0, 1) := by decide +kernel
theorem dJ2_checkIndex_2214a_1 : decode cJ2_checkIndex_2214a 1 = .ok (.aload_n 1, 1) := by decide +kernel
theorem dJ2_checkIndex_2214a_2 : decode cJ2_checkIndex_2214a 2 = .ok (.invokestatic 48, 3) := by decide +kernel
theorem dJ2_checkIndex_2214a_5 : decode cJ2_checkIndex_2214a 5 = .ok (.invokestatic 414, 3) := by decide +kernel
theorem dJ2_checkIndex_2214a_8 : decode cJ2_checkIndex_2214a 8 = .ok (.return_, 1) := by decide +kernel
theorem dJ3_checkIndex_8e157_0 : decode cJ3_checkIndex_8e157 0 = .ok (.iload_n 0, 1) := by decide +kernel
theorem dJ3_checkIndex_8e157_1 : decode cJ3_checkIndex_8e157 1 = .ok (.ifCond .lt 8, 3) := by decide +kernel
theorem dJ3_checkIndex_8e157_4 : decode cJ3_checkIndex_8e157 4 = .ok (.iload_n 0, 1) := by decide +kernel
theorem dJ3_checkIndex_8e157_5 : decode cJ3_checkIndex_8e157 5 = .ok (.iload_n 1, 1) := by decide +kernel
theorem dJ3_checkIndex_8e157_6 : decode cJ3_checkIndex_8e157 6 = .ok (.if_icmp .lt 10, 3) := by decide +kernel
theorem dJ3_checkIndex_8e157_9 : decode cJ3_checkIndex_8e157 9 = .ok (.aload_n 2, 1) := by decide +kernel
theorem dJ3_checkIndex_8e157_10 : decode cJ3_checkIndex_8e157 10 = .ok (.iload_n 0, 1) := by decide +kernel
theorem dJ3_checkIndex_8e157_11 : decode cJ3_checkIndex_8e157 11 = .ok (.iload_n 1, 1) := by decide +kernel
theorem dJ3_checkIndex_8e157_12 : decode cJ3_checkIndex_8e157 12 = .ok (.invokestatic 95, 3) := by decide +kernel
theorem dJ3_checkIndex_8e157_15 : decode cJ3_checkIndex_8e157 15 = .ok (.athrow, 1) := by decide +kernel
theorem dJ3_checkIndex_8e157_16 : decode cJ3_checkIndex_8e157 16 = .ok (.iload_n 0, 1) := by decide +kernel
theorem dJ3_checkIndex_8e157_17 : decode cJ3_checkIndex_8e157 17 = .ok (.ireturn, 1) := by decide +kernel
end
section
theorem dX7_init_0 : decode cX7_init 0 = .ok (.aload_n 0, 1) := by decide +kernel
theorem dX7_init_1 : decode cX7_init 1 = .ok (.invokespecial 1, 3) := by decide +kernel
theorem dX7_init_4 : decode cX7_init 4 = .ok (.aload_n 0, 1) := by decide +kernel
theorem dX7_init_5 : decode cX7_init 5 = .ok (.sipush 486, 3) := by decide +kernel
theorem dX7_init_8 : decode cX7_init 8 = .ok (.newarray .int, 2) := by decide +kernel
theorem dX7_init_10 : decode cX7_init 10 = .ok (.putfield 7, 3) := by decide +kernel
theorem dX7_init_13 : decode cX7_init 13 = .ok (.aload_n 0, 1) := by decide +kernel
theorem dX7_init_14 : decode cX7_init 14 = .ok (.sipush 1944, 3) := by decide +kernel
theorem dX7_init_17 : decode cX7_init 17 = .ok (.newarray .int, 2) := by decide +kernel
theorem dX7_init_19 : decode cX7_init 19 = .ok (.putfield 13, 3) := by decide +kernel
theorem dX7_init_22 : decode cX7_init 22 = .ok (.aload_n 0, 1) := by decide +kernel
theorem dX7_init_23 : decode cX7_init 23 = .ok (.sipush 486, 3) := by decide +kernel
theorem dX7_init_26 : decode cX7_init 26 = .ok (.newarray .int, 2) := by decide +kernel
theorem dX7_init_28 : decode cX7_init 28 = .ok (.putfield 16, 3) := by decide +kernel
theorem dX7_init_31 : decode cX7_init 31 = .ok (.aload_n 0, 1) := by decide +kernel
theorem dX7_init_32 : decode cX7_init 32 = .ok (.sipush 150, 3) := by decide +kernel
theorem dX7_init_35 : decode cX7_init 35 = .ok (.newarray .int, 2) := by decide +kernel
theorem dX7_init_37 : decode cX7_init 37 = .ok (.putfield 19, 3) := by decide +kernel
theorem dX7_init_40 : decode cX7_init 40 = .ok (.aload_n 0, 1) := by decide +kernel
theorem dX7_init_41 : decode cX7_init 41 = .ok (.sipush (-1000), 3) := by decide +kernel
theorem dX7_init_44 : decode cX7_init 44 = .ok (.putfield 22, 3) := by decide +kernel
theorem dX7_init_47 : decode cX7_init 47 = .ok (.aload_n 0, 1) := by decide +kernel
theorem dX7_init_48 : decode cX7_init 48 = .ok (.bipush 8, 2) := by decide +kernel
theorem dX7_init_50 : decode cX7_init 50 = .ok (.newarray .int, 2) := by decide +kernel
theorem dX7_init_52 : decode cX7_init 52 = .ok (.putfield 26, 3) := by decide +kernel
theorem dX7_init_55 : decode cX7_init 55 = .ok (.aload_n 0, 1) := by decide +kernel
theorem dX7_init_56 : decode cX7_init 56 = .ok (.bipush 8, 2) := by decide +kernel
theorem dX7_init_58 : decode cX7_init 58 = .ok (.newarray .int, 2) := by decide +kernel
theorem dX7_init_60 : decode cX7_init 60 = .ok (.putfield 29, 3) := by decide +kernel
theorem dX7_init_63 : decode cX7_init 63 = .ok (.aload_n 0, 1) := by decide +kernel
theorem dX7_init_64 : decode cX7_init 64 = .ok (.bipush 8, 2) := by decide +kernel
theorem dX7_init_66 : decode cX7_init 66 = .ok (.newarray .int, 2) := by decide +kernel
theorem dX7_init_68 : decode cX7_init 68 = .ok (.putfield 32, 3) := by decide +kernel
theorem dX7_init_71 : decode cX7_init 71 = .ok (.aload_n 0, 1) := by decide +kernel
theorem dX7_init_72 : decode cX7_init 72 = .ok (.iconst 5, 1) := by decide +kernel
theorem dX7_init_73 : decode cX7_init 73 = .ok (.newarray .int, 2) := by decide +kernel
theorem dX7_init_75 : decode cX7_init 75 = .ok (.putfield 35, 3) := by decide +kernel
theorem dX7_init_78 : decode cX7_init 78 = .ok (.aload_n 0, 1) := by decide +kernel
theorem dX7_init_79 : decode cX7_init 79 = .ok (.getfield 7, 3) := by decide +kernel
theorem dX7_init_82 : decode cX7_init 82 = .ok (.iconst 0, 1) := by decide +kernel
theorem dX7_init_83 : decode cX7_init 83 = .ok (.bipush 12, 2) := by decide +kernel
theorem dX7_init_85 : decode cX7_init 85 = .ok (.iastore, 1) := by decide +kernel
theorem dX7_init_86 : decode cX7_init 86 = .ok (.aload_n 0, 1) := by decide +kernel
theorem dX7_init_87 : decode cX7_init 87 = .ok (.getfield 7, 3) := by decide +kernel
theorem dX7_init_90 : decode cX7_init 90 = .ok (.iconst 1, 1) := by decide +kernel
theorem dX7_init_91 : decode cX7_init 91 = .ok (.bipush 8, 2) := by decide +kernel
theorem dX7_init_93 : decode cX7_init 93 = .ok (.iastore, 1) := by decide +kernel
theorem dX7_init_94 : decode cX7_init 94 = .ok (.return_, 1) := by decide +kernel
theorem dX7_thrown_0 : decode cX7_thrown 0 = .ok (.aload_n 0, 1) := by decide +kernel
theorem dX7_thrown_1 : decode cX7_thrown 1 = .ok (.getfield 38, 3) := by decide +kernel
theorem dX7_thrown_4 : decode cX7_thrown 4 = .ok (.ireturn, 1) := by decide +kernel
theorem dX7_in_0 : decode cX7_in 0 = .ok (.iload_n 0, 1) := by decide +kernel
theorem dX7_in_1 : decode cX7_in 1 = .ok (.iload_n 1, 1) := by decide +kernel
theorem dX7_in_2 : decode cX7_in 2 = .ok (.if_icmp .lt 12, 3) := by decide +kernel
theorem dX7_in_5 : decode cX7_in 5 = .ok (.iload_n 0, 1) := by decide +kernel
theorem dX7_in_6 : decode cX7_in 6 = .ok (.iload_n 2, 1) := by decide +kernel
theorem dX7_in_7 : decode cX7_in 7 = .ok (.if_icmp .gt 7, 3) := by decide +kernel
theorem dX7_in_10 : decode cX7_in 10 = .ok (.iconst 1, 1) := by decide +kernel
theorem dX7_in_11 : decode cX7_in 11 = .ok (.goto 4, 3) := by decide +kernel
theorem dX7_in_14 : decode cX7_in 14 = .ok (.iconst 0, 1) := by decide +kernel
theorem dX7_in_15 : decode cX7_in 15 = .ok (.ireturn, 1) := by decide +kernel
theorem dX7_size_0 : decode cX7_size 0 = .ok (.iload_n 0, 1) := by decide +kernel
theorem dX7_size_1 : decode cX7_size 1 = .ok (.ifCond .ge 8, 3) := by decide +kernel
theorem dX7_size_4 : decode cX7_size 4 = .ok (.iload_n 0, 1) := by decide +kernel
theorem dX7_size_5 : decode cX7_size 5 = .ok (.ineg, 1) := by decide +kernel
theorem dX7_size_6 : decode cX7_size 6 = .ok (.goto 4, 3) := by decide +kernel
theorem dX7_size_9 : decode cX7_size 9 = .ok (.iload_n 0, 1) := by decide +kernel
theorem dX7_size_10 : decode cX7_size 10 = .ok (.ireturn, 1) := by decide +kernel
theorem dX7_lesser_0 : decode cX7_lesser 0 = .ok (.iload_n 0, 1) := by decide +kernel
theorem dX7_lesser_1 : decode cX7_lesser 1 = .ok (.iload_n 1, 1) := by decide +kernel
theorem dX7_lesser_2 : decode cX7_lesser 2 = .ok (.if_icmp .ge 7, 3) := by decide +kernel
theorem dX7_lesser_5 : decode cX7_lesser 5 = .ok (.iload_n 0, 1) := by decide +kernel
theorem dX7_lesser_6 : decode cX7_lesser 6 = .ok (.goto 4, 3) := by decide +kernel
theorem dX7_lesser_9 : decode cX7_lesser 9 = .ok (.iload_n 1, 1) := by decide +kernel
theorem dX7_lesser_10 : decode cX7_lesser 10 = .ok (.ireturn, 1) := by decide +kernel
theorem dX7_fails_0 : decode cX7_fails 0 = .ok (.aload_n 0, 1) := by decide +kernel
theorem dX7_fails_1 : decode cX7_fails 1 = .ok (.iload_n 1, 1) := by decide +kernel
theorem dX7_fails_2 : decode cX7_fails 2 = .ok (.putfield 38, 3) := by decide +kernel
theorem dX7_fails_5 : decode cX7_fails 5 = .ok (.iconst 0, 1) := by decide +kernel
theorem dX7_fails_6 : decode cX7_fails 6 = .ok (.ireturn, 1) := by decide +kernel
theorem dX7_tells_0 : decode cX7_tells 0 = .ok (.aload_n 0, 1) := by decide +kernel
theorem dX7_tells_1 : decode cX7_tells 1 = .ok (.iconst 0, 1) := by decide +kernel
theorem dX7_tells_2 : decode cX7_tells 2 = .ok (.putfield 38, 3) := by decide +kernel
theorem dX7_tells_5 : decode cX7_tells 5 = .ok (.iload_n 1, 1) := by decide +kernel
theorem dX7_tells_6 : decode cX7_tells 6 = .ok (.ireturn, 1) := by decide +kernel
theorem dX7_of_0 : decode cX7_of 0 = .ok (.aload_n 0, 1) := by decide +kernel
theorem dX7_of_1 : decode cX7_of 1 = .ok (.getfield 7, 3) := by decide +kernel
theorem dX7_of_4 : decode cX7_of 4 = .ok (.sipush 390, 3) := by decide +kernel
theorem dX7_of_7 : decode cX7_of 7 = .ok (.bipush 12, 2) := by decide +kernel
theorem dX7_of_9 : decode cX7_of 9 = .ok (.iload_n 1, 1) := by decide +kernel
theorem dX7_of_10 : decode cX7_of 10 = .ok (.imul, 1) := by decide +kernel
theorem dX7_of_11 : decode cX7_of 11 = .ok (.iadd, 1) := by decide +kernel
theorem dX7_of_12 : decode cX7_of 12 = .ok (.iload_n 2, 1) := by decide +kernel
theorem dX7_of_13 : decode cX7_of 13 = .ok (.iadd, 1) := by decide +kernel
theorem dX7_of_14 : decode cX7_of 14 = .ok (.iaload, 1) := by decide +kernel
theorem dX7_of_15 : decode cX7_of 15 = .ok (.ireturn, 1) := by decide +kernel
theorem dX7_put_0 : decode cX7_put 0 = .ok (.aload_n 0, 1) := by decide +kernel
theorem dX7_put_1 : decode cX7_put 1 = .ok (.getfield 7, 3) := by decide +kernel
theorem dX7_put_4 : decode cX7_put 4 = .ok (.sipush 390, 3) := by decide +kernel
theorem dX7_put_7 : decode cX7_put 7 = .ok (.bipush 12, 2) := by decide +kernel
theorem dX7_put_9 : decode cX7_put 9 = .ok (.iload_n 1, 1) := by decide +kernel
theorem dX7_put_10 : decode cX7_put 10 = .ok (.imul, 1) := by decide +kernel
theorem dX7_put_11 : decode cX7_put 11 = .ok (.iadd, 1) := by decide +kernel
theorem dX7_put_12 : decode cX7_put 12 = .ok (.iload_n 2, 1) := by decide +kernel
theorem dX7_put_13 : decode cX7_put 13 = .ok (.iadd, 1) := by decide +kernel
theorem dX7_put_14 : decode cX7_put 14 = .ok (.iload_n 3, 1) := by decide +kernel
theorem dX7_put_15 : decode cX7_put 15 = .ok (.iastore, 1) := by decide +kernel
theorem dX7_put_16 : decode cX7_put 16 = .ok (.return_, 1) := by decide +kernel
theorem dX7_isLamp_0 : decode cX7_isLamp 0 = .ok (.iload_n 1, 1) := by decide +kernel
theorem dX7_isLamp_1 : decode cX7_isLamp 1 = .ok (.iconst 0, 1) := by decide +kernel
theorem dX7_isLamp_2 : decode cX7_isLamp 2 = .ok (.aload_n 0, 1) := by decide +kernel
theorem dX7_isLamp_3 : decode cX7_isLamp 3 = .ok (.getfield 7, 3) := by decide +kernel
theorem dX7_isLamp_6 : decode cX7_isLamp 6 = .ok (.iconst 4, 1) := by decide +kernel
theorem dX7_isLamp_7 : decode cX7_isLamp 7 = .ok (.iaload, 1) := by decide +kernel
theorem dX7_isLamp_8 : decode cX7_isLamp 8 = .ok (.iconst 1, 1) := by decide +kernel
theorem dX7_isLamp_9 : decode cX7_isLamp 9 = .ok (.isub, 1) := by decide +kernel
theorem dX7_isLamp_10 : decode cX7_isLamp 10 = .ok (.invokestatic 41, 3) := by decide +kernel
theorem dX7_isLamp_13 : decode cX7_isLamp 13 = .ok (.ireturn, 1) := by decide +kernel
theorem dX7_isPlace_0 : decode cX7_isPlace 0 = .ok (.iload_n 1, 1) := by decide +kernel
theorem dX7_isPlace_1 : decode cX7_isPlace 1 = .ok (.iconst 0, 1) := by decide +kernel
theorem dX7_isPlace_2 : decode cX7_isPlace 2 = .ok (.aload_n 0, 1) := by decide +kernel
theorem dX7_isPlace_3 : decode cX7_isPlace 3 = .ok (.getfield 7, 3) := by decide +kernel
theorem dX7_isPlace_6 : decode cX7_isPlace 6 = .ok (.iconst 0, 1) := by decide +kernel
theorem dX7_isPlace_7 : decode cX7_isPlace 7 = .ok (.iaload, 1) := by decide +kernel
theorem dX7_isPlace_8 : decode cX7_isPlace 8 = .ok (.iconst 1, 1) := by decide +kernel
theorem dX7_isPlace_9 : decode cX7_isPlace 9 = .ok (.isub, 1) := by decide +kernel
theorem dX7_isPlace_10 : decode cX7_isPlace 10 = .ok (.invokestatic 41, 3) := by decide +kernel
theorem dX7_isPlace_13 : decode cX7_isPlace 13 = .ok (.ifCond .eq 23, 3) := by decide +kernel
theorem dX7_isPlace_16 : decode cX7_isPlace 16 = .ok (.iload_n 2, 1) := by decide +kernel
theorem dX7_isPlace_17 : decode cX7_isPlace 17 = .ok (.iconst 0, 1) := by decide +kernel
theorem dX7_isPlace_18 : decode cX7_isPlace 18 = .ok (.aload_n 0, 1) := by decide +kernel
theorem dX7_isPlace_19 : decode cX7_isPlace 19 = .ok (.getfield 7, 3) := by decide +kernel
theorem dX7_isPlace_22 : decode cX7_isPlace 22 = .ok (.iconst 1, 1) := by decide +kernel
theorem dX7_isPlace_23 : decode cX7_isPlace 23 = .ok (.iaload, 1) := by decide +kernel
theorem dX7_isPlace_24 : decode cX7_isPlace 24 = .ok (.iconst 1, 1) := by decide +kernel
theorem dX7_isPlace_25 : decode cX7_isPlace 25 = .ok (.isub, 1) := by decide +kernel
theorem dX7_isPlace_26 : decode cX7_isPlace 26 = .ok (.invokestatic 41, 3) := by decide +kernel
theorem dX7_isPlace_29 : decode cX7_isPlace 29 = .ok (.ifCond .eq 7, 3) := by decide +kernel
theorem dX7_isPlace_32 : decode cX7_isPlace 32 = .ok (.iconst 1, 1) := by decide +kernel
theorem dX7_isPlace_33 : decode cX7_isPlace 33 = .ok (.goto 4, 3) := by decide +kernel
theorem dX7_isPlace_36 : decode cX7_isPlace 36 = .ok (.iconst 0, 1) := by decide +kernel
theorem dX7_isPlace_37 : decode cX7_isPlace 37 = .ok (.ireturn, 1) := by decide +kernel
theorem dX7_target_0 : decode cX7_target 0 = .ok (.aload_n 0, 1) := by decide +kernel
theorem dX7_target_1 : decode cX7_target 1 = .ok (.getfield 7, 3) := by decide +kernel
theorem dX7_target_4 : decode cX7_target 4 = .ok (.bipush 6, 2) := by decide +kernel
theorem dX7_target_6 : decode cX7_target 6 = .ok (.bipush 24, 2) := by decide +kernel
theorem dX7_target_8 : decode cX7_target 8 = .ok (.iload_n 2, 1) := by decide +kernel
theorem dX7_target_9 : decode cX7_target 9 = .ok (.imul, 1) := by decide +kernel
theorem dX7_target_10 : decode cX7_target 10 = .ok (.iadd, 1) := by decide +kernel
theorem dX7_target_11 : decode cX7_target 11 = .ok (.iload_n 1, 1) := by decide +kernel
theorem dX7_target_12 : decode cX7_target 12 = .ok (.iadd, 1) := by decide +kernel
theorem dX7_target_13 : decode cX7_target 13 = .ok (.iaload, 1) := by decide +kernel
theorem dX7_target_14 : decode cX7_target 14 = .ok (.ireturn, 1) := by decide +kernel
theorem dX7_laysAside_0 : decode cX7_laysAside 0 = .ok (.iconst 0, 1) := by decide +kernel
theorem dX7_laysAside_1 : decode cX7_laysAside 1 = .ok (.istore_n 1, 1) := by decide +kernel
theorem dX7_laysAside_2 : decode cX7_laysAside 2 = .ok (.iload_n 1, 1) := by decide +kernel
theorem dX7_laysAside_3 : decode cX7_laysAside 3 = .ok (.sipush 486, 3) := by decide +kernel
theorem dX7_laysAside_6 : decode cX7_laysAside 6 = .ok (.if_icmp .ge 21, 3) := by decide +kernel
theorem dX7_laysAside_9 : decode cX7_laysAside 9 = .ok (.aload_n 0, 1) := by decide +kernel
theorem dX7_laysAside_10 : decode cX7_laysAside 10 = .ok (.getfield 16, 3) := by decide +kernel
theorem dX7_laysAside_13 : decode cX7_laysAside 13 = .ok (.iload_n 1, 1) := by decide +kernel
theorem dX7_laysAside_14 : decode cX7_laysAside 14 = .ok (.aload_n 0, 1) := by decide +kernel
theorem dX7_laysAside_15 : decode cX7_laysAside 15 = .ok (.getfield 7, 3) := by decide +kernel
theorem dX7_laysAside_18 : decode cX7_laysAside 18 = .ok (.iload_n 1, 1) := by decide +kernel
theorem dX7_laysAside_19 : decode cX7_laysAside 19 = .ok (.iaload, 1) := by decide +kernel
theorem dX7_laysAside_20 : decode cX7_laysAside 20 = .ok (.iastore, 1) := by decide +kernel
theorem dX7_laysAside_21 : decode cX7_laysAside 21 = .ok (.iinc 1 1, 3) := by decide +kernel
theorem dX7_laysAside_24 : decode cX7_laysAside 24 = .ok (.goto (-22), 3) := by decide +kernel
theorem dX7_laysAside_27 : decode cX7_laysAside 27 = .ok (.return_, 1) := by decide +kernel
theorem dX7_bringsBack_0 : decode cX7_bringsBack 0 = .ok (.iconst 0, 1) := by decide +kernel
theorem dX7_bringsBack_1 : decode cX7_bringsBack 1 = .ok (.istore_n 1, 1) := by decide +kernel
theorem dX7_bringsBack_2 : decode cX7_bringsBack 2 = .ok (.iload_n 1, 1) := by decide +kernel
theorem dX7_bringsBack_3 : decode cX7_bringsBack 3 = .ok (.sipush 486, 3) := by decide +kernel
theorem dX7_bringsBack_6 : decode cX7_bringsBack 6 = .ok (.if_icmp .ge 21, 3) := by decide +kernel
theorem dX7_bringsBack_9 : decode cX7_bringsBack 9 = .ok (.aload_n 0, 1) := by decide +kernel
theorem dX7_bringsBack_10 : decode cX7_bringsBack 10 = .ok (.getfield 7, 3) := by decide +kernel
theorem dX7_bringsBack_13 : decode cX7_bringsBack 13 = .ok (.iload_n 1, 1) := by decide +kernel
theorem dX7_bringsBack_14 : decode cX7_bringsBack 14 = .ok (.aload_n 0, 1) := by decide +kernel
theorem dX7_bringsBack_15 : decode cX7_bringsBack 15 = .ok (.getfield 16, 3) := by decide +kernel
theorem dX7_bringsBack_18 : decode cX7_bringsBack 18 = .ok (.iload_n 1, 1) := by decide +kernel
theorem dX7_bringsBack_19 : decode cX7_bringsBack 19 = .ok (.iaload, 1) := by decide +kernel
theorem dX7_bringsBack_20 : decode cX7_bringsBack 20 = .ok (.iastore, 1) := by decide +kernel
theorem dX7_bringsBack_21 : decode cX7_bringsBack 21 = .ok (.iinc 1 1, 3) := by decide +kernel
theorem dX7_bringsBack_24 : decode cX7_bringsBack 24 = .ok (.goto (-22), 3) := by decide +kernel
theorem dX7_bringsBack_27 : decode cX7_bringsBack 27 = .ok (.return_, 1) := by decide +kernel
theorem dX7_saves_0 : decode cX7_saves 0 = .ok (.aload_n 0, 1) := by decide +kernel
theorem dX7_saves_1 : decode cX7_saves 1 = .ok (.getfield 45, 3) := by decide +kernel
theorem dX7_saves_4 : decode cX7_saves 4 = .ok (.iconst 4, 1) := by decide +kernel
theorem dX7_saves_5 : decode cX7_saves 5 = .ok (.if_icmp .ne 44, 3) := by decide +kernel
theorem dX7_saves_8 : decode cX7_saves 8 = .ok (.iconst 0, 1) := by decide +kernel
theorem dX7_saves_9 : decode cX7_saves 9 = .ok (.istore_n 1, 1) := by decide +kernel
theorem dX7_saves_10 : decode cX7_saves 10 = .ok (.iload_n 1, 1) := by decide +kernel
theorem dX7_saves_11 : decode cX7_saves 11 = .ok (.sipush 1458, 3) := by decide +kernel
theorem dX7_saves_14 : decode cX7_saves 14 = .ok (.if_icmp .ge 25, 3) := by decide +kernel
theorem dX7_saves_17 : decode cX7_saves 17 = .ok (.aload_n 0, 1) := by decide +kernel
theorem dX7_saves_18 : decode cX7_saves 18 = .ok (.getfield 13, 3) := by decide +kernel
theorem dX7_saves_21 : decode cX7_saves 21 = .ok (.iload_n 1, 1) := by decide +kernel
theorem dX7_saves_22 : decode cX7_saves 22 = .ok (.aload_n 0, 1) := by decide +kernel
theorem dX7_saves_23 : decode cX7_saves 23 = .ok (.getfield 13, 3) := by decide +kernel
theorem dX7_saves_26 : decode cX7_saves 26 = .ok (.iload_n 1, 1) := by decide +kernel
theorem dX7_saves_27 : decode cX7_saves 27 = .ok (.sipush 486, 3) := by decide +kernel
theorem dX7_saves_30 : decode cX7_saves 30 = .ok (.iadd, 1) := by decide +kernel
theorem dX7_saves_31 : decode cX7_saves 31 = .ok (.iaload, 1) := by decide +kernel
theorem dX7_saves_32 : decode cX7_saves 32 = .ok (.iastore, 1) := by decide +kernel
theorem dX7_saves_33 : decode cX7_saves 33 = .ok (.iinc 1 1, 3) := by decide +kernel
theorem dX7_saves_36 : decode cX7_saves 36 = .ok (.goto (-26), 3) := by decide +kernel
theorem dX7_saves_39 : decode cX7_saves 39 = .ok (.aload_n 0, 1) := by decide +kernel
theorem dX7_saves_40 : decode cX7_saves 40 = .ok (.dup, 1) := by decide +kernel
theorem dX7_saves_41 : decode cX7_saves 41 = .ok (.getfield 45, 3) := by decide +kernel
theorem dX7_saves_44 : decode cX7_saves 44 = .ok (.iconst 1, 1) := by decide +kernel
theorem dX7_saves_45 : decode cX7_saves 45 = .ok (.isub, 1) := by decide +kernel
theorem dX7_saves_46 : decode cX7_saves 46 = .ok (.putfield 45, 3) := by decide +kernel
theorem dX7_saves_49 : decode cX7_saves 49 = .ok (.iconst 0, 1) := by decide +kernel
theorem dX7_saves_50 : decode cX7_saves 50 = .ok (.istore_n 1, 1) := by decide +kernel
theorem dX7_saves_51 : decode cX7_saves 51 = .ok (.iload_n 1, 1) := by decide +kernel
theorem dX7_saves_52 : decode cX7_saves 52 = .ok (.sipush 486, 3) := by decide +kernel
theorem dX7_saves_55 : decode cX7_saves 55 = .ok (.if_icmp .ge 30, 3) := by decide +kernel
theorem dX7_saves_58 : decode cX7_saves 58 = .ok (.aload_n 0, 1) := by decide +kernel
theorem dX7_saves_59 : decode cX7_saves 59 = .ok (.getfield 13, 3) := by decide +kernel
theorem dX7_saves_62 : decode cX7_saves 62 = .ok (.sipush 486, 3) := by decide +kernel
theorem dX7_saves_65 : decode cX7_saves 65 = .ok (.aload_n 0, 1) := by decide +kernel
theorem dX7_saves_66 : decode cX7_saves 66 = .ok (.getfield 45, 3) := by decide +kernel
theorem dX7_saves_69 : decode cX7_saves 69 = .ok (.imul, 1) := by decide +kernel
theorem dX7_saves_70 : decode cX7_saves 70 = .ok (.iload_n 1, 1) := by decide +kernel
theorem dX7_saves_71 : decode cX7_saves 71 = .ok (.iadd, 1) := by decide +kernel
theorem dX7_saves_72 : decode cX7_saves 72 = .ok (.aload_n 0, 1) := by decide +kernel
theorem dX7_saves_73 : decode cX7_saves 73 = .ok (.getfield 16, 3) := by decide +kernel
theorem dX7_saves_76 : decode cX7_saves 76 = .ok (.iload_n 1, 1) := by decide +kernel
theorem dX7_saves_77 : decode cX7_saves 77 = .ok (.iaload, 1) := by decide +kernel
theorem dX7_saves_78 : decode cX7_saves 78 = .ok (.iastore, 1) := by decide +kernel
theorem dX7_saves_79 : decode cX7_saves 79 = .ok (.iinc 1 1, 3) := by decide +kernel
theorem dX7_saves_82 : decode cX7_saves 82 = .ok (.goto (-31), 3) := by decide +kernel
theorem dX7_saves_85 : decode cX7_saves 85 = .ok (.aload_n 0, 1) := by decide +kernel
theorem dX7_saves_86 : decode cX7_saves 86 = .ok (.dup, 1) := by decide +kernel
theorem dX7_saves_87 : decode cX7_saves 87 = .ok (.getfield 45, 3) := by decide +kernel
theorem dX7_saves_90 : decode cX7_saves 90 = .ok (.iconst 1, 1) := by decide +kernel
theorem dX7_saves_91 : decode cX7_saves 91 = .ok (.iadd, 1) := by decide +kernel
theorem dX7_saves_92 : decode cX7_saves 92 = .ok (.putfield 45, 3) := by decide +kernel
theorem dX7_saves_95 : decode cX7_saves 95 = .ok (.return_, 1) := by decide +kernel
theorem dX7_ends_0 : decode cX7_ends 0 = .ok (.iload_n 1, 1) := by decide +kernel
theorem dX7_ends_1 : decode cX7_ends 1 = .ok (.ifCond .le 9, 3) := by decide +kernel
theorem dX7_ends_4 : decode cX7_ends 4 = .ok (.aload_n 0, 1) := by decide +kernel
theorem dX7_ends_5 : decode cX7_ends 5 = .ok (.iload_n 1, 1) := by decide +kernel
theorem dX7_ends_6 : decode cX7_ends 6 = .ok (.invokevirtual 48, 3) := by decide +kernel
theorem dX7_ends_9 : decode cX7_ends 9 = .ok (.ireturn, 1) := by decide +kernel
theorem dX7_ends_10 : decode cX7_ends 10 = .ok (.aload_n 0, 1) := by decide +kernel
theorem dX7_ends_11 : decode cX7_ends 11 = .ok (.invokevirtual 52, 3) := by decide +kernel
theorem dX7_ends_14 : decode cX7_ends 14 = .ok (.aload_n 0, 1) := by decide +kernel
theorem dX7_ends_15 : decode cX7_ends 15 = .ok (.aload_n 0, 1) := by decide +kernel
theorem dX7_ends_16 : decode cX7_ends 16 = .ok (.getfield 55, 3) := by decide +kernel
theorem dX7_ends_19 : decode cX7_ends 19 = .ok (.invokevirtual 58, 3) := by decide +kernel
theorem dX7_ends_22 : decode cX7_ends 22 = .ok (.ireturn, 1) := by decide +kernel
theorem dX7_undo_0 : decode cX7_undo 0 = .ok (.aload_n 0, 1) := by decide +kernel
theorem dX7_undo_1 : decode cX7_undo 1 = .ok (.getfield 45, 3) := by decide +kernel
theorem dX7_undo_4 : decode cX7_undo 4 = .ok (.ifCond .ne 9, 3) := by decide +kernel
theorem dX7_undo_7 : decode cX7_undo 7 = .ok (.aload_n 0, 1) := by decide +kernel
theorem dX7_undo_8 : decode cX7_undo 8 = .ok (.iconst 1, 1) := by decide +kernel
theorem dX7_undo_9 : decode cX7_undo 9 = .ok (.invokevirtual 48, 3) := by decide +kernel
theorem dX7_undo_12 : decode cX7_undo 12 = .ok (.ireturn, 1) := by decide +kernel
theorem dX7_undo_13 : decode cX7_undo 13 = .ok (.aload_n 0, 1) := by decide +kernel
theorem dX7_undo_14 : decode cX7_undo 14 = .ok (.dup, 1) := by decide +kernel
theorem dX7_undo_15 : decode cX7_undo 15 = .ok (.getfield 45, 3) := by decide +kernel
theorem dX7_undo_18 : decode cX7_undo 18 = .ok (.iconst 1, 1) := by decide +kernel
theorem dX7_undo_19 : decode cX7_undo 19 = .ok (.isub, 1) := by decide +kernel
theorem dX7_undo_20 : decode cX7_undo 20 = .ok (.putfield 45, 3) := by decide +kernel
theorem dX7_undo_23 : decode cX7_undo 23 = .ok (.iconst 0, 1) := by decide +kernel
theorem dX7_undo_24 : decode cX7_undo 24 = .ok (.istore_n 1, 1) := by decide +kernel
theorem dX7_undo_25 : decode cX7_undo 25 = .ok (.iload_n 1, 1) := by decide +kernel
theorem dX7_undo_26 : decode cX7_undo 26 = .ok (.sipush 486, 3) := by decide +kernel
theorem dX7_undo_29 : decode cX7_undo 29 = .ok (.if_icmp .ge 30, 3) := by decide +kernel
theorem dX7_undo_32 : decode cX7_undo 32 = .ok (.aload_n 0, 1) := by decide +kernel
theorem dX7_undo_33 : decode cX7_undo 33 = .ok (.getfield 7, 3) := by decide +kernel
theorem dX7_undo_36 : decode cX7_undo 36 = .ok (.iload_n 1, 1) := by decide +kernel
theorem dX7_undo_37 : decode cX7_undo 37 = .ok (.aload_n 0, 1) := by decide +kernel
theorem dX7_undo_38 : decode cX7_undo 38 = .ok (.getfield 13, 3) := by decide +kernel
theorem dX7_undo_41 : decode cX7_undo 41 = .ok (.sipush 486, 3) := by decide +kernel
theorem dX7_undo_44 : decode cX7_undo 44 = .ok (.aload_n 0, 1) := by decide +kernel
theorem dX7_undo_45 : decode cX7_undo 45 = .ok (.getfield 45, 3) := by decide +kernel
theorem dX7_undo_48 : decode cX7_undo 48 = .ok (.imul, 1) := by decide +kernel
theorem dX7_undo_49 : decode cX7_undo 49 = .ok (.iload_n 1, 1) := by decide +kernel
theorem dX7_undo_50 : decode cX7_undo 50 = .ok (.iadd, 1) := by decide +kernel
theorem dX7_undo_51 : decode cX7_undo 51 = .ok (.iaload, 1) := by decide +kernel
theorem dX7_undo_52 : decode cX7_undo 52 = .ok (.iastore, 1) := by decide +kernel
theorem dX7_undo_53 : decode cX7_undo 53 = .ok (.iinc 1 1, 3) := by decide +kernel
theorem dX7_undo_56 : decode cX7_undo 56 = .ok (.goto (-31), 3) := by decide +kernel
theorem dX7_undo_59 : decode cX7_undo 59 = .ok (.aload_n 0, 1) := by decide +kernel
theorem dX7_undo_60 : decode cX7_undo 60 = .ok (.aload_n 0, 1) := by decide +kernel
theorem dX7_undo_61 : decode cX7_undo 61 = .ok (.getfield 45, 3) := by decide +kernel
theorem dX7_undo_64 : decode cX7_undo 64 = .ok (.invokevirtual 58, 3) := by decide +kernel
theorem dX7_undo_67 : decode cX7_undo 67 = .ok (.ireturn, 1) := by decide +kernel
theorem dX7_limit_0 : decode cX7_limit 0 = .ok (.aload_n 0, 1) := by decide +kernel
theorem dX7_limit_1 : decode cX7_limit 1 = .ok (.iload_n 1, 1) := by decide +kernel
theorem dX7_limit_2 : decode cX7_limit 2 = .ok (.bipush 8, 2) := by decide +kernel
theorem dX7_limit_4 : decode cX7_limit 4 = .ok (.invokevirtual 61, 3) := by decide +kernel
theorem dX7_limit_7 : decode cX7_limit 7 = .ok (.sipush 1000, 3) := by decide +kernel
theorem dX7_limit_10 : decode cX7_limit 10 = .ok (.aload_n 0, 1) := by decide +kernel
theorem dX7_limit_11 : decode cX7_limit 11 = .ok (.iload_n 1, 1) := by decide +kernel
theorem dX7_limit_12 : decode cX7_limit 12 = .ok (.bipush 10, 2) := by decide +kernel
theorem dX7_limit_14 : decode cX7_limit 14 = .ok (.invokevirtual 61, 3) := by decide +kernel
theorem dX7_limit_17 : decode cX7_limit 17 = .ok (.isub, 1) := by decide +kernel
theorem dX7_limit_18 : decode cX7_limit 18 = .ok (.imul, 1) := by decide +kernel
theorem dX7_limit_19 : decode cX7_limit 19 = .ok (.sipush 1000, 3) := by decide +kernel
theorem dX7_limit_22 : decode cX7_limit 22 = .ok (.idiv, 1) := by decide +kernel
theorem dX7_limit_23 : decode cX7_limit 23 = .ok (.ireturn, 1) := by decide +kernel
theorem dX7_floor_0 : decode cX7_floor 0 = .ok (.aload_n 0, 1) := by decide +kernel
theorem dX7_floor_1 : decode cX7_floor 1 = .ok (.iload_n 1, 1) := by decide +kernel
theorem dX7_floor_2 : decode cX7_floor 2 = .ok (.bipush 9, 2) := by decide +kernel
theorem dX7_floor_4 : decode cX7_floor 4 = .ok (.invokevirtual 61, 3) := by decide +kernel
theorem dX7_floor_7 : decode cX7_floor 7 = .ok (.aload_n 0, 1) := by decide +kernel
theorem dX7_floor_8 : decode cX7_floor 8 = .ok (.iload_n 1, 1) := by decide +kernel
theorem dX7_floor_9 : decode cX7_floor 9 = .ok (.invokevirtual 65, 3) := by decide +kernel
theorem dX7_floor_12 : decode cX7_floor 12 = .ok (.invokestatic 68, 3) := by decide +kernel
theorem dX7_floor_15 : decode cX7_floor 15 = .ok (.ireturn, 1) := by decide +kernel
theorem dX7_pointX_0 : decode cX7_pointX 0 = .ok (.iconst 2, 1) := by decide +kernel
theorem dX7_pointX_1 : decode cX7_pointX 1 = .ok (.aload_n 0, 1) := by decide +kernel
theorem dX7_pointX_2 : decode cX7_pointX 2 = .ok (.iload_n 1, 1) := by decide +kernel
theorem dX7_pointX_3 : decode cX7_pointX 3 = .ok (.iconst 0, 1) := by decide +kernel
theorem dX7_pointX_4 : decode cX7_pointX 4 = .ok (.iload_n 2, 1) := by decide +kernel
theorem dX7_pointX_5 : decode cX7_pointX 5 = .ok (.iconst 4, 1) := by decide +kernel
theorem dX7_pointX_6 : decode cX7_pointX 6 = .ok (.irem, 1) := by decide +kernel
theorem dX7_pointX_7 : decode cX7_pointX 7 = .ok (.iadd, 1) := by decide +kernel
theorem dX7_pointX_8 : decode cX7_pointX 8 = .ok (.invokevirtual 61, 3) := by decide +kernel
theorem dX7_pointX_11 : decode cX7_pointX 11 = .ok (.imul, 1) := by decide +kernel
theorem dX7_pointX_12 : decode cX7_pointX 12 = .ok (.ireturn, 1) := by decide +kernel
theorem dX7_pointY_0 : decode cX7_pointY 0 = .ok (.iconst 2, 1) := by decide +kernel
theorem dX7_pointY_1 : decode cX7_pointY 1 = .ok (.aload_n 0, 1) := by decide +kernel
theorem dX7_pointY_2 : decode cX7_pointY 2 = .ok (.iload_n 1, 1) := by decide +kernel
theorem dX7_pointY_3 : decode cX7_pointY 3 = .ok (.iconst 4, 1) := by decide +kernel
theorem dX7_pointY_4 : decode cX7_pointY 4 = .ok (.iload_n 2, 1) := by decide +kernel
theorem dX7_pointY_5 : decode cX7_pointY 5 = .ok (.iconst 4, 1) := by decide +kernel
theorem dX7_pointY_6 : decode cX7_pointY 6 = .ok (.irem, 1) := by decide +kernel
theorem dX7_pointY_7 : decode cX7_pointY 7 = .ok (.iadd, 1) := by decide +kernel
theorem dX7_pointY_8 : decode cX7_pointY 8 = .ok (.invokevirtual 61, 3) := by decide +kernel
theorem dX7_pointY_11 : decode cX7_pointY 11 = .ok (.imul, 1) := by decide +kernel
theorem dX7_pointY_12 : decode cX7_pointY 12 = .ok (.ireturn, 1) := by decide +kernel
theorem dX7_isGood_0 : decode cX7_isGood 0 = .ok (.iconst 0, 1) := by decide +kernel
theorem dX7_isGood_1 : decode cX7_isGood 1 = .ok (.istore_n 2, 1) := by decide +kernel
theorem dX7_isGood_2 : decode cX7_isGood 2 = .ok (.iconst 0, 1) := by decide +kernel
theorem dX7_isGood_3 : decode cX7_isGood 3 = .ok (.istore_n 3, 1) := by decide +kernel
theorem dX7_isGood_4 : decode cX7_isGood 4 = .ok (.iload_n 3, 1) := by decide +kernel
theorem dX7_isGood_5 : decode cX7_isGood 5 = .ok (.iconst 4, 1) := by decide +kernel
theorem dX7_isGood_6 : decode cX7_isGood 6 = .ok (.if_icmp .ge 131, 3) := by decide +kernel
theorem dX7_isGood_9 : decode cX7_isGood 9 = .ok (.aload_n 0, 1) := by decide +kernel
theorem dX7_isGood_10 : decode cX7_isGood 10 = .ok (.iload_n 1, 1) := by decide +kernel
theorem dX7_isGood_11 : decode cX7_isGood 11 = .ok (.iload_n 3, 1) := by decide +kernel
theorem dX7_isGood_12 : decode cX7_isGood 12 = .ok (.iconst 1, 1) := by decide +kernel
theorem dX7_isGood_13 : decode cX7_isGood 13 = .ok (.iadd, 1) := by decide +kernel
theorem dX7_isGood_14 : decode cX7_isGood 14 = .ok (.invokevirtual 71, 3) := by decide +kernel
theorem dX7_isGood_17 : decode cX7_isGood 17 = .ok (.aload_n 0, 1) := by decide +kernel
theorem dX7_isGood_18 : decode cX7_isGood 18 = .ok (.iload_n 1, 1) := by decide +kernel
theorem dX7_isGood_19 : decode cX7_isGood 19 = .ok (.iload_n 3, 1) := by decide +kernel
theorem dX7_isGood_20 : decode cX7_isGood 20 = .ok (.invokevirtual 71, 3) := by decide +kernel
theorem dX7_isGood_23 : decode cX7_isGood 23 = .ok (.isub, 1) := by decide +kernel
theorem dX7_isGood_24 : decode cX7_isGood 24 = .ok (.istore 4, 2) := by decide +kernel
theorem dX7_isGood_26 : decode cX7_isGood 26 = .ok (.aload_n 0, 1) := by decide +kernel
theorem dX7_isGood_27 : decode cX7_isGood 27 = .ok (.iload_n 1, 1) := by decide +kernel
theorem dX7_isGood_28 : decode cX7_isGood 28 = .ok (.iload_n 3, 1) := by decide +kernel
theorem dX7_isGood_29 : decode cX7_isGood 29 = .ok (.iconst 1, 1) := by decide +kernel
theorem dX7_isGood_30 : decode cX7_isGood 30 = .ok (.iadd, 1) := by decide +kernel
theorem dX7_isGood_31 : decode cX7_isGood 31 = .ok (.invokevirtual 74, 3) := by decide +kernel
theorem dX7_isGood_34 : decode cX7_isGood 34 = .ok (.aload_n 0, 1) := by decide +kernel
theorem dX7_isGood_35 : decode cX7_isGood 35 = .ok (.iload_n 1, 1) := by decide +kernel
theorem dX7_isGood_36 : decode cX7_isGood 36 = .ok (.iload_n 3, 1) := by decide +kernel
theorem dX7_isGood_37 : decode cX7_isGood 37 = .ok (.invokevirtual 74, 3) := by decide +kernel
theorem dX7_isGood_40 : decode cX7_isGood 40 = .ok (.isub, 1) := by decide +kernel
theorem dX7_isGood_41 : decode cX7_isGood 41 = .ok (.istore 5, 2) := by decide +kernel
theorem dX7_isGood_43 : decode cX7_isGood 43 = .ok (.aload_n 0, 1) := by decide +kernel
theorem dX7_isGood_44 : decode cX7_isGood 44 = .ok (.iload_n 1, 1) := by decide +kernel
theorem dX7_isGood_45 : decode cX7_isGood 45 = .ok (.iload_n 3, 1) := by decide +kernel
theorem dX7_isGood_46 : decode cX7_isGood 46 = .ok (.iconst 2, 1) := by decide +kernel
theorem dX7_isGood_47 : decode cX7_isGood 47 = .ok (.iadd, 1) := by decide +kernel
theorem dX7_isGood_48 : decode cX7_isGood 48 = .ok (.invokevirtual 71, 3) := by decide +kernel
theorem dX7_isGood_51 : decode cX7_isGood 51 = .ok (.aload_n 0, 1) := by decide +kernel
theorem dX7_isGood_52 : decode cX7_isGood 52 = .ok (.iload_n 1, 1) := by decide +kernel
theorem dX7_isGood_53 : decode cX7_isGood 53 = .ok (.iload_n 3, 1) := by decide +kernel
theorem dX7_isGood_54 : decode cX7_isGood 54 = .ok (.iconst 1, 1) := by decide +kernel
theorem dX7_isGood_55 : decode cX7_isGood 55 = .ok (.iadd, 1) := by decide +kernel
theorem dX7_isGood_56 : decode cX7_isGood 56 = .ok (.invokevirtual 71, 3) := by decide +kernel
theorem dX7_isGood_59 : decode cX7_isGood 59 = .ok (.isub, 1) := by decide +kernel
theorem dX7_isGood_60 : decode cX7_isGood 60 = .ok (.istore 6, 2) := by decide +kernel
theorem dX7_isGood_62 : decode cX7_isGood 62 = .ok (.aload_n 0, 1) := by decide +kernel
theorem dX7_isGood_63 : decode cX7_isGood 63 = .ok (.iload_n 1, 1) := by decide +kernel
theorem dX7_isGood_64 : decode cX7_isGood 64 = .ok (.iload_n 3, 1) := by decide +kernel
theorem dX7_isGood_65 : decode cX7_isGood 65 = .ok (.iconst 2, 1) := by decide +kernel
theorem dX7_isGood_66 : decode cX7_isGood 66 = .ok (.iadd, 1) := by decide +kernel
theorem dX7_isGood_67 : decode cX7_isGood 67 = .ok (.invokevirtual 74, 3) := by decide +kernel
theorem dX7_isGood_70 : decode cX7_isGood 70 = .ok (.aload_n 0, 1) := by decide +kernel
theorem dX7_isGood_71 : decode cX7_isGood 71 = .ok (.iload_n 1, 1) := by decide +kernel
theorem dX7_isGood_72 : decode cX7_isGood 72 = .ok (.iload_n 3, 1) := by decide +kernel
theorem dX7_isGood_73 : decode cX7_isGood 73 = .ok (.iconst 1, 1) := by decide +kernel
theorem dX7_isGood_74 : decode cX7_isGood 74 = .ok (.iadd, 1) := by decide +kernel
theorem dX7_isGood_75 : decode cX7_isGood 75 = .ok (.invokevirtual 74, 3) := by decide +kernel
theorem dX7_isGood_78 : decode cX7_isGood 78 = .ok (.isub, 1) := by decide +kernel
theorem dX7_isGood_79 : decode cX7_isGood 79 = .ok (.istore 7, 2) := by decide +kernel
theorem dX7_isGood_81 : decode cX7_isGood 81 = .ok (.iload 4, 2) := by decide +kernel
theorem dX7_isGood_83 : decode cX7_isGood 83 = .ok (.iload 7, 2) := by decide +kernel
theorem dX7_isGood_85 : decode cX7_isGood 85 = .ok (.imul, 1) := by decide +kernel
theorem dX7_isGood_86 : decode cX7_isGood 86 = .ok (.iload 5, 2) := by decide +kernel
theorem dX7_isGood_88 : decode cX7_isGood 88 = .ok (.iload 6, 2) := by decide +kernel
theorem dX7_isGood_90 : decode cX7_isGood 90 = .ok (.imul, 1) := by decide +kernel
theorem dX7_isGood_91 : decode cX7_isGood 91 = .ok (.isub, 1) := by decide +kernel
theorem dX7_isGood_92 : decode cX7_isGood 92 = .ok (.ifCond .ge 5, 3) := by decide +kernel
theorem dX7_isGood_95 : decode cX7_isGood 95 = .ok (.iconst 0, 1) := by decide +kernel
theorem dX7_isGood_96 : decode cX7_isGood 96 = .ok (.ireturn, 1) := by decide +kernel
theorem dX7_isGood_97 : decode cX7_isGood 97 = .ok (.iload_n 2, 1) := by decide +kernel
theorem dX7_isGood_98 : decode cX7_isGood 98 = .ok (.aload_n 0, 1) := by decide +kernel
theorem dX7_isGood_99 : decode cX7_isGood 99 = .ok (.iload_n 1, 1) := by decide +kernel
theorem dX7_isGood_100 : decode cX7_isGood 100 = .ok (.iload_n 3, 1) := by decide +kernel
theorem dX7_isGood_101 : decode cX7_isGood 101 = .ok (.invokevirtual 71, 3) := by decide +kernel
theorem dX7_isGood_104 : decode cX7_isGood 104 = .ok (.aload_n 0, 1) := by decide +kernel
theorem dX7_isGood_105 : decode cX7_isGood 105 = .ok (.iload_n 1, 1) := by decide +kernel
theorem dX7_isGood_106 : decode cX7_isGood 106 = .ok (.iload_n 3, 1) := by decide +kernel
theorem dX7_isGood_107 : decode cX7_isGood 107 = .ok (.iconst 1, 1) := by decide +kernel
theorem dX7_isGood_108 : decode cX7_isGood 108 = .ok (.iadd, 1) := by decide +kernel
theorem dX7_isGood_109 : decode cX7_isGood 109 = .ok (.invokevirtual 74, 3) := by decide +kernel
theorem dX7_isGood_112 : decode cX7_isGood 112 = .ok (.imul, 1) := by decide +kernel
theorem dX7_isGood_113 : decode cX7_isGood 113 = .ok (.aload_n 0, 1) := by decide +kernel
theorem dX7_isGood_114 : decode cX7_isGood 114 = .ok (.iload_n 1, 1) := by decide +kernel
theorem dX7_isGood_115 : decode cX7_isGood 115 = .ok (.iload_n 3, 1) := by decide +kernel
theorem dX7_isGood_116 : decode cX7_isGood 116 = .ok (.invokevirtual 74, 3) := by decide +kernel
theorem dX7_isGood_119 : decode cX7_isGood 119 = .ok (.aload_n 0, 1) := by decide +kernel
theorem dX7_isGood_120 : decode cX7_isGood 120 = .ok (.iload_n 1, 1) := by decide +kernel
theorem dX7_isGood_121 : decode cX7_isGood 121 = .ok (.iload_n 3, 1) := by decide +kernel
theorem dX7_isGood_122 : decode cX7_isGood 122 = .ok (.iconst 1, 1) := by decide +kernel
theorem dX7_isGood_123 : decode cX7_isGood 123 = .ok (.iadd, 1) := by decide +kernel
theorem dX7_isGood_124 : decode cX7_isGood 124 = .ok (.invokevirtual 71, 3) := by decide +kernel
theorem dX7_isGood_127 : decode cX7_isGood 127 = .ok (.imul, 1) := by decide +kernel
theorem dX7_isGood_128 : decode cX7_isGood 128 = .ok (.isub, 1) := by decide +kernel
theorem dX7_isGood_129 : decode cX7_isGood 129 = .ok (.iadd, 1) := by decide +kernel
theorem dX7_isGood_130 : decode cX7_isGood 130 = .ok (.istore_n 2, 1) := by decide +kernel
theorem dX7_isGood_131 : decode cX7_isGood 131 = .ok (.iinc 3 1, 3) := by decide +kernel
theorem dX7_isGood_134 : decode cX7_isGood 134 = .ok (.goto (-130), 3) := by decide +kernel
theorem dX7_isGood_137 : decode cX7_isGood 137 = .ok (.iload_n 2, 1) := by decide +kernel
theorem dX7_isGood_138 : decode cX7_isGood 138 = .ok (.ifCond .le 7, 3) := by decide +kernel
theorem dX7_isGood_141 : decode cX7_isGood 141 = .ok (.iconst 1, 1) := by decide +kernel
theorem dX7_isGood_142 : decode cX7_isGood 142 = .ok (.goto 4, 3) := by decide +kernel
theorem dX7_isGood_145 : decode cX7_isGood 145 = .ok (.iconst 0, 1) := by decide +kernel
theorem dX7_isGood_146 : decode cX7_isGood 146 = .ok (.ireturn, 1) := by decide +kernel
theorem dX7_weightAt_0 : decode cX7_weightAt 0 = .ok (.iconst (-1), 1) := by decide +kernel
theorem dX7_weightAt_1 : decode cX7_weightAt 1 = .ok (.istore 4, 2) := by decide +kernel
theorem dX7_weightAt_3 : decode cX7_weightAt 3 = .ok (.iconst 0, 1) := by decide +kernel
theorem dX7_weightAt_4 : decode cX7_weightAt 4 = .ok (.istore 5, 2) := by decide +kernel
theorem dX7_weightAt_6 : decode cX7_weightAt 6 = .ok (.iload 5, 2) := by decide +kernel
theorem dX7_weightAt_8 : decode cX7_weightAt 8 = .ok (.iconst 4, 1) := by decide +kernel
theorem dX7_weightAt_9 : decode cX7_weightAt 9 = .ok (.if_icmp .ge 136, 3) := by decide +kernel
theorem dX7_weightAt_12 : decode cX7_weightAt 12 = .ok (.aload_n 0, 1) := by decide +kernel
theorem dX7_weightAt_13 : decode cX7_weightAt 13 = .ok (.iload_n 1, 1) := by decide +kernel
theorem dX7_weightAt_14 : decode cX7_weightAt 14 = .ok (.iload 5, 2) := by decide +kernel
theorem dX7_weightAt_16 : decode cX7_weightAt 16 = .ok (.iconst 1, 1) := by decide +kernel
theorem dX7_weightAt_17 : decode cX7_weightAt 17 = .ok (.iadd, 1) := by decide +kernel
theorem dX7_weightAt_18 : decode cX7_weightAt 18 = .ok (.invokevirtual 71, 3) := by decide +kernel
theorem dX7_weightAt_21 : decode cX7_weightAt 21 = .ok (.aload_n 0, 1) := by decide +kernel
theorem dX7_weightAt_22 : decode cX7_weightAt 22 = .ok (.iload_n 1, 1) := by decide +kernel
theorem dX7_weightAt_23 : decode cX7_weightAt 23 = .ok (.iload 5, 2) := by decide +kernel
theorem dX7_weightAt_25 : decode cX7_weightAt 25 = .ok (.invokevirtual 71, 3) := by decide +kernel
theorem dX7_weightAt_28 : decode cX7_weightAt 28 = .ok (.isub, 1) := by decide +kernel
theorem dX7_weightAt_29 : decode cX7_weightAt 29 = .ok (.istore 6, 2) := by decide +kernel
theorem dX7_weightAt_31 : decode cX7_weightAt 31 = .ok (.aload_n 0, 1) := by decide +kernel
theorem dX7_weightAt_32 : decode cX7_weightAt 32 = .ok (.iload_n 1, 1) := by decide +kernel
theorem dX7_weightAt_33 : decode cX7_weightAt 33 = .ok (.iload 5, 2) := by decide +kernel
theorem dX7_weightAt_35 : decode cX7_weightAt 35 = .ok (.iconst 1, 1) := by decide +kernel
theorem dX7_weightAt_36 : decode cX7_weightAt 36 = .ok (.iadd, 1) := by decide +kernel
theorem dX7_weightAt_37 : decode cX7_weightAt 37 = .ok (.invokevirtual 74, 3) := by decide +kernel
theorem dX7_weightAt_40 : decode cX7_weightAt 40 = .ok (.aload_n 0, 1) := by decide +kernel
theorem dX7_weightAt_41 : decode cX7_weightAt 41 = .ok (.iload_n 1, 1) := by decide +kernel
theorem dX7_weightAt_42 : decode cX7_weightAt 42 = .ok (.iload 5, 2) := by decide +kernel
theorem dX7_weightAt_44 : decode cX7_weightAt 44 = .ok (.invokevirtual 74, 3) := by decide +kernel
theorem dX7_weightAt_47 : decode cX7_weightAt 47 = .ok (.isub, 1) := by decide +kernel
theorem dX7_weightAt_48 : decode cX7_weightAt 48 = .ok (.istore 7, 2) := by decide +kernel
theorem dX7_weightAt_50 : decode cX7_weightAt 50 = .ok (.iload 6, 2) := by decide +kernel
theorem dX7_weightAt_52 : decode cX7_weightAt 52 = .ok (.iload_n 3, 1) := by decide +kernel
theorem dX7_weightAt_53 : decode cX7_weightAt 53 = .ok (.aload_n 0, 1) := by decide +kernel
theorem dX7_weightAt_54 : decode cX7_weightAt 54 = .ok (.iload_n 1, 1) := by decide +kernel
theorem dX7_weightAt_55 : decode cX7_weightAt 55 = .ok (.iload 5, 2) := by decide +kernel
theorem dX7_weightAt_57 : decode cX7_weightAt 57 = .ok (.invokevirtual 74, 3) := by decide +kernel
theorem dX7_weightAt_60 : decode cX7_weightAt 60 = .ok (.isub, 1) := by decide +kernel
theorem dX7_weightAt_61 : decode cX7_weightAt 61 = .ok (.imul, 1) := by decide +kernel
theorem dX7_weightAt_62 : decode cX7_weightAt 62 = .ok (.iload 7, 2) := by decide +kernel
theorem dX7_weightAt_64 : decode cX7_weightAt 64 = .ok (.iload_n 2, 1) := by decide +kernel
theorem dX7_weightAt_65 : decode cX7_weightAt 65 = .ok (.aload_n 0, 1) := by decide +kernel
theorem dX7_weightAt_66 : decode cX7_weightAt 66 = .ok (.iload_n 1, 1) := by decide +kernel
theorem dX7_weightAt_67 : decode cX7_weightAt 67 = .ok (.iload 5, 2) := by decide +kernel
theorem dX7_weightAt_69 : decode cX7_weightAt 69 = .ok (.invokevirtual 71, 3) := by decide +kernel
theorem dX7_weightAt_72 : decode cX7_weightAt 72 = .ok (.isub, 1) := by decide +kernel
theorem dX7_weightAt_73 : decode cX7_weightAt 73 = .ok (.imul, 1) := by decide +kernel
theorem dX7_weightAt_74 : decode cX7_weightAt 74 = .ok (.isub, 1) := by decide +kernel
theorem dX7_weightAt_75 : decode cX7_weightAt 75 = .ok (.istore 8, 2) := by decide +kernel
theorem dX7_weightAt_77 : decode cX7_weightAt 77 = .ok (.iload 8, 2) := by decide +kernel
theorem dX7_weightAt_79 : decode cX7_weightAt 79 = .ok (.ifCond .ge 5, 3) := by decide +kernel
theorem dX7_weightAt_82 : decode cX7_weightAt 82 = .ok (.iconst 0, 1) := by decide +kernel
theorem dX7_weightAt_83 : decode cX7_weightAt 83 = .ok (.ireturn, 1) := by decide +kernel
theorem dX7_weightAt_84 : decode cX7_weightAt 84 = .ok (.iload 6, 2) := by decide +kernel
theorem dX7_weightAt_86 : decode cX7_weightAt 86 = .ok (.invokestatic 77, 3) := by decide +kernel
theorem dX7_weightAt_89 : decode cX7_weightAt 89 = .ok (.iload 7, 2) := by decide +kernel
theorem dX7_weightAt_91 : decode cX7_weightAt 91 = .ok (.invokestatic 77, 3) := by decide +kernel
theorem dX7_weightAt_94 : decode cX7_weightAt 94 = .ok (.iadd, 1) := by decide +kernel
theorem dX7_weightAt_95 : decode cX7_weightAt 95 = .ok (.istore 9, 2) := by decide +kernel
theorem dX7_weightAt_97 : decode cX7_weightAt 97 = .ok (.iload 9, 2) := by decide +kernel
theorem dX7_weightAt_99 : decode cX7_weightAt 99 = .ok (.ifCond .ne 7, 3) := by decide +kernel
theorem dX7_weightAt_102 : decode cX7_weightAt 102 = .ok (.iconst (-1), 1) := by decide +kernel
theorem dX7_weightAt_103 : decode cX7_weightAt 103 = .ok (.goto 8, 3) := by decide +kernel
theorem dX7_weightAt_106 : decode cX7_weightAt 106 = .ok (.iload 8, 2) := by decide +kernel
theorem dX7_weightAt_108 : decode cX7_weightAt 108 = .ok (.iload 9, 2) := by decide +kernel
theorem dX7_weightAt_110 : decode cX7_weightAt 110 = .ok (.idiv, 1) := by decide +kernel
theorem dX7_weightAt_111 : decode cX7_weightAt 111 = .ok (.istore 10, 2) := by decide +kernel
theorem dX7_weightAt_113 : decode cX7_weightAt 113 = .ok (.iload 10, 2) := by decide +kernel
theorem dX7_weightAt_115 : decode cX7_weightAt 115 = .ok (.ifCond .lt 20, 3) := by decide +kernel
theorem dX7_weightAt_118 : decode cX7_weightAt 118 = .ok (.iload 4, 2) := by decide +kernel
theorem dX7_weightAt_120 : decode cX7_weightAt 120 = .ok (.ifCond .lt 10, 3) := by decide +kernel
theorem dX7_weightAt_123 : decode cX7_weightAt 123 = .ok (.iload 10, 2) := by decide +kernel
theorem dX7_weightAt_125 : decode cX7_weightAt 125 = .ok (.iload 4, 2) := by decide +kernel
theorem dX7_weightAt_127 : decode cX7_weightAt 127 = .ok (.if_icmp .ge 8, 3) := by decide +kernel
theorem dX7_weightAt_130 : decode cX7_weightAt 130 = .ok (.iload 10, 2) := by decide +kernel
theorem dX7_weightAt_132 : decode cX7_weightAt 132 = .ok (.goto 5, 3) := by decide +kernel
theorem dX7_weightAt_135 : decode cX7_weightAt 135 = .ok (.iload 4, 2) := by decide +kernel
theorem dX7_weightAt_137 : decode cX7_weightAt 137 = .ok (.istore 4, 2) := by decide +kernel
theorem dX7_weightAt_139 : decode cX7_weightAt 139 = .ok (.iinc 5 1, 3) := by decide +kernel
theorem dX7_weightAt_142 : decode cX7_weightAt 142 = .ok (.goto (-136), 3) := by decide +kernel
theorem dX7_weightAt_145 : decode cX7_weightAt 145 = .ok (.iconst 1, 1) := by decide +kernel
theorem dX7_weightAt_146 : decode cX7_weightAt 146 = .ok (.iload 4, 2) := by decide +kernel
theorem dX7_weightAt_148 : decode cX7_weightAt 148 = .ok (.iadd, 1) := by decide +kernel
theorem dX7_weightAt_149 : decode cX7_weightAt 149 = .ok (.ireturn, 1) := by decide +kernel
theorem dX7_weighs_0 : decode cX7_weighs 0 = .ok (.iconst 2, 1) := by decide +kernel
theorem dX7_weighs_1 : decode cX7_weighs 1 = .ok (.iload_n 1, 1) := by decide +kernel
theorem dX7_weighs_2 : decode cX7_weighs 2 = .ok (.aload_n 0, 1) := by decide +kernel
theorem dX7_weighs_3 : decode cX7_weighs 3 = .ok (.getfield 7, 3) := by decide +kernel
theorem dX7_weighs_6 : decode cX7_weighs 6 = .ok (.iconst 2, 1) := by decide +kernel
theorem dX7_weighs_7 : decode cX7_weighs 7 = .ok (.iaload, 1) := by decide +kernel
theorem dX7_weighs_8 : decode cX7_weighs 8 = .ok (.iadd, 1) := by decide +kernel
theorem dX7_weighs_9 : decode cX7_weighs 9 = .ok (.imul, 1) := by decide +kernel
theorem dX7_weighs_10 : decode cX7_weighs 10 = .ok (.iconst 1, 1) := by decide +kernel
theorem dX7_weighs_11 : decode cX7_weighs 11 = .ok (.iadd, 1) := by decide +kernel
theorem dX7_weighs_12 : decode cX7_weighs 12 = .ok (.istore_n 3, 1) := by decide +kernel
theorem dX7_weighs_13 : decode cX7_weighs 13 = .ok (.iconst 2, 1) := by decide +kernel
theorem dX7_weighs_14 : decode cX7_weighs 14 = .ok (.iload_n 2, 1) := by decide +kernel
theorem dX7_weighs_15 : decode cX7_weighs 15 = .ok (.aload_n 0, 1) := by decide +kernel
theorem dX7_weighs_16 : decode cX7_weighs 16 = .ok (.getfield 7, 3) := by decide +kernel
theorem dX7_weighs_19 : decode cX7_weighs 19 = .ok (.iconst 3, 1) := by decide +kernel
theorem dX7_weighs_20 : decode cX7_weighs 20 = .ok (.iaload, 1) := by decide +kernel
theorem dX7_weighs_21 : decode cX7_weighs 21 = .ok (.iadd, 1) := by decide +kernel
theorem dX7_weighs_22 : decode cX7_weighs 22 = .ok (.imul, 1) := by decide +kernel
theorem dX7_weighs_23 : decode cX7_weighs 23 = .ok (.iconst 1, 1) := by decide +kernel
theorem dX7_weighs_24 : decode cX7_weighs 24 = .ok (.iadd, 1) := by decide +kernel
theorem dX7_weighs_25 : decode cX7_weighs 25 = .ok (.istore 4, 2) := by decide +kernel
theorem dX7_weighs_27 : decode cX7_weighs 27 = .ok (.aload_n 0, 1) := by decide +kernel
theorem dX7_weighs_28 : decode cX7_weighs 28 = .ok (.iconst 0, 1) := by decide +kernel
theorem dX7_weighs_29 : decode cX7_weighs 29 = .ok (.putfield 80, 3) := by decide +kernel
theorem dX7_weighs_32 : decode cX7_weighs 32 = .ok (.iconst 0, 1) := by decide +kernel
theorem dX7_weighs_33 : decode cX7_weighs 33 = .ok (.istore 5, 2) := by decide +kernel
theorem dX7_weighs_35 : decode cX7_weighs 35 = .ok (.iload 5, 2) := by decide +kernel
theorem dX7_weighs_37 : decode cX7_weighs 37 = .ok (.aload_n 0, 1) := by decide +kernel
theorem dX7_weighs_38 : decode cX7_weighs 38 = .ok (.getfield 7, 3) := by decide +kernel
theorem dX7_weighs_41 : decode cX7_weighs 41 = .ok (.iconst 4, 1) := by decide +kernel
theorem dX7_weighs_42 : decode cX7_weighs 42 = .ok (.iaload, 1) := by decide +kernel
theorem dX7_weighs_43 : decode cX7_weighs 43 = .ok (.if_icmp .ge 98, 3) := by decide +kernel
theorem dX7_weighs_46 : decode cX7_weighs 46 = .ok (.aload_n 0, 1) := by decide +kernel
theorem dX7_weighs_47 : decode cX7_weighs 47 = .ok (.iload 5, 2) := by decide +kernel
theorem dX7_weighs_49 : decode cX7_weighs 49 = .ok (.bipush 11, 2) := by decide +kernel
theorem dX7_weighs_51 : decode cX7_weighs 51 = .ok (.invokevirtual 61, 3) := by decide +kernel
theorem dX7_weighs_54 : decode cX7_weighs 54 = .ok (.iconst 1, 1) := by decide +kernel
theorem dX7_weighs_55 : decode cX7_weighs 55 = .ok (.if_icmp .ne 25, 3) := by decide +kernel
theorem dX7_weighs_58 : decode cX7_weighs 58 = .ok (.iload 5, 2) := by decide +kernel
theorem dX7_weighs_60 : decode cX7_weighs 60 = .ok (.aload_n 0, 1) := by decide +kernel
theorem dX7_weighs_61 : decode cX7_weighs 61 = .ok (.getfield 22, 3) := by decide +kernel
theorem dX7_weighs_64 : decode cX7_weighs 64 = .ok (.if_icmp .eq 16, 3) := by decide +kernel
theorem dX7_weighs_67 : decode cX7_weighs 67 = .ok (.aload_n 0, 1) := by decide +kernel
theorem dX7_weighs_68 : decode cX7_weighs 68 = .ok (.iload 5, 2) := by decide +kernel
theorem dX7_weighs_70 : decode cX7_weighs 70 = .ok (.invokevirtual 83, 3) := by decide +kernel
theorem dX7_weighs_73 : decode cX7_weighs 73 = .ok (.ifCond .eq 7, 3) := by decide +kernel
theorem dX7_weighs_76 : decode cX7_weighs 76 = .ok (.iconst 1, 1) := by decide +kernel
theorem dX7_weighs_77 : decode cX7_weighs 77 = .ok (.goto 4, 3) := by decide +kernel
theorem dX7_weighs_80 : decode cX7_weighs 80 = .ok (.iconst 0, 1) := by decide +kernel
theorem dX7_weighs_81 : decode cX7_weighs 81 = .ok (.istore 6, 2) := by decide +kernel
theorem dX7_weighs_83 : decode cX7_weighs 83 = .ok (.aload_n 0, 1) := by decide +kernel
theorem dX7_weighs_84 : decode cX7_weighs 84 = .ok (.getfield 26, 3) := by decide +kernel
theorem dX7_weighs_87 : decode cX7_weighs 87 = .ok (.iload 5, 2) := by decide +kernel
theorem dX7_weighs_89 : decode cX7_weighs 89 = .ok (.iload 6, 2) := by decide +kernel
theorem dX7_weighs_91 : decode cX7_weighs 91 = .ok (.ifCond .eq 15, 3) := by decide +kernel
theorem dX7_weighs_94 : decode cX7_weighs 94 = .ok (.aload_n 0, 1) := by decide +kernel
theorem dX7_weighs_95 : decode cX7_weighs 95 = .ok (.iload 5, 2) := by decide +kernel
theorem dX7_weighs_97 : decode cX7_weighs 97 = .ok (.iload_n 3, 1) := by decide +kernel
theorem dX7_weighs_98 : decode cX7_weighs 98 = .ok (.iload 4, 2) := by decide +kernel
theorem dX7_weighs_100 : decode cX7_weighs 100 = .ok (.invokevirtual 87, 3) := by decide +kernel
theorem dX7_weighs_103 : decode cX7_weighs 103 = .ok (.goto 4, 3) := by decide +kernel
theorem dX7_weighs_106 : decode cX7_weighs 106 = .ok (.iconst 0, 1) := by decide +kernel
theorem dX7_weighs_107 : decode cX7_weighs 107 = .ok (.iastore, 1) := by decide +kernel
theorem dX7_weighs_108 : decode cX7_weighs 108 = .ok (.aload_n 0, 1) := by decide +kernel
theorem dX7_weighs_109 : decode cX7_weighs 109 = .ok (.dup, 1) := by decide +kernel
theorem dX7_weighs_110 : decode cX7_weighs 110 = .ok (.getfield 80, 3) := by decide +kernel
theorem dX7_weighs_113 : decode cX7_weighs 113 = .ok (.aload_n 0, 1) := by decide +kernel
theorem dX7_weighs_114 : decode cX7_weighs 114 = .ok (.getfield 26, 3) := by decide +kernel
theorem dX7_weighs_117 : decode cX7_weighs 117 = .ok (.iload 5, 2) := by decide +kernel
theorem dX7_weighs_119 : decode cX7_weighs 119 = .ok (.iaload, 1) := by decide +kernel
theorem dX7_weighs_120 : decode cX7_weighs 120 = .ok (.ifCond .le 10, 3) := by decide +kernel
theorem dX7_weighs_123 : decode cX7_weighs 123 = .ok (.iconst 1, 1) := by decide +kernel
theorem dX7_weighs_124 : decode cX7_weighs 124 = .ok (.iload 5, 2) := by decide +kernel
theorem dX7_weighs_126 : decode cX7_weighs 126 = .ok (.ishl, 1) := by decide +kernel
theorem dX7_weighs_127 : decode cX7_weighs 127 = .ok (.goto 4, 3) := by decide +kernel
theorem dX7_weighs_130 : decode cX7_weighs 130 = .ok (.iconst 0, 1) := by decide +kernel
theorem dX7_weighs_131 : decode cX7_weighs 131 = .ok (.ior, 1) := by decide +kernel
theorem dX7_weighs_132 : decode cX7_weighs 132 = .ok (.putfield 80, 3) := by decide +kernel
theorem dX7_weighs_135 : decode cX7_weighs 135 = .ok (.iinc 5 1, 3) := by decide +kernel
theorem dX7_weighs_138 : decode cX7_weighs 138 = .ok (.goto (-103), 3) := by decide +kernel
theorem dX7_weighs_141 : decode cX7_weighs 141 = .ok (.return_, 1) := by decide +kernel
theorem dX7_isOn_0 : decode cX7_isOn 0 = .ok (.aload_n 0, 1) := by decide +kernel
theorem dX7_isOn_1 : decode cX7_isOn 1 = .ok (.getfield 80, 3) := by decide +kernel
theorem dX7_isOn_4 : decode cX7_isOn 4 = .ok (.iload_n 1, 1) := by decide +kernel
theorem dX7_isOn_5 : decode cX7_isOn 5 = .ok (.ishr, 1) := by decide +kernel
theorem dX7_isOn_6 : decode cX7_isOn 6 = .ok (.iconst 1, 1) := by decide +kernel
theorem dX7_isOn_7 : decode cX7_isOn 7 = .ok (.iand, 1) := by decide +kernel
theorem dX7_isOn_8 : decode cX7_isOn 8 = .ok (.iconst 1, 1) := by decide +kernel
theorem dX7_isOn_9 : decode cX7_isOn 9 = .ok (.if_icmp .ne 7, 3) := by decide +kernel
theorem dX7_isOn_12 : decode cX7_isOn 12 = .ok (.iconst 1, 1) := by decide +kernel
theorem dX7_isOn_13 : decode cX7_isOn 13 = .ok (.goto 4, 3) := by decide +kernel
theorem dX7_isOn_16 : decode cX7_isOn 16 = .ok (.iconst 0, 1) := by decide +kernel
theorem dX7_isOn_17 : decode cX7_isOn 17 = .ok (.ireturn, 1) := by decide +kernel
theorem dX7_shares_0 : decode cX7_shares 0 = .ok (.iconst 0, 1) := by decide +kernel
theorem dX7_shares_1 : decode cX7_shares 1 = .ok (.istore_n 2, 1) := by decide +kernel
theorem dX7_shares_2 : decode cX7_shares 2 = .ok (.iconst (-1), 1) := by decide +kernel
theorem dX7_shares_3 : decode cX7_shares 3 = .ok (.istore_n 3, 1) := by decide +kernel
theorem dX7_shares_4 : decode cX7_shares 4 = .ok (.iconst 0, 1) := by decide +kernel
theorem dX7_shares_5 : decode cX7_shares 5 = .ok (.istore 4, 2) := by decide +kernel
theorem dX7_shares_7 : decode cX7_shares 7 = .ok (.iload 4, 2) := by decide +kernel
theorem dX7_shares_9 : decode cX7_shares 9 = .ok (.aload_n 0, 1) := by decide +kernel
theorem dX7_shares_10 : decode cX7_shares 10 = .ok (.getfield 7, 3) := by decide +kernel
theorem dX7_shares_13 : decode cX7_shares 13 = .ok (.iconst 4, 1) := by decide +kernel
theorem dX7_shares_14 : decode cX7_shares 14 = .ok (.iaload, 1) := by decide +kernel
theorem dX7_shares_15 : decode cX7_shares 15 = .ok (.if_icmp .ge 55, 3) := by decide +kernel
theorem dX7_shares_18 : decode cX7_shares 18 = .ok (.iload_n 2, 1) := by decide +kernel
theorem dX7_shares_19 : decode cX7_shares 19 = .ok (.aload_n 0, 1) := by decide +kernel
theorem dX7_shares_20 : decode cX7_shares 20 = .ok (.getfield 26, 3) := by decide +kernel
theorem dX7_shares_23 : decode cX7_shares 23 = .ok (.iload 4, 2) := by decide +kernel
theorem dX7_shares_25 : decode cX7_shares 25 = .ok (.iaload, 1) := by decide +kernel
theorem dX7_shares_26 : decode cX7_shares 26 = .ok (.iadd, 1) := by decide +kernel
theorem dX7_shares_27 : decode cX7_shares 27 = .ok (.istore_n 2, 1) := by decide +kernel
theorem dX7_shares_28 : decode cX7_shares 28 = .ok (.aload_n 0, 1) := by decide +kernel
theorem dX7_shares_29 : decode cX7_shares 29 = .ok (.iload 4, 2) := by decide +kernel
theorem dX7_shares_31 : decode cX7_shares 31 = .ok (.invokevirtual 91, 3) := by decide +kernel
theorem dX7_shares_34 : decode cX7_shares 34 = .ok (.ifCond .eq 28, 3) := by decide +kernel
theorem dX7_shares_37 : decode cX7_shares 37 = .ok (.iload_n 3, 1) := by decide +kernel
theorem dX7_shares_38 : decode cX7_shares 38 = .ok (.ifCond .lt 19, 3) := by decide +kernel
theorem dX7_shares_41 : decode cX7_shares 41 = .ok (.aload_n 0, 1) := by decide +kernel
theorem dX7_shares_42 : decode cX7_shares 42 = .ok (.getfield 26, 3) := by decide +kernel
theorem dX7_shares_45 : decode cX7_shares 45 = .ok (.iload 4, 2) := by decide +kernel
theorem dX7_shares_47 : decode cX7_shares 47 = .ok (.iaload, 1) := by decide +kernel
theorem dX7_shares_48 : decode cX7_shares 48 = .ok (.aload_n 0, 1) := by decide +kernel
theorem dX7_shares_49 : decode cX7_shares 49 = .ok (.getfield 26, 3) := by decide +kernel
theorem dX7_shares_52 : decode cX7_shares 52 = .ok (.iload_n 3, 1) := by decide +kernel
theorem dX7_shares_53 : decode cX7_shares 53 = .ok (.iaload, 1) := by decide +kernel
theorem dX7_shares_54 : decode cX7_shares 54 = .ok (.if_icmp .le 8, 3) := by decide +kernel
theorem dX7_shares_57 : decode cX7_shares 57 = .ok (.iload 4, 2) := by decide +kernel
theorem dX7_shares_59 : decode cX7_shares 59 = .ok (.goto 4, 3) := by decide +kernel
theorem dX7_shares_62 : decode cX7_shares 62 = .ok (.iload_n 3, 1) := by decide +kernel
theorem dX7_shares_63 : decode cX7_shares 63 = .ok (.istore_n 3, 1) := by decide +kernel
theorem dX7_shares_64 : decode cX7_shares 64 = .ok (.iinc 4 1, 3) := by decide +kernel
theorem dX7_shares_67 : decode cX7_shares 67 = .ok (.goto (-60), 3) := by decide +kernel
theorem dX7_shares_70 : decode cX7_shares 70 = .ok (.iload_n 1, 1) := by decide +kernel
theorem dX7_shares_71 : decode cX7_shares 71 = .ok (.istore 4, 2) := by decide +kernel
theorem dX7_shares_73 : decode cX7_shares 73 = .ok (.iconst 0, 1) := by decide +kernel
theorem dX7_shares_74 : decode cX7_shares 74 = .ok (.istore 5, 2) := by decide +kernel
theorem dX7_shares_76 : decode cX7_shares 76 = .ok (.iload 5, 2) := by decide +kernel
theorem dX7_shares_78 : decode cX7_shares 78 = .ok (.aload_n 0, 1) := by decide +kernel
theorem dX7_shares_79 : decode cX7_shares 79 = .ok (.getfield 7, 3) := by decide +kernel
theorem dX7_shares_82 : decode cX7_shares 82 = .ok (.iconst 4, 1) := by decide +kernel
theorem dX7_shares_83 : decode cX7_shares 83 = .ok (.iaload, 1) := by decide +kernel
theorem dX7_shares_84 : decode cX7_shares 84 = .ok (.if_icmp .ge 52, 3) := by decide +kernel
theorem dX7_shares_87 : decode cX7_shares 87 = .ok (.aload_n 0, 1) := by decide +kernel
theorem dX7_shares_88 : decode cX7_shares 88 = .ok (.getfield 29, 3) := by decide +kernel
theorem dX7_shares_91 : decode cX7_shares 91 = .ok (.iload 5, 2) := by decide +kernel
theorem dX7_shares_93 : decode cX7_shares 93 = .ok (.aload_n 0, 1) := by decide +kernel
theorem dX7_shares_94 : decode cX7_shares 94 = .ok (.iload 5, 2) := by decide +kernel
theorem dX7_shares_96 : decode cX7_shares 96 = .ok (.invokevirtual 91, 3) := by decide +kernel
theorem dX7_shares_99 : decode cX7_shares 99 = .ok (.ifCond .eq 17, 3) := by decide +kernel
theorem dX7_shares_102 : decode cX7_shares 102 = .ok (.iload_n 1, 1) := by decide +kernel
theorem dX7_shares_103 : decode cX7_shares 103 = .ok (.aload_n 0, 1) := by decide +kernel
theorem dX7_shares_104 : decode cX7_shares 104 = .ok (.getfield 26, 3) := by decide +kernel
theorem dX7_shares_107 : decode cX7_shares 107 = .ok (.iload 5, 2) := by decide +kernel
theorem dX7_shares_109 : decode cX7_shares 109 = .ok (.iaload, 1) := by decide +kernel
theorem dX7_shares_110 : decode cX7_shares 110 = .ok (.imul, 1) := by decide +kernel
theorem dX7_shares_111 : decode cX7_shares 111 = .ok (.iload_n 2, 1) := by decide +kernel
theorem dX7_shares_112 : decode cX7_shares 112 = .ok (.idiv, 1) := by decide +kernel
theorem dX7_shares_113 : decode cX7_shares 113 = .ok (.goto 4, 3) := by decide +kernel
theorem dX7_shares_116 : decode cX7_shares 116 = .ok (.iconst 0, 1) := by decide +kernel
theorem dX7_shares_117 : decode cX7_shares 117 = .ok (.iastore, 1) := by decide +kernel
theorem dX7_shares_118 : decode cX7_shares 118 = .ok (.iload 4, 2) := by decide +kernel
theorem dX7_shares_120 : decode cX7_shares 120 = .ok (.aload_n 0, 1) := by decide +kernel
theorem dX7_shares_121 : decode cX7_shares 121 = .ok (.getfield 29, 3) := by decide +kernel
theorem dX7_shares_124 : decode cX7_shares 124 = .ok (.iload 5, 2) := by decide +kernel
theorem dX7_shares_126 : decode cX7_shares 126 = .ok (.iaload, 1) := by decide +kernel
theorem dX7_shares_127 : decode cX7_shares 127 = .ok (.isub, 1) := by decide +kernel
theorem dX7_shares_128 : decode cX7_shares 128 = .ok (.istore 4, 2) := by decide +kernel
theorem dX7_shares_130 : decode cX7_shares 130 = .ok (.iinc 5 1, 3) := by decide +kernel
theorem dX7_shares_133 : decode cX7_shares 133 = .ok (.goto (-57), 3) := by decide +kernel
theorem dX7_shares_136 : decode cX7_shares 136 = .ok (.iload_n 3, 1) := by decide +kernel
theorem dX7_shares_137 : decode cX7_shares 137 = .ok (.ifCond .lt 14, 3) := by decide +kernel
theorem dX7_shares_140 : decode cX7_shares 140 = .ok (.aload_n 0, 1) := by decide +kernel
theorem dX7_shares_141 : decode cX7_shares 141 = .ok (.getfield 29, 3) := by decide +kernel
theorem dX7_shares_144 : decode cX7_shares 144 = .ok (.iload_n 3, 1) := by decide +kernel
theorem dX7_shares_145 : decode cX7_shares 145 = .ok (.dup2, 1) := by decide +kernel
theorem dX7_shares_146 : decode cX7_shares 146 = .ok (.iaload, 1) := by decide +kernel
theorem dX7_shares_147 : decode cX7_shares 147 = .ok (.iload 4, 2) := by decide +kernel
theorem dX7_shares_149 : decode cX7_shares 149 = .ok (.iadd, 1) := by decide +kernel
theorem dX7_shares_150 : decode cX7_shares 150 = .ok (.iastore, 1) := by decide +kernel
theorem dX7_shares_151 : decode cX7_shares 151 = .ok (.return_, 1) := by decide +kernel
theorem dX7_sumOfLights_0 : decode cX7_sumOfLights 0 = .ok (.iconst 0, 1) := by decide +kernel
theorem dX7_sumOfLights_1 : decode cX7_sumOfLights 1 = .ok (.istore_n 1, 1) := by decide +kernel
theorem dX7_sumOfLights_2 : decode cX7_sumOfLights 2 = .ok (.iconst 0, 1) := by decide +kernel
theorem dX7_sumOfLights_3 : decode cX7_sumOfLights 3 = .ok (.istore_n 2, 1) := by decide +kernel
theorem dX7_sumOfLights_4 : decode cX7_sumOfLights 4 = .ok (.iload_n 2, 1) := by decide +kernel
theorem dX7_sumOfLights_5 : decode cX7_sumOfLights 5 = .ok (.aload_n 0, 1) := by decide +kernel
theorem dX7_sumOfLights_6 : decode cX7_sumOfLights 6 = .ok (.getfield 7, 3) := by decide +kernel
theorem dX7_sumOfLights_9 : decode cX7_sumOfLights 9 = .ok (.iconst 4, 1) := by decide +kernel
theorem dX7_sumOfLights_10 : decode cX7_sumOfLights 10 = .ok (.iaload, 1) := by decide +kernel
theorem dX7_sumOfLights_11 : decode cX7_sumOfLights 11 = .ok (.if_icmp .ge 18, 3) := by decide +kernel
theorem dX7_sumOfLights_14 : decode cX7_sumOfLights 14 = .ok (.iload_n 1, 1) := by decide +kernel
theorem dX7_sumOfLights_15 : decode cX7_sumOfLights 15 = .ok (.aload_n 0, 1) := by decide +kernel
theorem dX7_sumOfLights_16 : decode cX7_sumOfLights 16 = .ok (.getfield 29, 3) := by decide +kernel
theorem dX7_sumOfLights_19 : decode cX7_sumOfLights 19 = .ok (.iload_n 2, 1) := by decide +kernel
theorem dX7_sumOfLights_20 : decode cX7_sumOfLights 20 = .ok (.iaload, 1) := by decide +kernel
theorem dX7_sumOfLights_21 : decode cX7_sumOfLights 21 = .ok (.iadd, 1) := by decide +kernel
theorem dX7_sumOfLights_22 : decode cX7_sumOfLights 22 = .ok (.istore_n 1, 1) := by decide +kernel
theorem dX7_sumOfLights_23 : decode cX7_sumOfLights 23 = .ok (.iinc 2 1, 3) := by decide +kernel
theorem dX7_sumOfLights_26 : decode cX7_sumOfLights 26 = .ok (.goto (-22), 3) := by decide +kernel
theorem dX7_sumOfLights_29 : decode cX7_sumOfLights 29 = .ok (.iload_n 1, 1) := by decide +kernel
theorem dX7_sumOfLights_30 : decode cX7_sumOfLights 30 = .ok (.ireturn, 1) := by decide +kernel
theorem dX7_shines_0 : decode cX7_shines 0 = .ok (.aload_n 0, 1) := by decide +kernel
theorem dX7_shines_1 : decode cX7_shines 1 = .ok (.iload_n 1, 1) := by decide +kernel
theorem dX7_shines_2 : decode cX7_shines 2 = .ok (.iload_n 2, 1) := by decide +kernel
theorem dX7_shines_3 : decode cX7_shines 3 = .ok (.invokevirtual 94, 3) := by decide +kernel
theorem dX7_shines_6 : decode cX7_shines 6 = .ok (.istore_n 3, 1) := by decide +kernel
theorem dX7_shines_7 : decode cX7_shines 7 = .ok (.aload_n 0, 1) := by decide +kernel
theorem dX7_shines_8 : decode cX7_shines 8 = .ok (.iload_n 1, 1) := by decide +kernel
theorem dX7_shines_9 : decode cX7_shines 9 = .ok (.iload_n 2, 1) := by decide +kernel
theorem dX7_shines_10 : decode cX7_shines 10 = .ok (.invokevirtual 97, 3) := by decide +kernel
theorem dX7_shines_13 : decode cX7_shines 13 = .ok (.aload_n 0, 1) := by decide +kernel
theorem dX7_shines_14 : decode cX7_shines 14 = .ok (.iload_n 3, 1) := by decide +kernel
theorem dX7_shines_15 : decode cX7_shines 15 = .ok (.invokevirtual 101, 3) := by decide +kernel
theorem dX7_shines_18 : decode cX7_shines 18 = .ok (.iconst 0, 1) := by decide +kernel
theorem dX7_shines_19 : decode cX7_shines 19 = .ok (.istore 4, 2) := by decide +kernel
theorem dX7_shines_21 : decode cX7_shines 21 = .ok (.iload 4, 2) := by decide +kernel
theorem dX7_shines_23 : decode cX7_shines 23 = .ok (.aload_n 0, 1) := by decide +kernel
theorem dX7_shines_24 : decode cX7_shines 24 = .ok (.getfield 7, 3) := by decide +kernel
theorem dX7_shines_27 : decode cX7_shines 27 = .ok (.iconst 4, 1) := by decide +kernel
theorem dX7_shines_28 : decode cX7_shines 28 = .ok (.iaload, 1) := by decide +kernel
theorem dX7_shines_29 : decode cX7_shines 29 = .ok (.if_icmp .ge 81, 3) := by decide +kernel
theorem dX7_shines_32 : decode cX7_shines 32 = .ok (.aload_n 0, 1) := by decide +kernel
theorem dX7_shines_33 : decode cX7_shines 33 = .ok (.iload 4, 2) := by decide +kernel
theorem dX7_shines_35 : decode cX7_shines 35 = .ok (.invokevirtual 91, 3) := by decide +kernel
theorem dX7_shines_38 : decode cX7_shines 38 = .ok (.ifCond .eq 66, 3) := by decide +kernel
theorem dX7_shines_41 : decode cX7_shines 41 = .ok (.aload_n 0, 1) := by decide +kernel
theorem dX7_shines_42 : decode cX7_shines 42 = .ok (.getfield 29, 3) := by decide +kernel
theorem dX7_shines_45 : decode cX7_shines 45 = .ok (.iload 4, 2) := by decide +kernel
theorem dX7_shines_47 : decode cX7_shines 47 = .ok (.iaload, 1) := by decide +kernel
theorem dX7_shines_48 : decode cX7_shines 48 = .ok (.aload_n 0, 1) := by decide +kernel
theorem dX7_shines_49 : decode cX7_shines 49 = .ok (.iload 4, 2) := by decide +kernel
theorem dX7_shines_51 : decode cX7_shines 51 = .ok (.invokevirtual 65, 3) := by decide +kernel
theorem dX7_shines_54 : decode cX7_shines 54 = .ok (.if_icmp .le 12, 3) := by decide +kernel
theorem dX7_shines_57 : decode cX7_shines 57 = .ok (.aload_n 0, 1) := by decide +kernel
theorem dX7_shines_58 : decode cX7_shines 58 = .ok (.iload 4, 2) := by decide +kernel
theorem dX7_shines_60 : decode cX7_shines 60 = .ok (.invokevirtual 65, 3) := by decide +kernel
theorem dX7_shines_63 : decode cX7_shines 63 = .ok (.goto 10, 3) := by decide +kernel
theorem dX7_shines_66 : decode cX7_shines 66 = .ok (.aload_n 0, 1) := by decide +kernel
theorem dX7_shines_67 : decode cX7_shines 67 = .ok (.getfield 29, 3) := by decide +kernel
theorem dX7_shines_70 : decode cX7_shines 70 = .ok (.iload 4, 2) := by decide +kernel
theorem dX7_shines_72 : decode cX7_shines 72 = .ok (.iaload, 1) := by decide +kernel
theorem dX7_shines_73 : decode cX7_shines 73 = .ok (.istore 5, 2) := by decide +kernel
theorem dX7_shines_75 : decode cX7_shines 75 = .ok (.aload_n 0, 1) := by decide +kernel
theorem dX7_shines_76 : decode cX7_shines 76 = .ok (.getfield 29, 3) := by decide +kernel
theorem dX7_shines_79 : decode cX7_shines 79 = .ok (.iload 4, 2) := by decide +kernel
theorem dX7_shines_81 : decode cX7_shines 81 = .ok (.iload 5, 2) := by decide +kernel
theorem dX7_shines_83 : decode cX7_shines 83 = .ok (.aload_n 0, 1) := by decide +kernel
theorem dX7_shines_84 : decode cX7_shines 84 = .ok (.iload 4, 2) := by decide +kernel
theorem dX7_shines_86 : decode cX7_shines 86 = .ok (.invokevirtual 105, 3) := by decide +kernel
theorem dX7_shines_89 : decode cX7_shines 89 = .ok (.if_icmp .ge 12, 3) := by decide +kernel
theorem dX7_shines_92 : decode cX7_shines 92 = .ok (.aload_n 0, 1) := by decide +kernel
theorem dX7_shines_93 : decode cX7_shines 93 = .ok (.iload 4, 2) := by decide +kernel
theorem dX7_shines_95 : decode cX7_shines 95 = .ok (.invokevirtual 105, 3) := by decide +kernel
theorem dX7_shines_98 : decode cX7_shines 98 = .ok (.goto 5, 3) := by decide +kernel
theorem dX7_shines_101 : decode cX7_shines 101 = .ok (.iload 5, 2) := by decide +kernel
theorem dX7_shines_103 : decode cX7_shines 103 = .ok (.iastore, 1) := by decide +kernel
theorem dX7_shines_104 : decode cX7_shines 104 = .ok (.iinc 4 1, 3) := by decide +kernel
theorem dX7_shines_107 : decode cX7_shines 107 = .ok (.goto (-86), 3) := by decide +kernel
theorem dX7_shines_110 : decode cX7_shines 110 = .ok (.iload_n 3, 1) := by decide +kernel
theorem dX7_shines_111 : decode cX7_shines 111 = .ok (.aload_n 0, 1) := by decide +kernel
theorem dX7_shines_112 : decode cX7_shines 112 = .ok (.invokevirtual 108, 3) := by decide +kernel
theorem dX7_shines_115 : decode cX7_shines 115 = .ok (.isub, 1) := by decide +kernel
theorem dX7_shines_116 : decode cX7_shines 116 = .ok (.istore 4, 2) := by decide +kernel
theorem dX7_shines_118 : decode cX7_shines 118 = .ok (.iconst 0, 1) := by decide +kernel
theorem dX7_shines_119 : decode cX7_shines 119 = .ok (.istore 5, 2) := by decide +kernel
theorem dX7_shines_121 : decode cX7_shines 121 = .ok (.iload 5, 2) := by decide +kernel
theorem dX7_shines_123 : decode cX7_shines 123 = .ok (.aload_n 0, 1) := by decide +kernel
theorem dX7_shines_124 : decode cX7_shines 124 = .ok (.getfield 7, 3) := by decide +kernel
theorem dX7_shines_127 : decode cX7_shines 127 = .ok (.iconst 4, 1) := by decide +kernel
theorem dX7_shines_128 : decode cX7_shines 128 = .ok (.iaload, 1) := by decide +kernel
theorem dX7_shines_129 : decode cX7_shines 129 = .ok (.if_icmp .ge 87, 3) := by decide +kernel
theorem dX7_shines_132 : decode cX7_shines 132 = .ok (.aload_n 0, 1) := by decide +kernel
theorem dX7_shines_133 : decode cX7_shines 133 = .ok (.iload 5, 2) := by decide +kernel
theorem dX7_shines_135 : decode cX7_shines 135 = .ok (.invokevirtual 91, 3) := by decide +kernel
theorem dX7_shines_138 : decode cX7_shines 138 = .ok (.ifCond .eq 72, 3) := by decide +kernel
theorem dX7_shines_141 : decode cX7_shines 141 = .ok (.iload 4, 2) := by decide +kernel
theorem dX7_shines_143 : decode cX7_shines 143 = .ok (.ifCond .le 25, 3) := by decide +kernel
theorem dX7_shines_146 : decode cX7_shines 146 = .ok (.iload 4, 2) := by decide +kernel
theorem dX7_shines_148 : decode cX7_shines 148 = .ok (.aload_n 0, 1) := by decide +kernel
theorem dX7_shines_149 : decode cX7_shines 149 = .ok (.iload 5, 2) := by decide +kernel
theorem dX7_shines_151 : decode cX7_shines 151 = .ok (.invokevirtual 65, 3) := by decide +kernel
theorem dX7_shines_154 : decode cX7_shines 154 = .ok (.aload_n 0, 1) := by decide +kernel
theorem dX7_shines_155 : decode cX7_shines 155 = .ok (.getfield 29, 3) := by decide +kernel
theorem dX7_shines_158 : decode cX7_shines 158 = .ok (.iload 5, 2) := by decide +kernel
theorem dX7_shines_160 : decode cX7_shines 160 = .ok (.iaload, 1) := by decide +kernel
theorem dX7_shines_161 : decode cX7_shines 161 = .ok (.isub, 1) := by decide +kernel
theorem dX7_shines_162 : decode cX7_shines 162 = .ok (.invokestatic 68, 3) := by decide +kernel
theorem dX7_shines_165 : decode cX7_shines 165 = .ok (.goto 24, 3) := by decide +kernel
theorem dX7_shines_168 : decode cX7_shines 168 = .ok (.iload 4, 2) := by decide +kernel
theorem dX7_shines_170 : decode cX7_shines 170 = .ok (.ineg, 1) := by decide +kernel
theorem dX7_shines_171 : decode cX7_shines 171 = .ok (.aload_n 0, 1) := by decide +kernel
theorem dX7_shines_172 : decode cX7_shines 172 = .ok (.getfield 29, 3) := by decide +kernel
theorem dX7_shines_175 : decode cX7_shines 175 = .ok (.iload 5, 2) := by decide +kernel
theorem dX7_shines_177 : decode cX7_shines 177 = .ok (.iaload, 1) := by decide +kernel
theorem dX7_shines_178 : decode cX7_shines 178 = .ok (.aload_n 0, 1) := by decide +kernel
theorem dX7_shines_179 : decode cX7_shines 179 = .ok (.iload 5, 2) := by decide +kernel
theorem dX7_shines_181 : decode cX7_shines 181 = .ok (.invokevirtual 105, 3) := by decide +kernel
theorem dX7_shines_184 : decode cX7_shines 184 = .ok (.isub, 1) := by decide +kernel
theorem dX7_shines_185 : decode cX7_shines 185 = .ok (.invokestatic 68, 3) := by decide +kernel
theorem dX7_shines_188 : decode cX7_shines 188 = .ok (.ineg, 1) := by decide +kernel
theorem dX7_shines_189 : decode cX7_shines 189 = .ok (.istore 6, 2) := by decide +kernel
theorem dX7_shines_191 : decode cX7_shines 191 = .ok (.aload_n 0, 1) := by decide +kernel
theorem dX7_shines_192 : decode cX7_shines 192 = .ok (.getfield 29, 3) := by decide +kernel
theorem dX7_shines_195 : decode cX7_shines 195 = .ok (.iload 5, 2) := by decide +kernel
theorem dX7_shines_197 : decode cX7_shines 197 = .ok (.dup2, 1) := by decide +kernel
theorem dX7_shines_198 : decode cX7_shines 198 = .ok (.iaload, 1) := by decide +kernel
theorem dX7_shines_199 : decode cX7_shines 199 = .ok (.iload 6, 2) := by decide +kernel
theorem dX7_shines_201 : decode cX7_shines 201 = .ok (.iadd, 1) := by decide +kernel
theorem dX7_shines_202 : decode cX7_shines 202 = .ok (.iastore, 1) := by decide +kernel
theorem dX7_shines_203 : decode cX7_shines 203 = .ok (.iload 4, 2) := by decide +kernel
theorem dX7_shines_205 : decode cX7_shines 205 = .ok (.iload 6, 2) := by decide +kernel
theorem dX7_shines_207 : decode cX7_shines 207 = .ok (.isub, 1) := by decide +kernel
theorem dX7_shines_208 : decode cX7_shines 208 = .ok (.istore 4, 2) := by decide +kernel
theorem dX7_shines_210 : decode cX7_shines 210 = .ok (.iinc 5 1, 3) := by decide +kernel
theorem dX7_shines_213 : decode cX7_shines 213 = .ok (.goto (-92), 3) := by decide +kernel
theorem dX7_shines_216 : decode cX7_shines 216 = .ok (.aload_n 0, 1) := by decide +kernel
theorem dX7_shines_217 : decode cX7_shines 217 = .ok (.aload_n 0, 1) := by decide +kernel
theorem dX7_shines_218 : decode cX7_shines 218 = .ok (.invokevirtual 108, 3) := by decide +kernel
theorem dX7_shines_221 : decode cX7_shines 221 = .ok (.putfield 112, 3) := by decide +kernel
theorem dX7_shines_224 : decode cX7_shines 224 = .ok (.return_, 1) := by decide +kernel
theorem dX7_state_0 : decode cX7_state 0 = .ok (.aload_n 0, 1) := by decide +kernel
theorem dX7_state_1 : decode cX7_state 1 = .ok (.iload_n 1, 1) := by decide +kernel
theorem dX7_state_2 : decode cX7_state 2 = .ok (.iload_n 2, 1) := by decide +kernel
theorem dX7_state_3 : decode cX7_state 3 = .ok (.invokevirtual 94, 3) := by decide +kernel
theorem dX7_state_6 : decode cX7_state 6 = .ok (.istore_n 3, 1) := by decide +kernel
theorem dX7_state_7 : decode cX7_state 7 = .ok (.aload_n 0, 1) := by decide +kernel
theorem dX7_state_8 : decode cX7_state 8 = .ok (.getfield 112, 3) := by decide +kernel
theorem dX7_state_11 : decode cX7_state 11 = .ok (.iload_n 3, 1) := by decide +kernel
theorem dX7_state_12 : decode cX7_state 12 = .ok (.if_icmp .ne 7, 3) := by decide +kernel
theorem dX7_state_15 : decode cX7_state 15 = .ok (.iconst 0, 1) := by decide +kernel
theorem dX7_state_16 : decode cX7_state 16 = .ok (.goto 27, 3) := by decide +kernel
theorem dX7_state_19 : decode cX7_state 19 = .ok (.aload_n 0, 1) := by decide +kernel
theorem dX7_state_20 : decode cX7_state 20 = .ok (.getfield 80, 3) := by decide +kernel
theorem dX7_state_23 : decode cX7_state 23 = .ok (.ifCond .ne 7, 3) := by decide +kernel
theorem dX7_state_26 : decode cX7_state 26 = .ok (.iconst 1, 1) := by decide +kernel
theorem dX7_state_27 : decode cX7_state 27 = .ok (.goto 16, 3) := by decide +kernel
theorem dX7_state_30 : decode cX7_state 30 = .ok (.aload_n 0, 1) := by decide +kernel
theorem dX7_state_31 : decode cX7_state 31 = .ok (.getfield 112, 3) := by decide +kernel
theorem dX7_state_34 : decode cX7_state 34 = .ok (.iload_n 3, 1) := by decide +kernel
theorem dX7_state_35 : decode cX7_state 35 = .ok (.if_icmp .ge 7, 3) := by decide +kernel
theorem dX7_state_38 : decode cX7_state 38 = .ok (.iconst 2, 1) := by decide +kernel
theorem dX7_state_39 : decode cX7_state 39 = .ok (.goto 4, 3) := by decide +kernel
theorem dX7_state_42 : decode cX7_state 42 = .ok (.iconst 3, 1) := by decide +kernel
theorem dX7_state_43 : decode cX7_state 43 = .ok (.ireturn, 1) := by decide +kernel
theorem dX7_wrongOnes_0 : decode cX7_wrongOnes 0 = .ok (.iconst 0, 1) := by decide +kernel
theorem dX7_wrongOnes_1 : decode cX7_wrongOnes 1 = .ok (.istore_n 1, 1) := by decide +kernel
theorem dX7_wrongOnes_2 : decode cX7_wrongOnes 2 = .ok (.iconst 0, 1) := by decide +kernel
theorem dX7_wrongOnes_3 : decode cX7_wrongOnes 3 = .ok (.istore_n 2, 1) := by decide +kernel
theorem dX7_wrongOnes_4 : decode cX7_wrongOnes 4 = .ok (.iload_n 2, 1) := by decide +kernel
theorem dX7_wrongOnes_5 : decode cX7_wrongOnes 5 = .ok (.aload_n 0, 1) := by decide +kernel
theorem dX7_wrongOnes_6 : decode cX7_wrongOnes 6 = .ok (.getfield 7, 3) := by decide +kernel
theorem dX7_wrongOnes_9 : decode cX7_wrongOnes 9 = .ok (.iconst 1, 1) := by decide +kernel
theorem dX7_wrongOnes_10 : decode cX7_wrongOnes 10 = .ok (.iaload, 1) := by decide +kernel
theorem dX7_wrongOnes_11 : decode cX7_wrongOnes 11 = .ok (.if_icmp .ge 50, 3) := by decide +kernel
theorem dX7_wrongOnes_14 : decode cX7_wrongOnes 14 = .ok (.iconst 0, 1) := by decide +kernel
theorem dX7_wrongOnes_15 : decode cX7_wrongOnes 15 = .ok (.istore_n 3, 1) := by decide +kernel
theorem dX7_wrongOnes_16 : decode cX7_wrongOnes 16 = .ok (.iload_n 3, 1) := by decide +kernel
theorem dX7_wrongOnes_17 : decode cX7_wrongOnes 17 = .ok (.aload_n 0, 1) := by decide +kernel
theorem dX7_wrongOnes_18 : decode cX7_wrongOnes 18 = .ok (.getfield 7, 3) := by decide +kernel
theorem dX7_wrongOnes_21 : decode cX7_wrongOnes 21 = .ok (.iconst 0, 1) := by decide +kernel
theorem dX7_wrongOnes_22 : decode cX7_wrongOnes 22 = .ok (.iaload, 1) := by decide +kernel
theorem dX7_wrongOnes_23 : decode cX7_wrongOnes 23 = .ok (.if_icmp .ge 32, 3) := by decide +kernel
theorem dX7_wrongOnes_26 : decode cX7_wrongOnes 26 = .ok (.aload_n 0, 1) := by decide +kernel
theorem dX7_wrongOnes_27 : decode cX7_wrongOnes 27 = .ok (.iload_n 3, 1) := by decide +kernel
theorem dX7_wrongOnes_28 : decode cX7_wrongOnes 28 = .ok (.iload_n 2, 1) := by decide +kernel
theorem dX7_wrongOnes_29 : decode cX7_wrongOnes 29 = .ok (.invokevirtual 115, 3) := by decide +kernel
theorem dX7_wrongOnes_32 : decode cX7_wrongOnes 32 = .ok (.iload_n 1, 1) := by decide +kernel
theorem dX7_wrongOnes_33 : decode cX7_wrongOnes 33 = .ok (.aload_n 0, 1) := by decide +kernel
theorem dX7_wrongOnes_34 : decode cX7_wrongOnes 34 = .ok (.iload_n 3, 1) := by decide +kernel
theorem dX7_wrongOnes_35 : decode cX7_wrongOnes 35 = .ok (.iload_n 2, 1) := by decide +kernel
theorem dX7_wrongOnes_36 : decode cX7_wrongOnes 36 = .ok (.invokevirtual 118, 3) := by decide +kernel
theorem dX7_wrongOnes_39 : decode cX7_wrongOnes 39 = .ok (.ifCond .ne 7, 3) := by decide +kernel
theorem dX7_wrongOnes_42 : decode cX7_wrongOnes 42 = .ok (.iconst 0, 1) := by decide +kernel
theorem dX7_wrongOnes_43 : decode cX7_wrongOnes 43 = .ok (.goto 4, 3) := by decide +kernel
theorem dX7_wrongOnes_46 : decode cX7_wrongOnes 46 = .ok (.iconst 1, 1) := by decide +kernel
theorem dX7_wrongOnes_47 : decode cX7_wrongOnes 47 = .ok (.iadd, 1) := by decide +kernel
theorem dX7_wrongOnes_48 : decode cX7_wrongOnes 48 = .ok (.istore_n 1, 1) := by decide +kernel
theorem dX7_wrongOnes_49 : decode cX7_wrongOnes 49 = .ok (.iinc 3 1, 3) := by decide +kernel
theorem dX7_wrongOnes_52 : decode cX7_wrongOnes 52 = .ok (.goto (-36), 3) := by decide +kernel
theorem dX7_wrongOnes_55 : decode cX7_wrongOnes 55 = .ok (.iinc 2 1, 3) := by decide +kernel
theorem dX7_wrongOnes_58 : decode cX7_wrongOnes 58 = .ok (.goto (-54), 3) := by decide +kernel
theorem dX7_wrongOnes_61 : decode cX7_wrongOnes 61 = .ok (.iload_n 1, 1) := by decide +kernel
theorem dX7_wrongOnes_62 : decode cX7_wrongOnes 62 = .ok (.ireturn, 1) := by decide +kernel
theorem dX7_bits_0 : decode cX7_bits 0 = .ok (.iconst 0, 1) := by decide +kernel
theorem dX7_bits_1 : decode cX7_bits 1 = .ok (.istore_n 1, 1) := by decide +kernel
theorem dX7_bits_2 : decode cX7_bits 2 = .ok (.iload_n 0, 1) := by decide +kernel
theorem dX7_bits_3 : decode cX7_bits 3 = .ok (.istore_n 2, 1) := by decide +kernel
theorem dX7_bits_4 : decode cX7_bits 4 = .ok (.iload_n 2, 1) := by decide +kernel
theorem dX7_bits_5 : decode cX7_bits 5 = .ok (.ifCond .eq 15, 3) := by decide +kernel
theorem dX7_bits_8 : decode cX7_bits 8 = .ok (.iinc 1 1, 3) := by decide +kernel
theorem dX7_bits_11 : decode cX7_bits 11 = .ok (.iload_n 2, 1) := by decide +kernel
theorem dX7_bits_12 : decode cX7_bits 12 = .ok (.iload_n 2, 1) := by decide +kernel
theorem dX7_bits_13 : decode cX7_bits 13 = .ok (.iconst 1, 1) := by decide +kernel
theorem dX7_bits_14 : decode cX7_bits 14 = .ok (.isub, 1) := by decide +kernel
theorem dX7_bits_15 : decode cX7_bits 15 = .ok (.iand, 1) := by decide +kernel
theorem dX7_bits_16 : decode cX7_bits 16 = .ok (.istore_n 2, 1) := by decide +kernel
theorem dX7_bits_17 : decode cX7_bits 17 = .ok (.goto (-13), 3) := by decide +kernel
theorem dX7_bits_20 : decode cX7_bits 20 = .ok (.iload_n 1, 1) := by decide +kernel
theorem dX7_bits_21 : decode cX7_bits 21 = .ok (.ireturn, 1) := by decide +kernel
theorem dX7_sums_0 : decode cX7_sums 0 = .ok (.aload_n 0, 1) := by decide +kernel
theorem dX7_sums_1 : decode cX7_sums 1 = .ok (.iconst 0, 1) := by decide +kernel
theorem dX7_sums_2 : decode cX7_sums 2 = .ok (.putfield 121, 3) := by decide +kernel
theorem dX7_sums_5 : decode cX7_sums 5 = .ok (.aload_n 0, 1) := by decide +kernel
theorem dX7_sums_6 : decode cX7_sums 6 = .ok (.iconst 0, 1) := by decide +kernel
theorem dX7_sums_7 : decode cX7_sums 7 = .ok (.putfield 124, 3) := by decide +kernel
theorem dX7_sums_10 : decode cX7_sums 10 = .ok (.aload_n 0, 1) := by decide +kernel
theorem dX7_sums_11 : decode cX7_sums 11 = .ok (.iconst 0, 1) := by decide +kernel
theorem dX7_sums_12 : decode cX7_sums 12 = .ok (.putfield 127, 3) := by decide +kernel
theorem dX7_sums_15 : decode cX7_sums 15 = .ok (.aload_n 0, 1) := by decide +kernel
theorem dX7_sums_16 : decode cX7_sums 16 = .ok (.iconst 0, 1) := by decide +kernel
theorem dX7_sums_17 : decode cX7_sums 17 = .ok (.putfield 130, 3) := by decide +kernel
theorem dX7_sums_20 : decode cX7_sums 20 = .ok (.aload_n 0, 1) := by decide +kernel
theorem dX7_sums_21 : decode cX7_sums 21 = .ok (.iconst 0, 1) := by decide +kernel
theorem dX7_sums_22 : decode cX7_sums 22 = .ok (.putfield 133, 3) := by decide +kernel
theorem dX7_sums_25 : decode cX7_sums 25 = .ok (.iconst 0, 1) := by decide +kernel
theorem dX7_sums_26 : decode cX7_sums 26 = .ok (.istore_n 2, 1) := by decide +kernel
theorem dX7_sums_27 : decode cX7_sums 27 = .ok (.iload_n 2, 1) := by decide +kernel
theorem dX7_sums_28 : decode cX7_sums 28 = .ok (.aload_n 0, 1) := by decide +kernel
theorem dX7_sums_29 : decode cX7_sums 29 = .ok (.getfield 7, 3) := by decide +kernel
theorem dX7_sums_32 : decode cX7_sums 32 = .ok (.iconst 1, 1) := by decide +kernel
theorem dX7_sums_33 : decode cX7_sums 33 = .ok (.iaload, 1) := by decide +kernel
theorem dX7_sums_34 : decode cX7_sums 34 = .ok (.if_icmp .ge 163, 3) := by decide +kernel
theorem dX7_sums_37 : decode cX7_sums 37 = .ok (.iconst 0, 1) := by decide +kernel
theorem dX7_sums_38 : decode cX7_sums 38 = .ok (.istore_n 3, 1) := by decide +kernel
theorem dX7_sums_39 : decode cX7_sums 39 = .ok (.iload_n 3, 1) := by decide +kernel
theorem dX7_sums_40 : decode cX7_sums 40 = .ok (.aload_n 0, 1) := by decide +kernel
theorem dX7_sums_41 : decode cX7_sums 41 = .ok (.getfield 7, 3) := by decide +kernel
theorem dX7_sums_44 : decode cX7_sums 44 = .ok (.iconst 0, 1) := by decide +kernel
theorem dX7_sums_45 : decode cX7_sums 45 = .ok (.iaload, 1) := by decide +kernel
theorem dX7_sums_46 : decode cX7_sums 46 = .ok (.if_icmp .ge 145, 3) := by decide +kernel
theorem dX7_sums_49 : decode cX7_sums 49 = .ok (.aload_n 0, 1) := by decide +kernel
theorem dX7_sums_50 : decode cX7_sums 50 = .ok (.iload_n 3, 1) := by decide +kernel
theorem dX7_sums_51 : decode cX7_sums 51 = .ok (.iload_n 2, 1) := by decide +kernel
theorem dX7_sums_52 : decode cX7_sums 52 = .ok (.invokevirtual 115, 3) := by decide +kernel
theorem dX7_sums_55 : decode cX7_sums 55 = .ok (.aload_n 0, 1) := by decide +kernel
theorem dX7_sums_56 : decode cX7_sums 56 = .ok (.iload_n 1, 1) := by decide +kernel
theorem dX7_sums_57 : decode cX7_sums 57 = .ok (.invokevirtual 91, 3) := by decide +kernel
theorem dX7_sums_60 : decode cX7_sums 60 = .ok (.ifCond .eq 125, 3) := by decide +kernel
theorem dX7_sums_63 : decode cX7_sums 63 = .ok (.aload_n 0, 1) := by decide +kernel
theorem dX7_sums_64 : decode cX7_sums 64 = .ok (.getfield 29, 3) := by decide +kernel
theorem dX7_sums_67 : decode cX7_sums 67 = .ok (.iload_n 1, 1) := by decide +kernel
theorem dX7_sums_68 : decode cX7_sums 68 = .ok (.iaload, 1) := by decide +kernel
theorem dX7_sums_69 : decode cX7_sums 69 = .ok (.aload_n 0, 1) := by decide +kernel
theorem dX7_sums_70 : decode cX7_sums 70 = .ok (.iload_n 3, 1) := by decide +kernel
theorem dX7_sums_71 : decode cX7_sums 71 = .ok (.iload_n 2, 1) := by decide +kernel
theorem dX7_sums_72 : decode cX7_sums 72 = .ok (.invokevirtual 94, 3) := by decide +kernel
theorem dX7_sums_75 : decode cX7_sums 75 = .ok (.iadd, 1) := by decide +kernel
theorem dX7_sums_76 : decode cX7_sums 76 = .ok (.aload_n 0, 1) := by decide +kernel
theorem dX7_sums_77 : decode cX7_sums 77 = .ok (.getfield 112, 3) := by decide +kernel
theorem dX7_sums_80 : decode cX7_sums 80 = .ok (.isub, 1) := by decide +kernel
theorem dX7_sums_81 : decode cX7_sums 81 = .ok (.istore 4, 2) := by decide +kernel
theorem dX7_sums_83 : decode cX7_sums 83 = .ok (.aload_n 0, 1) := by decide +kernel
theorem dX7_sums_84 : decode cX7_sums 84 = .ok (.dup, 1) := by decide +kernel
theorem dX7_sums_85 : decode cX7_sums 85 = .ok (.getfield 121, 3) := by decide +kernel
theorem dX7_sums_88 : decode cX7_sums 88 = .ok (.iconst 1, 1) := by decide +kernel
theorem dX7_sums_89 : decode cX7_sums 89 = .ok (.iadd, 1) := by decide +kernel
theorem dX7_sums_90 : decode cX7_sums 90 = .ok (.putfield 121, 3) := by decide +kernel
theorem dX7_sums_93 : decode cX7_sums 93 = .ok (.aload_n 0, 1) := by decide +kernel
theorem dX7_sums_94 : decode cX7_sums 94 = .ok (.dup, 1) := by decide +kernel
theorem dX7_sums_95 : decode cX7_sums 95 = .ok (.getfield 124, 3) := by decide +kernel
theorem dX7_sums_98 : decode cX7_sums 98 = .ok (.aload_n 0, 1) := by decide +kernel
theorem dX7_sums_99 : decode cX7_sums 99 = .ok (.getfield 29, 3) := by decide +kernel
theorem dX7_sums_102 : decode cX7_sums 102 = .ok (.iload_n 1, 1) := by decide +kernel
theorem dX7_sums_103 : decode cX7_sums 103 = .ok (.iaload, 1) := by decide +kernel
theorem dX7_sums_104 : decode cX7_sums 104 = .ok (.iadd, 1) := by decide +kernel
theorem dX7_sums_105 : decode cX7_sums 105 = .ok (.putfield 124, 3) := by decide +kernel
theorem dX7_sums_108 : decode cX7_sums 108 = .ok (.aload_n 0, 1) := by decide +kernel
theorem dX7_sums_109 : decode cX7_sums 109 = .ok (.aload_n 0, 1) := by decide +kernel
theorem dX7_sums_110 : decode cX7_sums 110 = .ok (.getfield 29, 3) := by decide +kernel
theorem dX7_sums_113 : decode cX7_sums 113 = .ok (.iload_n 1, 1) := by decide +kernel
theorem dX7_sums_114 : decode cX7_sums 114 = .ok (.iaload, 1) := by decide +kernel
theorem dX7_sums_115 : decode cX7_sums 115 = .ok (.aload_n 0, 1) := by decide +kernel
theorem dX7_sums_116 : decode cX7_sums 116 = .ok (.getfield 127, 3) := by decide +kernel
theorem dX7_sums_119 : decode cX7_sums 119 = .ok (.if_icmp .le 12, 3) := by decide +kernel
theorem dX7_sums_122 : decode cX7_sums 122 = .ok (.aload_n 0, 1) := by decide +kernel
theorem dX7_sums_123 : decode cX7_sums 123 = .ok (.getfield 29, 3) := by decide +kernel
theorem dX7_sums_126 : decode cX7_sums 126 = .ok (.iload_n 1, 1) := by decide +kernel
theorem dX7_sums_127 : decode cX7_sums 127 = .ok (.iaload, 1) := by decide +kernel
theorem dX7_sums_128 : decode cX7_sums 128 = .ok (.goto 7, 3) := by decide +kernel
theorem dX7_sums_131 : decode cX7_sums 131 = .ok (.aload_n 0, 1) := by decide +kernel
theorem dX7_sums_132 : decode cX7_sums 132 = .ok (.getfield 127, 3) := by decide +kernel
theorem dX7_sums_135 : decode cX7_sums 135 = .ok (.putfield 127, 3) := by decide +kernel
theorem dX7_sums_138 : decode cX7_sums 138 = .ok (.aload_n 0, 1) := by decide +kernel
theorem dX7_sums_139 : decode cX7_sums 139 = .ok (.dup, 1) := by decide +kernel
theorem dX7_sums_140 : decode cX7_sums 140 = .ok (.getfield 130, 3) := by decide +kernel
theorem dX7_sums_143 : decode cX7_sums 143 = .ok (.aload_n 0, 1) := by decide +kernel
theorem dX7_sums_144 : decode cX7_sums 144 = .ok (.getfield 80, 3) := by decide +kernel
theorem dX7_sums_147 : decode cX7_sums 147 = .ok (.invokestatic 136, 3) := by decide +kernel
theorem dX7_sums_150 : decode cX7_sums 150 = .ok (.iconst 1, 1) := by decide +kernel
theorem dX7_sums_151 : decode cX7_sums 151 = .ok (.if_icmp .ne 7, 3) := by decide +kernel
theorem dX7_sums_154 : decode cX7_sums 154 = .ok (.iconst 1, 1) := by decide +kernel
theorem dX7_sums_155 : decode cX7_sums 155 = .ok (.goto 4, 3) := by decide +kernel
theorem dX7_sums_158 : decode cX7_sums 158 = .ok (.iconst 0, 1) := by decide +kernel
theorem dX7_sums_159 : decode cX7_sums 159 = .ok (.iadd, 1) := by decide +kernel
theorem dX7_sums_160 : decode cX7_sums 160 = .ok (.putfield 130, 3) := by decide +kernel
theorem dX7_sums_163 : decode cX7_sums 163 = .ok (.aload_n 0, 1) := by decide +kernel
theorem dX7_sums_164 : decode cX7_sums 164 = .ok (.iload 4, 2) := by decide +kernel
theorem dX7_sums_166 : decode cX7_sums 166 = .ok (.aload_n 0, 1) := by decide +kernel
theorem dX7_sums_167 : decode cX7_sums 167 = .ok (.getfield 133, 3) := by decide +kernel
theorem dX7_sums_170 : decode cX7_sums 170 = .ok (.if_icmp .le 8, 3) := by decide +kernel
theorem dX7_sums_173 : decode cX7_sums 173 = .ok (.iload 4, 2) := by decide +kernel
theorem dX7_sums_175 : decode cX7_sums 175 = .ok (.goto 7, 3) := by decide +kernel
theorem dX7_sums_178 : decode cX7_sums 178 = .ok (.aload_n 0, 1) := by decide +kernel
theorem dX7_sums_179 : decode cX7_sums 179 = .ok (.getfield 133, 3) := by decide +kernel
theorem dX7_sums_182 : decode cX7_sums 182 = .ok (.putfield 133, 3) := by decide +kernel
theorem dX7_sums_185 : decode cX7_sums 185 = .ok (.iinc 3 1, 3) := by decide +kernel
theorem dX7_sums_188 : decode cX7_sums 188 = .ok (.goto (-149), 3) := by decide +kernel
theorem dX7_sums_191 : decode cX7_sums 191 = .ok (.iinc 2 1, 3) := by decide +kernel
theorem dX7_sums_194 : decode cX7_sums 194 = .ok (.goto (-167), 3) := by decide +kernel
theorem dX7_sums_197 : decode cX7_sums 197 = .ok (.return_, 1) := by decide +kernel
theorem dX7_load_0 : decode cX7_load 0 = .ok (.aload_n 0, 1) := by decide +kernel
theorem dX7_load_1 : decode cX7_load 1 = .ok (.iload_n 1, 1) := by decide +kernel
theorem dX7_load_2 : decode cX7_load 2 = .ok (.invokevirtual 139, 3) := by decide +kernel
theorem dX7_load_5 : decode cX7_load 5 = .ok (.aload_n 0, 1) := by decide +kernel
theorem dX7_load_6 : decode cX7_load 6 = .ok (.getfield 121, 3) := by decide +kernel
theorem dX7_load_9 : decode cX7_load 9 = .ok (.aload_n 0, 1) := by decide +kernel
theorem dX7_load_10 : decode cX7_load 10 = .ok (.iload_n 1, 1) := by decide +kernel
theorem dX7_load_11 : decode cX7_load 11 = .ok (.invokevirtual 65, 3) := by decide +kernel
theorem dX7_load_14 : decode cX7_load 14 = .ok (.imul, 1) := by decide +kernel
theorem dX7_load_15 : decode cX7_load 15 = .ok (.istore_n 2, 1) := by decide +kernel
theorem dX7_load_16 : decode cX7_load 16 = .ok (.iload_n 2, 1) := by decide +kernel
theorem dX7_load_17 : decode cX7_load 17 = .ok (.ifCond .ne 7, 3) := by decide +kernel
theorem dX7_load_20 : decode cX7_load 20 = .ok (.iconst 0, 1) := by decide +kernel
theorem dX7_load_21 : decode cX7_load 21 = .ok (.goto 12, 3) := by decide +kernel
theorem dX7_load_24 : decode cX7_load 24 = .ok (.bipush 100, 2) := by decide +kernel
theorem dX7_load_26 : decode cX7_load 26 = .ok (.aload_n 0, 1) := by decide +kernel
theorem dX7_load_27 : decode cX7_load 27 = .ok (.getfield 124, 3) := by decide +kernel
theorem dX7_load_30 : decode cX7_load 30 = .ok (.imul, 1) := by decide +kernel
theorem dX7_load_31 : decode cX7_load 31 = .ok (.iload_n 2, 1) := by decide +kernel
theorem dX7_load_32 : decode cX7_load 32 = .ok (.idiv, 1) := by decide +kernel
theorem dX7_load_33 : decode cX7_load 33 = .ok (.ireturn, 1) := by decide +kernel
theorem dX7_begins_0 : decode cX7_begins 0 = .ok (.iload_n 1, 1) := by decide +kernel
theorem dX7_begins_1 : decode cX7_begins 1 = .ok (.iconst 1, 1) := by decide +kernel
theorem dX7_begins_2 : decode cX7_begins 2 = .ok (.bipush 24, 2) := by decide +kernel
theorem dX7_begins_4 : decode cX7_begins 4 = .ok (.invokestatic 41, 3) := by decide +kernel
theorem dX7_begins_7 : decode cX7_begins 7 = .ok (.ifCond .eq 13, 3) := by decide +kernel
theorem dX7_begins_10 : decode cX7_begins 10 = .ok (.iload_n 2, 1) := by decide +kernel
theorem dX7_begins_11 : decode cX7_begins 11 = .ok (.iconst 1, 1) := by decide +kernel
theorem dX7_begins_12 : decode cX7_begins 12 = .ok (.bipush 16, 2) := by decide +kernel
theorem dX7_begins_14 : decode cX7_begins 14 = .ok (.invokestatic 41, 3) := by decide +kernel
theorem dX7_begins_17 : decode cX7_begins 17 = .ok (.ifCond .ne 5, 3) := by decide +kernel
theorem dX7_begins_20 : decode cX7_begins 20 = .ok (.iconst 1, 1) := by decide +kernel
theorem dX7_begins_21 : decode cX7_begins 21 = .ok (.ireturn, 1) := by decide +kernel
theorem dX7_begins_22 : decode cX7_begins 22 = .ok (.aload_n 0, 1) := by decide +kernel
theorem dX7_begins_23 : decode cX7_begins 23 = .ok (.aload_n 0, 1) := by decide +kernel
theorem dX7_begins_24 : decode cX7_begins 24 = .ok (.getfield 7, 3) := by decide +kernel
theorem dX7_begins_27 : decode cX7_begins 27 = .ok (.iconst 0, 1) := by decide +kernel
theorem dX7_begins_28 : decode cX7_begins 28 = .ok (.iaload, 1) := by decide +kernel
theorem dX7_begins_29 : decode cX7_begins 29 = .ok (.aload_n 0, 1) := by decide +kernel
theorem dX7_begins_30 : decode cX7_begins 30 = .ok (.getfield 7, 3) := by decide +kernel
theorem dX7_begins_33 : decode cX7_begins 33 = .ok (.iconst 1, 1) := by decide +kernel
theorem dX7_begins_34 : decode cX7_begins 34 = .ok (.iaload, 1) := by decide +kernel
theorem dX7_begins_35 : decode cX7_begins 35 = .ok (.imul, 1) := by decide +kernel
theorem dX7_begins_36 : decode cX7_begins 36 = .ok (.putfield 55, 3) := by decide +kernel
theorem dX7_begins_39 : decode cX7_begins 39 = .ok (.aload_n 0, 1) := by decide +kernel
theorem dX7_begins_40 : decode cX7_begins 40 = .ok (.getfield 7, 3) := by decide +kernel
theorem dX7_begins_43 : decode cX7_begins 43 = .ok (.iconst 0, 1) := by decide +kernel
theorem dX7_begins_44 : decode cX7_begins 44 = .ok (.iload_n 1, 1) := by decide +kernel
theorem dX7_begins_45 : decode cX7_begins 45 = .ok (.iastore, 1) := by decide +kernel
theorem dX7_begins_46 : decode cX7_begins 46 = .ok (.aload_n 0, 1) := by decide +kernel
theorem dX7_begins_47 : decode cX7_begins 47 = .ok (.getfield 7, 3) := by decide +kernel
theorem dX7_begins_50 : decode cX7_begins 50 = .ok (.iconst 1, 1) := by decide +kernel
theorem dX7_begins_51 : decode cX7_begins 51 = .ok (.iload_n 2, 1) := by decide +kernel
theorem dX7_begins_52 : decode cX7_begins 52 = .ok (.iastore, 1) := by decide +kernel
theorem dX7_begins_53 : decode cX7_begins 53 = .ok (.aload_n 0, 1) := by decide +kernel
theorem dX7_begins_54 : decode cX7_begins 54 = .ok (.getfield 7, 3) := by decide +kernel
theorem dX7_begins_57 : decode cX7_begins 57 = .ok (.iconst 2, 1) := by decide +kernel
theorem dX7_begins_58 : decode cX7_begins 58 = .ok (.iconst 0, 1) := by decide +kernel
theorem dX7_begins_59 : decode cX7_begins 59 = .ok (.iastore, 1) := by decide +kernel
theorem dX7_begins_60 : decode cX7_begins 60 = .ok (.aload_n 0, 1) := by decide +kernel
theorem dX7_begins_61 : decode cX7_begins 61 = .ok (.getfield 7, 3) := by decide +kernel
theorem dX7_begins_64 : decode cX7_begins 64 = .ok (.iconst 3, 1) := by decide +kernel
theorem dX7_begins_65 : decode cX7_begins 65 = .ok (.iconst 0, 1) := by decide +kernel
theorem dX7_begins_66 : decode cX7_begins 66 = .ok (.iastore, 1) := by decide +kernel
theorem dX7_begins_67 : decode cX7_begins 67 = .ok (.bipush 6, 2) := by decide +kernel
theorem dX7_begins_69 : decode cX7_begins 69 = .ok (.istore_n 3, 1) := by decide +kernel
theorem dX7_begins_70 : decode cX7_begins 70 = .ok (.iload_n 3, 1) := by decide +kernel
theorem dX7_begins_71 : decode cX7_begins 71 = .ok (.sipush 390, 3) := by decide +kernel
theorem dX7_begins_74 : decode cX7_begins 74 = .ok (.if_icmp .ge 16, 3) := by decide +kernel
theorem dX7_begins_77 : decode cX7_begins 77 = .ok (.aload_n 0, 1) := by decide +kernel
theorem dX7_begins_78 : decode cX7_begins 78 = .ok (.getfield 7, 3) := by decide +kernel
theorem dX7_begins_81 : decode cX7_begins 81 = .ok (.iload_n 3, 1) := by decide +kernel
theorem dX7_begins_82 : decode cX7_begins 82 = .ok (.iconst 0, 1) := by decide +kernel
theorem dX7_begins_83 : decode cX7_begins 83 = .ok (.iastore, 1) := by decide +kernel
theorem dX7_begins_84 : decode cX7_begins 84 = .ok (.iinc 3 1, 3) := by decide +kernel
theorem dX7_begins_87 : decode cX7_begins 87 = .ok (.goto (-17), 3) := by decide +kernel
theorem dX7_begins_90 : decode cX7_begins 90 = .ok (.iconst 0, 1) := by decide +kernel
theorem dX7_begins_91 : decode cX7_begins 91 = .ok (.ireturn, 1) := by decide +kernel
theorem dX7_paints_0 : decode cX7_paints 0 = .ok (.aload_n 0, 1) := by decide +kernel
theorem dX7_paints_1 : decode cX7_paints 1 = .ok (.iload_n 1, 1) := by decide +kernel
theorem dX7_paints_2 : decode cX7_paints 2 = .ok (.iload_n 2, 1) := by decide +kernel
theorem dX7_paints_3 : decode cX7_paints 3 = .ok (.invokevirtual 142, 3) := by decide +kernel
theorem dX7_paints_6 : decode cX7_paints 6 = .ok (.ifCond .eq 13, 3) := by decide +kernel
theorem dX7_paints_9 : decode cX7_paints 9 = .ok (.aload_n 0, 1) := by decide +kernel
theorem dX7_paints_10 : decode cX7_paints 10 = .ok (.iload_n 3, 1) := by decide +kernel
theorem dX7_paints_11 : decode cX7_paints 11 = .ok (.iload 4, 2) := by decide +kernel
theorem dX7_paints_13 : decode cX7_paints 13 = .ok (.invokevirtual 142, 3) := by decide +kernel
theorem dX7_paints_16 : decode cX7_paints 16 = .ok (.ifCond .ne 5, 3) := by decide +kernel
theorem dX7_paints_19 : decode cX7_paints 19 = .ok (.iconst 1, 1) := by decide +kernel
theorem dX7_paints_20 : decode cX7_paints 20 = .ok (.ireturn, 1) := by decide +kernel
theorem dX7_paints_21 : decode cX7_paints 21 = .ok (.iload_n 3, 1) := by decide +kernel
theorem dX7_paints_22 : decode cX7_paints 22 = .ok (.iload_n 1, 1) := by decide +kernel
theorem dX7_paints_23 : decode cX7_paints 23 = .ok (.if_icmp .lt 21, 3) := by decide +kernel
theorem dX7_paints_26 : decode cX7_paints 26 = .ok (.iload 4, 2) := by decide +kernel
theorem dX7_paints_28 : decode cX7_paints 28 = .ok (.iload_n 2, 1) := by decide +kernel
theorem dX7_paints_29 : decode cX7_paints 29 = .ok (.if_icmp .lt 15, 3) := by decide +kernel
theorem dX7_paints_32 : decode cX7_paints 32 = .ok (.iload 5, 2) := by decide +kernel
theorem dX7_paints_34 : decode cX7_paints 34 = .ok (.iconst 0, 1) := by decide +kernel
theorem dX7_paints_35 : decode cX7_paints 35 = .ok (.sipush 255, 3) := by decide +kernel
theorem dX7_paints_38 : decode cX7_paints 38 = .ok (.invokestatic 41, 3) := by decide +kernel
theorem dX7_paints_41 : decode cX7_paints 41 = .ok (.ifCond .ne 5, 3) := by decide +kernel
theorem dX7_paints_44 : decode cX7_paints 44 = .ok (.iconst 2, 1) := by decide +kernel
theorem dX7_paints_45 : decode cX7_paints 45 = .ok (.ireturn, 1) := by decide +kernel
theorem dX7_paints_46 : decode cX7_paints 46 = .ok (.aload_n 0, 1) := by decide +kernel
theorem dX7_paints_47 : decode cX7_paints 47 = .ok (.iconst 0, 1) := by decide +kernel
theorem dX7_paints_48 : decode cX7_paints 48 = .ok (.putfield 55, 3) := by decide +kernel
theorem dX7_paints_51 : decode cX7_paints 51 = .ok (.iload_n 2, 1) := by decide +kernel
theorem dX7_paints_52 : decode cX7_paints 52 = .ok (.istore 6, 2) := by decide +kernel
theorem dX7_paints_54 : decode cX7_paints 54 = .ok (.iload 6, 2) := by decide +kernel
theorem dX7_paints_56 : decode cX7_paints 56 = .ok (.iload 4, 2) := by decide +kernel
theorem dX7_paints_58 : decode cX7_paints 58 = .ok (.if_icmp .gt 69, 3) := by decide +kernel
theorem dX7_paints_61 : decode cX7_paints 61 = .ok (.iload_n 1, 1) := by decide +kernel
theorem dX7_paints_62 : decode cX7_paints 62 = .ok (.istore 7, 2) := by decide +kernel
theorem dX7_paints_64 : decode cX7_paints 64 = .ok (.iload 7, 2) := by decide +kernel
theorem dX7_paints_66 : decode cX7_paints 66 = .ok (.iload_n 3, 1) := by decide +kernel
theorem dX7_paints_67 : decode cX7_paints 67 = .ok (.if_icmp .gt 54, 3) := by decide +kernel
theorem dX7_paints_70 : decode cX7_paints 70 = .ok (.aload_n 0, 1) := by decide +kernel
theorem dX7_paints_71 : decode cX7_paints 71 = .ok (.dup, 1) := by decide +kernel
theorem dX7_paints_72 : decode cX7_paints 72 = .ok (.getfield 55, 3) := by decide +kernel
theorem dX7_paints_75 : decode cX7_paints 75 = .ok (.aload_n 0, 1) := by decide +kernel
theorem dX7_paints_76 : decode cX7_paints 76 = .ok (.iload 7, 2) := by decide +kernel
theorem dX7_paints_78 : decode cX7_paints 78 = .ok (.iload 6, 2) := by decide +kernel
theorem dX7_paints_80 : decode cX7_paints 80 = .ok (.invokevirtual 94, 3) := by decide +kernel
theorem dX7_paints_83 : decode cX7_paints 83 = .ok (.iload 5, 2) := by decide +kernel
theorem dX7_paints_85 : decode cX7_paints 85 = .ok (.if_icmp .ne 7, 3) := by decide +kernel
theorem dX7_paints_88 : decode cX7_paints 88 = .ok (.iconst 0, 1) := by decide +kernel
theorem dX7_paints_89 : decode cX7_paints 89 = .ok (.goto 4, 3) := by decide +kernel
theorem dX7_paints_92 : decode cX7_paints 92 = .ok (.iconst 1, 1) := by decide +kernel
theorem dX7_paints_93 : decode cX7_paints 93 = .ok (.iadd, 1) := by decide +kernel
theorem dX7_paints_94 : decode cX7_paints 94 = .ok (.putfield 55, 3) := by decide +kernel
theorem dX7_paints_97 : decode cX7_paints 97 = .ok (.aload_n 0, 1) := by decide +kernel
theorem dX7_paints_98 : decode cX7_paints 98 = .ok (.getfield 7, 3) := by decide +kernel
theorem dX7_paints_101 : decode cX7_paints 101 = .ok (.bipush 6, 2) := by decide +kernel
theorem dX7_paints_103 : decode cX7_paints 103 = .ok (.bipush 24, 2) := by decide +kernel
theorem dX7_paints_105 : decode cX7_paints 105 = .ok (.iload 6, 2) := by decide +kernel
theorem dX7_paints_107 : decode cX7_paints 107 = .ok (.imul, 1) := by decide +kernel
theorem dX7_paints_108 : decode cX7_paints 108 = .ok (.iadd, 1) := by decide +kernel
theorem dX7_paints_109 : decode cX7_paints 109 = .ok (.iload 7, 2) := by decide +kernel
theorem dX7_paints_111 : decode cX7_paints 111 = .ok (.iadd, 1) := by decide +kernel
theorem dX7_paints_112 : decode cX7_paints 112 = .ok (.iload 5, 2) := by decide +kernel
theorem dX7_paints_114 : decode cX7_paints 114 = .ok (.iastore, 1) := by decide +kernel
theorem dX7_paints_115 : decode cX7_paints 115 = .ok (.iinc 7 1, 3) := by decide +kernel
theorem dX7_paints_118 : decode cX7_paints 118 = .ok (.goto (-54), 3) := by decide +kernel
theorem dX7_paints_121 : decode cX7_paints 121 = .ok (.iinc 6 1, 3) := by decide +kernel
theorem dX7_paints_124 : decode cX7_paints 124 = .ok (.goto (-70), 3) := by decide +kernel
theorem dX7_paints_127 : decode cX7_paints 127 = .ok (.iconst 0, 1) := by decide +kernel
theorem dX7_paints_128 : decode cX7_paints 128 = .ok (.ireturn, 1) := by decide +kernel
theorem dX7_adds_0 : decode cX7_adds 0 = .ok (.iload_n 1, 1) := by decide +kernel
theorem dX7_adds_1 : decode cX7_adds 1 = .ok (.iconst 0, 1) := by decide +kernel
theorem dX7_adds_2 : decode cX7_adds 2 = .ok (.sipush 255, 3) := by decide +kernel
theorem dX7_adds_5 : decode cX7_adds 5 = .ok (.invokestatic 41, 3) := by decide +kernel
theorem dX7_adds_8 : decode cX7_adds 8 = .ok (.ifCond .eq 14, 3) := by decide +kernel
theorem dX7_adds_11 : decode cX7_adds 11 = .ok (.iload_n 2, 1) := by decide +kernel
theorem dX7_adds_12 : decode cX7_adds 12 = .ok (.iconst 0, 1) := by decide +kernel
theorem dX7_adds_13 : decode cX7_adds 13 = .ok (.sipush 255, 3) := by decide +kernel
theorem dX7_adds_16 : decode cX7_adds 16 = .ok (.invokestatic 41, 3) := by decide +kernel
theorem dX7_adds_19 : decode cX7_adds 19 = .ok (.ifCond .ne 5, 3) := by decide +kernel
theorem dX7_adds_22 : decode cX7_adds 22 = .ok (.iconst 1, 1) := by decide +kernel
theorem dX7_adds_23 : decode cX7_adds 23 = .ok (.ireturn, 1) := by decide +kernel
theorem dX7_adds_24 : decode cX7_adds 24 = .ok (.aload_n 0, 1) := by decide +kernel
theorem dX7_adds_25 : decode cX7_adds 25 = .ok (.getfield 7, 3) := by decide +kernel
theorem dX7_adds_28 : decode cX7_adds 28 = .ok (.iconst 4, 1) := by decide +kernel
theorem dX7_adds_29 : decode cX7_adds 29 = .ok (.iaload, 1) := by decide +kernel
theorem dX7_adds_30 : decode cX7_adds 30 = .ok (.bipush 8, 2) := by decide +kernel
theorem dX7_adds_32 : decode cX7_adds 32 = .ok (.if_icmp .ne 5, 3) := by decide +kernel
theorem dX7_adds_35 : decode cX7_adds 35 = .ok (.iconst 2, 1) := by decide +kernel
theorem dX7_adds_36 : decode cX7_adds 36 = .ok (.ireturn, 1) := by decide +kernel
theorem dX7_adds_37 : decode cX7_adds 37 = .ok (.aload_n 0, 1) := by decide +kernel
theorem dX7_adds_38 : decode cX7_adds 38 = .ok (.aload_n 0, 1) := by decide +kernel
theorem dX7_adds_39 : decode cX7_adds 39 = .ok (.getfield 7, 3) := by decide +kernel
theorem dX7_adds_42 : decode cX7_adds 42 = .ok (.iconst 4, 1) := by decide +kernel
theorem dX7_adds_43 : decode cX7_adds 43 = .ok (.iaload, 1) := by decide +kernel
theorem dX7_adds_44 : decode cX7_adds 44 = .ok (.putfield 55, 3) := by decide +kernel
theorem dX7_adds_47 : decode cX7_adds 47 = .ok (.iconst 0, 1) := by decide +kernel
theorem dX7_adds_48 : decode cX7_adds 48 = .ok (.istore_n 3, 1) := by decide +kernel
theorem dX7_adds_49 : decode cX7_adds 49 = .ok (.iload_n 3, 1) := by decide +kernel
theorem dX7_adds_50 : decode cX7_adds 50 = .ok (.bipush 12, 2) := by decide +kernel
theorem dX7_adds_52 : decode cX7_adds 52 = .ok (.if_icmp .ge 19, 3) := by decide +kernel
theorem dX7_adds_55 : decode cX7_adds 55 = .ok (.aload_n 0, 1) := by decide +kernel
theorem dX7_adds_56 : decode cX7_adds 56 = .ok (.aload_n 0, 1) := by decide +kernel
theorem dX7_adds_57 : decode cX7_adds 57 = .ok (.getfield 55, 3) := by decide +kernel
theorem dX7_adds_60 : decode cX7_adds 60 = .ok (.iload_n 3, 1) := by decide +kernel
theorem dX7_adds_61 : decode cX7_adds 61 = .ok (.iconst 0, 1) := by decide +kernel
theorem dX7_adds_62 : decode cX7_adds 62 = .ok (.invokevirtual 146, 3) := by decide +kernel
theorem dX7_adds_65 : decode cX7_adds 65 = .ok (.iinc 3 1, 3) := by decide +kernel
theorem dX7_adds_68 : decode cX7_adds 68 = .ok (.goto (-19), 3) := by decide +kernel
theorem dX7_adds_71 : decode cX7_adds 71 = .ok (.aload_n 0, 1) := by decide +kernel
theorem dX7_adds_72 : decode cX7_adds 72 = .ok (.aload_n 0, 1) := by decide +kernel
theorem dX7_adds_73 : decode cX7_adds 73 = .ok (.getfield 55, 3) := by decide +kernel
theorem dX7_adds_76 : decode cX7_adds 76 = .ok (.bipush 8, 2) := by decide +kernel
theorem dX7_adds_78 : decode cX7_adds 78 = .ok (.iload_n 1, 1) := by decide +kernel
theorem dX7_adds_79 : decode cX7_adds 79 = .ok (.invokevirtual 146, 3) := by decide +kernel
theorem dX7_adds_82 : decode cX7_adds 82 = .ok (.aload_n 0, 1) := by decide +kernel
theorem dX7_adds_83 : decode cX7_adds 83 = .ok (.aload_n 0, 1) := by decide +kernel
theorem dX7_adds_84 : decode cX7_adds 84 = .ok (.getfield 55, 3) := by decide +kernel
theorem dX7_adds_87 : decode cX7_adds 87 = .ok (.bipush 9, 2) := by decide +kernel
theorem dX7_adds_89 : decode cX7_adds 89 = .ok (.iload_n 2, 1) := by decide +kernel
theorem dX7_adds_90 : decode cX7_adds 90 = .ok (.invokevirtual 146, 3) := by decide +kernel
theorem dX7_adds_93 : decode cX7_adds 93 = .ok (.aload_n 0, 1) := by decide +kernel
theorem dX7_adds_94 : decode cX7_adds 94 = .ok (.aload_n 0, 1) := by decide +kernel
theorem dX7_adds_95 : decode cX7_adds 95 = .ok (.getfield 55, 3) := by decide +kernel
theorem dX7_adds_98 : decode cX7_adds 98 = .ok (.bipush 11, 2) := by decide +kernel
theorem dX7_adds_100 : decode cX7_adds 100 = .ok (.iconst 1, 1) := by decide +kernel
theorem dX7_adds_101 : decode cX7_adds 101 = .ok (.invokevirtual 146, 3) := by decide +kernel
theorem dX7_adds_104 : decode cX7_adds 104 = .ok (.aload_n 0, 1) := by decide +kernel
theorem dX7_adds_105 : decode cX7_adds 105 = .ok (.getfield 7, 3) := by decide +kernel
theorem dX7_adds_108 : decode cX7_adds 108 = .ok (.iconst 4, 1) := by decide +kernel
theorem dX7_adds_109 : decode cX7_adds 109 = .ok (.dup2, 1) := by decide +kernel
theorem dX7_adds_110 : decode cX7_adds 110 = .ok (.iaload, 1) := by decide +kernel
theorem dX7_adds_111 : decode cX7_adds 111 = .ok (.iconst 1, 1) := by decide +kernel
theorem dX7_adds_112 : decode cX7_adds 112 = .ok (.iadd, 1) := by decide +kernel
theorem dX7_adds_113 : decode cX7_adds 113 = .ok (.iastore, 1) := by decide +kernel
theorem dX7_adds_114 : decode cX7_adds 114 = .ok (.iconst 0, 1) := by decide +kernel
theorem dX7_adds_115 : decode cX7_adds 115 = .ok (.ireturn, 1) := by decide +kernel
theorem dX7_isCorner_0 : decode cX7_isCorner 0 = .ok (.iload_n 0, 1) := by decide +kernel
theorem dX7_isCorner_1 : decode cX7_isCorner 1 = .ok (.iconst 0, 1) := by decide +kernel
theorem dX7_isCorner_2 : decode cX7_isCorner 2 = .ok (.iconst 3, 1) := by decide +kernel
theorem dX7_isCorner_3 : decode cX7_isCorner 3 = .ok (.invokestatic 41, 3) := by decide +kernel
theorem dX7_isCorner_6 : decode cX7_isCorner 6 = .ok (.ireturn, 1) := by decide +kernel
theorem dX7_corners_0 : decode cX7_corners 0 = .ok (.aload_n 0, 1) := by decide +kernel
theorem dX7_corners_1 : decode cX7_corners 1 = .ok (.iload_n 1, 1) := by decide +kernel
theorem dX7_corners_2 : decode cX7_corners 2 = .ok (.invokevirtual 150, 3) := by decide +kernel
theorem dX7_corners_5 : decode cX7_corners 5 = .ok (.ifCond .eq 10, 3) := by decide +kernel
theorem dX7_corners_8 : decode cX7_corners 8 = .ok (.iload_n 2, 1) := by decide +kernel
theorem dX7_corners_9 : decode cX7_corners 9 = .ok (.invokestatic 153, 3) := by decide +kernel
theorem dX7_corners_12 : decode cX7_corners 12 = .ok (.ifCond .ne 5, 3) := by decide +kernel
theorem dX7_corners_15 : decode cX7_corners 15 = .ok (.iconst 1, 1) := by decide +kernel
theorem dX7_corners_16 : decode cX7_corners 16 = .ok (.ireturn, 1) := by decide +kernel
theorem dX7_corners_17 : decode cX7_corners 17 = .ok (.iload_n 3, 1) := by decide +kernel
theorem dX7_corners_18 : decode cX7_corners 18 = .ok (.bipush (-20), 2) := by decide +kernel
theorem dX7_corners_20 : decode cX7_corners 20 = .ok (.bipush 40, 2) := by decide +kernel
theorem dX7_corners_22 : decode cX7_corners 22 = .ok (.invokestatic 41, 3) := by decide +kernel
theorem dX7_corners_25 : decode cX7_corners 25 = .ok (.ifCond .eq 15, 3) := by decide +kernel
theorem dX7_corners_28 : decode cX7_corners 28 = .ok (.iload 4, 2) := by decide +kernel
theorem dX7_corners_30 : decode cX7_corners 30 = .ok (.bipush (-20), 2) := by decide +kernel
theorem dX7_corners_32 : decode cX7_corners 32 = .ok (.bipush 40, 2) := by decide +kernel
theorem dX7_corners_34 : decode cX7_corners 34 = .ok (.invokestatic 41, 3) := by decide +kernel
theorem dX7_corners_37 : decode cX7_corners 37 = .ok (.ifCond .ne 5, 3) := by decide +kernel
theorem dX7_corners_40 : decode cX7_corners 40 = .ok (.iconst 2, 1) := by decide +kernel
theorem dX7_corners_41 : decode cX7_corners 41 = .ok (.ireturn, 1) := by decide +kernel
theorem dX7_corners_42 : decode cX7_corners 42 = .ok (.aload_n 0, 1) := by decide +kernel
theorem dX7_corners_43 : decode cX7_corners 43 = .ok (.iload_n 1, 1) := by decide +kernel
theorem dX7_corners_44 : decode cX7_corners 44 = .ok (.iconst 0, 1) := by decide +kernel
theorem dX7_corners_45 : decode cX7_corners 45 = .ok (.iload_n 2, 1) := by decide +kernel
theorem dX7_corners_46 : decode cX7_corners 46 = .ok (.iadd, 1) := by decide +kernel
theorem dX7_corners_47 : decode cX7_corners 47 = .ok (.iload_n 3, 1) := by decide +kernel
theorem dX7_corners_48 : decode cX7_corners 48 = .ok (.invokevirtual 146, 3) := by decide +kernel
theorem dX7_corners_51 : decode cX7_corners 51 = .ok (.aload_n 0, 1) := by decide +kernel
theorem dX7_corners_52 : decode cX7_corners 52 = .ok (.iload_n 1, 1) := by decide +kernel
theorem dX7_corners_53 : decode cX7_corners 53 = .ok (.iconst 4, 1) := by decide +kernel
theorem dX7_corners_54 : decode cX7_corners 54 = .ok (.iload_n 2, 1) := by decide +kernel
theorem dX7_corners_55 : decode cX7_corners 55 = .ok (.iadd, 1) := by decide +kernel
theorem dX7_corners_56 : decode cX7_corners 56 = .ok (.iload 4, 2) := by decide +kernel
theorem dX7_corners_58 : decode cX7_corners 58 = .ok (.invokevirtual 146, 3) := by decide +kernel
theorem dX7_corners_61 : decode cX7_corners 61 = .ok (.aload_n 0, 1) := by decide +kernel
theorem dX7_corners_62 : decode cX7_corners 62 = .ok (.aload_n 0, 1) := by decide +kernel
theorem dX7_corners_63 : decode cX7_corners 63 = .ok (.iload_n 1, 1) := by decide +kernel
theorem dX7_corners_64 : decode cX7_corners 64 = .ok (.invokevirtual 83, 3) := by decide +kernel
theorem dX7_corners_67 : decode cX7_corners 67 = .ok (.ifCond .eq 7, 3) := by decide +kernel
theorem dX7_corners_70 : decode cX7_corners 70 = .ok (.iconst 1, 1) := by decide +kernel
theorem dX7_corners_71 : decode cX7_corners 71 = .ok (.goto 4, 3) := by decide +kernel
theorem dX7_corners_74 : decode cX7_corners 74 = .ok (.iconst 0, 1) := by decide +kernel
theorem dX7_corners_75 : decode cX7_corners 75 = .ok (.putfield 55, 3) := by decide +kernel
theorem dX7_corners_78 : decode cX7_corners 78 = .ok (.iconst 0, 1) := by decide +kernel
theorem dX7_corners_79 : decode cX7_corners 79 = .ok (.ireturn, 1) := by decide +kernel
theorem dX7_shifts_0 : decode cX7_shifts 0 = .ok (.iload_n 1, 1) := by decide +kernel
theorem dX7_shifts_1 : decode cX7_shifts 1 = .ok (.bipush (-10), 2) := by decide +kernel
theorem dX7_shifts_3 : decode cX7_shifts 3 = .ok (.bipush 10, 2) := by decide +kernel
theorem dX7_shifts_5 : decode cX7_shifts 5 = .ok (.invokestatic 41, 3) := by decide +kernel
theorem dX7_shifts_8 : decode cX7_shifts 8 = .ok (.ifCond .eq 14, 3) := by decide +kernel
theorem dX7_shifts_11 : decode cX7_shifts 11 = .ok (.iload_n 2, 1) := by decide +kernel
theorem dX7_shifts_12 : decode cX7_shifts 12 = .ok (.bipush (-10), 2) := by decide +kernel
theorem dX7_shifts_14 : decode cX7_shifts 14 = .ok (.bipush 10, 2) := by decide +kernel
theorem dX7_shifts_16 : decode cX7_shifts 16 = .ok (.invokestatic 41, 3) := by decide +kernel
theorem dX7_shifts_19 : decode cX7_shifts 19 = .ok (.ifCond .ne 5, 3) := by decide +kernel
theorem dX7_shifts_22 : decode cX7_shifts 22 = .ok (.iconst 1, 1) := by decide +kernel
theorem dX7_shifts_23 : decode cX7_shifts 23 = .ok (.ireturn, 1) := by decide +kernel
theorem dX7_shifts_24 : decode cX7_shifts 24 = .ok (.aload_n 0, 1) := by decide +kernel
theorem dX7_shifts_25 : decode cX7_shifts 25 = .ok (.getfield 7, 3) := by decide +kernel
theorem dX7_shifts_28 : decode cX7_shifts 28 = .ok (.iconst 2, 1) := by decide +kernel
theorem dX7_shifts_29 : decode cX7_shifts 29 = .ok (.iload_n 1, 1) := by decide +kernel
theorem dX7_shifts_30 : decode cX7_shifts 30 = .ok (.iastore, 1) := by decide +kernel
theorem dX7_shifts_31 : decode cX7_shifts 31 = .ok (.aload_n 0, 1) := by decide +kernel
theorem dX7_shifts_32 : decode cX7_shifts 32 = .ok (.getfield 7, 3) := by decide +kernel
theorem dX7_shifts_35 : decode cX7_shifts 35 = .ok (.iconst 3, 1) := by decide +kernel
theorem dX7_shifts_36 : decode cX7_shifts 36 = .ok (.iload_n 2, 1) := by decide +kernel
theorem dX7_shifts_37 : decode cX7_shifts 37 = .ok (.iastore, 1) := by decide +kernel
theorem dX7_shifts_38 : decode cX7_shifts 38 = .ok (.aload_n 0, 1) := by decide +kernel
theorem dX7_shifts_39 : decode cX7_shifts 39 = .ok (.aload_n 0, 1) := by decide +kernel
theorem dX7_shifts_40 : decode cX7_shifts 40 = .ok (.invokevirtual 156, 3) := by decide +kernel
theorem dX7_shifts_43 : decode cX7_shifts 43 = .ok (.putfield 55, 3) := by decide +kernel
theorem dX7_shifts_46 : decode cX7_shifts 46 = .ok (.iconst 0, 1) := by decide +kernel
theorem dX7_shifts_47 : decode cX7_shifts 47 = .ok (.ireturn, 1) := by decide +kernel
theorem dX7_works_0 : decode cX7_works 0 = .ok (.aload_n 0, 1) := by decide +kernel
theorem dX7_works_1 : decode cX7_works 1 = .ok (.iload_n 1, 1) := by decide +kernel
theorem dX7_works_2 : decode cX7_works 2 = .ok (.invokevirtual 150, 3) := by decide +kernel
theorem dX7_works_5 : decode cX7_works 5 = .ok (.ifCond .ne 5, 3) := by decide +kernel
theorem dX7_works_8 : decode cX7_works 8 = .ok (.iconst 1, 1) := by decide +kernel
theorem dX7_works_9 : decode cX7_works 9 = .ok (.ireturn, 1) := by decide +kernel
theorem dX7_works_10 : decode cX7_works 10 = .ok (.aload_n 0, 1) := by decide +kernel
theorem dX7_works_11 : decode cX7_works 11 = .ok (.aload_n 0, 1) := by decide +kernel
theorem dX7_works_12 : decode cX7_works 12 = .ok (.iload_n 1, 1) := by decide +kernel
theorem dX7_works_13 : decode cX7_works 13 = .ok (.bipush 11, 2) := by decide +kernel
theorem dX7_works_15 : decode cX7_works 15 = .ok (.invokevirtual 61, 3) := by decide +kernel
theorem dX7_works_18 : decode cX7_works 18 = .ok (.putfield 55, 3) := by decide +kernel
theorem dX7_works_21 : decode cX7_works 21 = .ok (.aload_n 0, 1) := by decide +kernel
theorem dX7_works_22 : decode cX7_works 22 = .ok (.iload_n 1, 1) := by decide +kernel
theorem dX7_works_23 : decode cX7_works 23 = .ok (.bipush 11, 2) := by decide +kernel
theorem dX7_works_25 : decode cX7_works 25 = .ok (.iload_n 2, 1) := by decide +kernel
theorem dX7_works_26 : decode cX7_works 26 = .ok (.ifCond .eq 7, 3) := by decide +kernel
theorem dX7_works_29 : decode cX7_works 29 = .ok (.iconst 1, 1) := by decide +kernel
theorem dX7_works_30 : decode cX7_works 30 = .ok (.goto 4, 3) := by decide +kernel
theorem dX7_works_33 : decode cX7_works 33 = .ok (.iconst 0, 1) := by decide +kernel
theorem dX7_works_34 : decode cX7_works 34 = .ok (.invokevirtual 146, 3) := by decide +kernel
theorem dX7_works_37 : decode cX7_works 37 = .ok (.iconst 0, 1) := by decide +kernel
theorem dX7_works_38 : decode cX7_works 38 = .ok (.ireturn, 1) := by decide +kernel
theorem dX7_burns_0 : decode cX7_burns 0 = .ok (.iload_n 1, 1) := by decide +kernel
theorem dX7_burns_1 : decode cX7_burns 1 = .ok (.iconst 1, 1) := by decide +kernel
theorem dX7_burns_2 : decode cX7_burns 2 = .ok (.sipush 9999, 3) := by decide +kernel
theorem dX7_burns_5 : decode cX7_burns 5 = .ok (.invokestatic 41, 3) := by decide +kernel
theorem dX7_burns_8 : decode cX7_burns 8 = .ok (.ifCond .ne 5, 3) := by decide +kernel
theorem dX7_burns_11 : decode cX7_burns 11 = .ok (.iconst 1, 1) := by decide +kernel
theorem dX7_burns_12 : decode cX7_burns 12 = .ok (.ireturn, 1) := by decide +kernel
theorem dX7_burns_13 : decode cX7_burns 13 = .ok (.iconst 0, 1) := by decide +kernel
theorem dX7_burns_14 : decode cX7_burns 14 = .ok (.istore_n 2, 1) := by decide +kernel
theorem dX7_burns_15 : decode cX7_burns 15 = .ok (.iload_n 2, 1) := by decide +kernel
theorem dX7_burns_16 : decode cX7_burns 16 = .ok (.aload_n 0, 1) := by decide +kernel
theorem dX7_burns_17 : decode cX7_burns 17 = .ok (.getfield 7, 3) := by decide +kernel
theorem dX7_burns_20 : decode cX7_burns 20 = .ok (.iconst 4, 1) := by decide +kernel
theorem dX7_burns_21 : decode cX7_burns 21 = .ok (.iaload, 1) := by decide +kernel
theorem dX7_burns_22 : decode cX7_burns 22 = .ok (.if_icmp .ge 20, 3) := by decide +kernel
theorem dX7_burns_25 : decode cX7_burns 25 = .ok (.aload_n 0, 1) := by decide +kernel
theorem dX7_burns_26 : decode cX7_burns 26 = .ok (.getfield 32, 3) := by decide +kernel
theorem dX7_burns_29 : decode cX7_burns 29 = .ok (.iload_n 2, 1) := by decide +kernel
theorem dX7_burns_30 : decode cX7_burns 30 = .ok (.aload_n 0, 1) := by decide +kernel
theorem dX7_burns_31 : decode cX7_burns 31 = .ok (.iload_n 2, 1) := by decide +kernel
theorem dX7_burns_32 : decode cX7_burns 32 = .ok (.invokevirtual 159, 3) := by decide +kernel
theorem dX7_burns_35 : decode cX7_burns 35 = .ok (.iastore, 1) := by decide +kernel
theorem dX7_burns_36 : decode cX7_burns 36 = .ok (.iinc 2 1, 3) := by decide +kernel
theorem dX7_burns_39 : decode cX7_burns 39 = .ok (.goto (-24), 3) := by decide +kernel
theorem dX7_burns_42 : decode cX7_burns 42 = .ok (.aload_n 0, 1) := by decide +kernel
theorem dX7_burns_43 : decode cX7_burns 43 = .ok (.iconst 0, 1) := by decide +kernel
theorem dX7_burns_44 : decode cX7_burns 44 = .ok (.putfield 55, 3) := by decide +kernel
theorem dX7_burns_47 : decode cX7_burns 47 = .ok (.iconst 0, 1) := by decide +kernel
theorem dX7_burns_48 : decode cX7_burns 48 = .ok (.istore_n 2, 1) := by decide +kernel
theorem dX7_burns_49 : decode cX7_burns 49 = .ok (.iload_n 2, 1) := by decide +kernel
theorem dX7_burns_50 : decode cX7_burns 50 = .ok (.aload_n 0, 1) := by decide +kernel
theorem dX7_burns_51 : decode cX7_burns 51 = .ok (.getfield 7, 3) := by decide +kernel
theorem dX7_burns_54 : decode cX7_burns 54 = .ok (.iconst 4, 1) := by decide +kernel
theorem dX7_burns_55 : decode cX7_burns 55 = .ok (.iaload, 1) := by decide +kernel
theorem dX7_burns_56 : decode cX7_burns 56 = .ok (.if_icmp .ge 84, 3) := by decide +kernel
theorem dX7_burns_59 : decode cX7_burns 59 = .ok (.aload_n 0, 1) := by decide +kernel
theorem dX7_burns_60 : decode cX7_burns 60 = .ok (.iload_n 2, 1) := by decide +kernel
theorem dX7_burns_61 : decode cX7_burns 61 = .ok (.bipush 11, 2) := by decide +kernel
theorem dX7_burns_63 : decode cX7_burns 63 = .ok (.invokevirtual 61, 3) := by decide +kernel
theorem dX7_burns_66 : decode cX7_burns 66 = .ok (.iconst 1, 1) := by decide +kernel
theorem dX7_burns_67 : decode cX7_burns 67 = .ok (.if_icmp .ne 35, 3) := by decide +kernel
theorem dX7_burns_70 : decode cX7_burns 70 = .ok (.aload_n 0, 1) := by decide +kernel
theorem dX7_burns_71 : decode cX7_burns 71 = .ok (.iload_n 2, 1) := by decide +kernel
theorem dX7_burns_72 : decode cX7_burns 72 = .ok (.bipush 10, 2) := by decide +kernel
theorem dX7_burns_74 : decode cX7_burns 74 = .ok (.sipush 900, 3) := by decide +kernel
theorem dX7_burns_77 : decode cX7_burns 77 = .ok (.aload_n 0, 1) := by decide +kernel
theorem dX7_burns_78 : decode cX7_burns 78 = .ok (.iload_n 2, 1) := by decide +kernel
theorem dX7_burns_79 : decode cX7_burns 79 = .ok (.bipush 10, 2) := by decide +kernel
theorem dX7_burns_81 : decode cX7_burns 81 = .ok (.invokevirtual 61, 3) := by decide +kernel
theorem dX7_burns_84 : decode cX7_burns 84 = .ok (.iload_n 1, 1) := by decide +kernel
theorem dX7_burns_85 : decode cX7_burns 85 = .ok (.aload_n 0, 1) := by decide +kernel
theorem dX7_burns_86 : decode cX7_burns 86 = .ok (.getfield 32, 3) := by decide +kernel
theorem dX7_burns_89 : decode cX7_burns 89 = .ok (.iload_n 2, 1) := by decide +kernel
theorem dX7_burns_90 : decode cX7_burns 90 = .ok (.iaload, 1) := by decide +kernel
theorem dX7_burns_91 : decode cX7_burns 91 = .ok (.imul, 1) := by decide +kernel
theorem dX7_burns_92 : decode cX7_burns 92 = .ok (.bipush 100, 2) := by decide +kernel
theorem dX7_burns_94 : decode cX7_burns 94 = .ok (.idiv, 1) := by decide +kernel
theorem dX7_burns_95 : decode cX7_burns 95 = .ok (.iadd, 1) := by decide +kernel
theorem dX7_burns_96 : decode cX7_burns 96 = .ok (.invokestatic 68, 3) := by decide +kernel
theorem dX7_burns_99 : decode cX7_burns 99 = .ok (.invokevirtual 146, 3) := by decide +kernel
theorem dX7_burns_102 : decode cX7_burns 102 = .ok (.aload_n 0, 1) := by decide +kernel
theorem dX7_burns_103 : decode cX7_burns 103 = .ok (.aload_n 0, 1) := by decide +kernel
theorem dX7_burns_104 : decode cX7_burns 104 = .ok (.iload_n 2, 1) := by decide +kernel
theorem dX7_burns_105 : decode cX7_burns 105 = .ok (.bipush 10, 2) := by decide +kernel
theorem dX7_burns_107 : decode cX7_burns 107 = .ok (.invokevirtual 61, 3) := by decide +kernel
theorem dX7_burns_110 : decode cX7_burns 110 = .ok (.aload_n 0, 1) := by decide +kernel
theorem dX7_burns_111 : decode cX7_burns 111 = .ok (.getfield 55, 3) := by decide +kernel
theorem dX7_burns_114 : decode cX7_burns 114 = .ok (.if_icmp .le 13, 3) := by decide +kernel
theorem dX7_burns_117 : decode cX7_burns 117 = .ok (.aload_n 0, 1) := by decide +kernel
theorem dX7_burns_118 : decode cX7_burns 118 = .ok (.iload_n 2, 1) := by decide +kernel
theorem dX7_burns_119 : decode cX7_burns 119 = .ok (.bipush 10, 2) := by decide +kernel
theorem dX7_burns_121 : decode cX7_burns 121 = .ok (.invokevirtual 61, 3) := by decide +kernel
theorem dX7_burns_124 : decode cX7_burns 124 = .ok (.goto 7, 3) := by decide +kernel
theorem dX7_burns_127 : decode cX7_burns 127 = .ok (.aload_n 0, 1) := by decide +kernel
theorem dX7_burns_128 : decode cX7_burns 128 = .ok (.getfield 55, 3) := by decide +kernel
theorem dX7_burns_131 : decode cX7_burns 131 = .ok (.putfield 55, 3) := by decide +kernel
theorem dX7_burns_134 : decode cX7_burns 134 = .ok (.iinc 2 1, 3) := by decide +kernel
theorem dX7_burns_137 : decode cX7_burns 137 = .ok (.goto (-88), 3) := by decide +kernel
theorem dX7_burns_140 : decode cX7_burns 140 = .ok (.aload_n 0, 1) := by decide +kernel
theorem dX7_burns_141 : decode cX7_burns 141 = .ok (.getfield 7, 3) := by decide +kernel
theorem dX7_burns_144 : decode cX7_burns 144 = .ok (.iconst 5, 1) := by decide +kernel
theorem dX7_burns_145 : decode cX7_burns 145 = .ok (.dup2, 1) := by decide +kernel
theorem dX7_burns_146 : decode cX7_burns 146 = .ok (.iaload, 1) := by decide +kernel
theorem dX7_burns_147 : decode cX7_burns 147 = .ok (.iload_n 1, 1) := by decide +kernel
theorem dX7_burns_148 : decode cX7_burns 148 = .ok (.iadd, 1) := by decide +kernel
theorem dX7_burns_149 : decode cX7_burns 149 = .ok (.iastore, 1) := by decide +kernel
theorem dX7_burns_150 : decode cX7_burns 150 = .ok (.iconst 0, 1) := by decide +kernel
theorem dX7_burns_151 : decode cX7_burns 151 = .ok (.ireturn, 1) := by decide +kernel
theorem dX7_begin_0 : decode cX7_begin 0 = .ok (.aload_n 0, 1) := by decide +kernel
theorem dX7_begin_1 : decode cX7_begin 1 = .ok (.invokevirtual 162, 3) := by decide +kernel
theorem dX7_begin_4 : decode cX7_begin 4 = .ok (.aload_n 0, 1) := by decide +kernel
theorem dX7_begin_5 : decode cX7_begin 5 = .ok (.aload_n 0, 1) := by decide +kernel
theorem dX7_begin_6 : decode cX7_begin 6 = .ok (.iload_n 1, 1) := by decide +kernel
theorem dX7_begin_7 : decode cX7_begin 7 = .ok (.iload_n 2, 1) := by decide +kernel
theorem dX7_begin_8 : decode cX7_begin 8 = .ok (.invokevirtual 165, 3) := by decide +kernel
theorem dX7_begin_11 : decode cX7_begin 11 = .ok (.invokevirtual 168, 3) := by decide +kernel
theorem dX7_begin_14 : decode cX7_begin 14 = .ok (.ireturn, 1) := by decide +kernel
theorem dX7_paint_0 : decode cX7_paint 0 = .ok (.aload_n 0, 1) := by decide +kernel
theorem dX7_paint_1 : decode cX7_paint 1 = .ok (.invokevirtual 162, 3) := by decide +kernel
theorem dX7_paint_4 : decode cX7_paint 4 = .ok (.aload_n 0, 1) := by decide +kernel
theorem dX7_paint_5 : decode cX7_paint 5 = .ok (.aload_n 0, 1) := by decide +kernel
theorem dX7_paint_6 : decode cX7_paint 6 = .ok (.iload_n 1, 1) := by decide +kernel
theorem dX7_paint_7 : decode cX7_paint 7 = .ok (.iload_n 2, 1) := by decide +kernel
theorem dX7_paint_8 : decode cX7_paint 8 = .ok (.iload_n 3, 1) := by decide +kernel
theorem dX7_paint_9 : decode cX7_paint 9 = .ok (.iload 4, 2) := by decide +kernel
theorem dX7_paint_11 : decode cX7_paint 11 = .ok (.iload 5, 2) := by decide +kernel
theorem dX7_paint_13 : decode cX7_paint 13 = .ok (.invokevirtual 171, 3) := by decide +kernel
theorem dX7_paint_16 : decode cX7_paint 16 = .ok (.invokevirtual 168, 3) := by decide +kernel
theorem dX7_paint_19 : decode cX7_paint 19 = .ok (.ireturn, 1) := by decide +kernel
theorem dX7_addLamp_0 : decode cX7_addLamp 0 = .ok (.aload_n 0, 1) := by decide +kernel
theorem dX7_addLamp_1 : decode cX7_addLamp 1 = .ok (.invokevirtual 162, 3) := by decide +kernel
theorem dX7_addLamp_4 : decode cX7_addLamp 4 = .ok (.aload_n 0, 1) := by decide +kernel
theorem dX7_addLamp_5 : decode cX7_addLamp 5 = .ok (.aload_n 0, 1) := by decide +kernel
theorem dX7_addLamp_6 : decode cX7_addLamp 6 = .ok (.iload_n 1, 1) := by decide +kernel
theorem dX7_addLamp_7 : decode cX7_addLamp 7 = .ok (.iload_n 2, 1) := by decide +kernel
theorem dX7_addLamp_8 : decode cX7_addLamp 8 = .ok (.invokevirtual 175, 3) := by decide +kernel
theorem dX7_addLamp_11 : decode cX7_addLamp 11 = .ok (.invokevirtual 168, 3) := by decide +kernel
theorem dX7_addLamp_14 : decode cX7_addLamp 14 = .ok (.ireturn, 1) := by decide +kernel
theorem dX7_setCorner_0 : decode cX7_setCorner 0 = .ok (.aload_n 0, 1) := by decide +kernel
theorem dX7_setCorner_1 : decode cX7_setCorner 1 = .ok (.invokevirtual 162, 3) := by decide +kernel
theorem dX7_setCorner_4 : decode cX7_setCorner 4 = .ok (.aload_n 0, 1) := by decide +kernel
theorem dX7_setCorner_5 : decode cX7_setCorner 5 = .ok (.aload_n 0, 1) := by decide +kernel
theorem dX7_setCorner_6 : decode cX7_setCorner 6 = .ok (.iload_n 1, 1) := by decide +kernel
theorem dX7_setCorner_7 : decode cX7_setCorner 7 = .ok (.iload_n 2, 1) := by decide +kernel
theorem dX7_setCorner_8 : decode cX7_setCorner 8 = .ok (.iload_n 3, 1) := by decide +kernel
theorem dX7_setCorner_9 : decode cX7_setCorner 9 = .ok (.iload 4, 2) := by decide +kernel
theorem dX7_setCorner_11 : decode cX7_setCorner 11 = .ok (.invokevirtual 178, 3) := by decide +kernel
theorem dX7_setCorner_14 : decode cX7_setCorner 14 = .ok (.invokevirtual 168, 3) := by decide +kernel
theorem dX7_setCorner_17 : decode cX7_setCorner 17 = .ok (.ireturn, 1) := by decide +kernel
theorem dX7_setRectangle_0 : decode cX7_setRectangle 0 = .ok (.aload_n 0, 1) := by decide +kernel
theorem dX7_setRectangle_1 : decode cX7_setRectangle 1 = .ok (.iload_n 1, 1) := by decide +kernel
theorem dX7_setRectangle_2 : decode cX7_setRectangle 2 = .ok (.invokevirtual 150, 3) := by decide +kernel
theorem dX7_setRectangle_5 : decode cX7_setRectangle 5 = .ok (.ifCond .ne 9, 3) := by decide +kernel
theorem dX7_setRectangle_8 : decode cX7_setRectangle 8 = .ok (.aload_n 0, 1) := by decide +kernel
theorem dX7_setRectangle_9 : decode cX7_setRectangle 9 = .ok (.iconst 1, 1) := by decide +kernel
theorem dX7_setRectangle_10 : decode cX7_setRectangle 10 = .ok (.invokevirtual 48, 3) := by decide +kernel
theorem dX7_setRectangle_13 : decode cX7_setRectangle 13 = .ok (.ireturn, 1) := by decide +kernel
theorem dX7_setRectangle_14 : decode cX7_setRectangle 14 = .ok (.iload_n 2, 1) := by decide +kernel
theorem dX7_setRectangle_15 : decode cX7_setRectangle 15 = .ok (.bipush (-20), 2) := by decide +kernel
theorem dX7_setRectangle_17 : decode cX7_setRectangle 17 = .ok (.bipush 39, 2) := by decide +kernel
theorem dX7_setRectangle_19 : decode cX7_setRectangle 19 = .ok (.invokestatic 41, 3) := by decide +kernel
theorem dX7_setRectangle_22 : decode cX7_setRectangle 22 = .ok (.ifCond .eq 40, 3) := by decide +kernel
theorem dX7_setRectangle_25 : decode cX7_setRectangle 25 = .ok (.iload_n 3, 1) := by decide +kernel
theorem dX7_setRectangle_26 : decode cX7_setRectangle 26 = .ok (.bipush (-20), 2) := by decide +kernel
theorem dX7_setRectangle_28 : decode cX7_setRectangle 28 = .ok (.bipush 39, 2) := by decide +kernel
theorem dX7_setRectangle_30 : decode cX7_setRectangle 30 = .ok (.invokestatic 41, 3) := by decide +kernel
theorem dX7_setRectangle_33 : decode cX7_setRectangle 33 = .ok (.ifCond .eq 29, 3) := by decide +kernel
theorem dX7_setRectangle_36 : decode cX7_setRectangle 36 = .ok (.iload 4, 2) := by decide +kernel
theorem dX7_setRectangle_38 : decode cX7_setRectangle 38 = .ok (.iload_n 2, 1) := by decide +kernel
theorem dX7_setRectangle_39 : decode cX7_setRectangle 39 = .ok (.iconst 1, 1) := by decide +kernel
theorem dX7_setRectangle_40 : decode cX7_setRectangle 40 = .ok (.iadd, 1) := by decide +kernel
theorem dX7_setRectangle_41 : decode cX7_setRectangle 41 = .ok (.bipush 40, 2) := by decide +kernel
theorem dX7_setRectangle_43 : decode cX7_setRectangle 43 = .ok (.invokestatic 41, 3) := by decide +kernel
theorem dX7_setRectangle_46 : decode cX7_setRectangle 46 = .ok (.ifCond .eq 16, 3) := by decide +kernel
theorem dX7_setRectangle_49 : decode cX7_setRectangle 49 = .ok (.iload 5, 2) := by decide +kernel
theorem dX7_setRectangle_51 : decode cX7_setRectangle 51 = .ok (.iload_n 3, 1) := by decide +kernel
theorem dX7_setRectangle_52 : decode cX7_setRectangle 52 = .ok (.iconst 1, 1) := by decide +kernel
theorem dX7_setRectangle_53 : decode cX7_setRectangle 53 = .ok (.iadd, 1) := by decide +kernel
theorem dX7_setRectangle_54 : decode cX7_setRectangle 54 = .ok (.bipush 40, 2) := by decide +kernel
theorem dX7_setRectangle_56 : decode cX7_setRectangle 56 = .ok (.invokestatic 41, 3) := by decide +kernel
theorem dX7_setRectangle_59 : decode cX7_setRectangle 59 = .ok (.ifCond .ne 9, 3) := by decide +kernel
theorem dX7_setRectangle_62 : decode cX7_setRectangle 62 = .ok (.aload_n 0, 1) := by decide +kernel
theorem dX7_setRectangle_63 : decode cX7_setRectangle 63 = .ok (.iconst 2, 1) := by decide +kernel
theorem dX7_setRectangle_64 : decode cX7_setRectangle 64 = .ok (.invokevirtual 48, 3) := by decide +kernel
theorem dX7_setRectangle_67 : decode cX7_setRectangle 67 = .ok (.ireturn, 1) := by decide +kernel
theorem dX7_setRectangle_68 : decode cX7_setRectangle 68 = .ok (.aload_n 0, 1) := by decide +kernel
theorem dX7_setRectangle_69 : decode cX7_setRectangle 69 = .ok (.invokevirtual 162, 3) := by decide +kernel
theorem dX7_setRectangle_72 : decode cX7_setRectangle 72 = .ok (.iconst 0, 1) := by decide +kernel
theorem dX7_setRectangle_73 : decode cX7_setRectangle 73 = .ok (.istore 6, 2) := by decide +kernel
theorem dX7_setRectangle_75 : decode cX7_setRectangle 75 = .ok (.iload 6, 2) := by decide +kernel
theorem dX7_setRectangle_77 : decode cX7_setRectangle 77 = .ok (.iconst 4, 1) := by decide +kernel
theorem dX7_setRectangle_78 : decode cX7_setRectangle 78 = .ok (.if_icmp .ge 56, 3) := by decide +kernel
theorem dX7_setRectangle_81 : decode cX7_setRectangle 81 = .ok (.aload_n 0, 1) := by decide +kernel
theorem dX7_setRectangle_82 : decode cX7_setRectangle 82 = .ok (.iload_n 1, 1) := by decide +kernel
theorem dX7_setRectangle_83 : decode cX7_setRectangle 83 = .ok (.iconst 0, 1) := by decide +kernel
theorem dX7_setRectangle_84 : decode cX7_setRectangle 84 = .ok (.iload 6, 2) := by decide +kernel
theorem dX7_setRectangle_86 : decode cX7_setRectangle 86 = .ok (.iadd, 1) := by decide +kernel
theorem dX7_setRectangle_87 : decode cX7_setRectangle 87 = .ok (.iload 6, 2) := by decide +kernel
theorem dX7_setRectangle_89 : decode cX7_setRectangle 89 = .ok (.ifCond .eq 9, 3) := by decide +kernel
theorem dX7_setRectangle_92 : decode cX7_setRectangle 92 = .ok (.iload 6, 2) := by decide +kernel
theorem dX7_setRectangle_94 : decode cX7_setRectangle 94 = .ok (.iconst 3, 1) := by decide +kernel
theorem dX7_setRectangle_95 : decode cX7_setRectangle 95 = .ok (.if_icmp .ne 7, 3) := by decide +kernel
theorem dX7_setRectangle_98 : decode cX7_setRectangle 98 = .ok (.iload_n 2, 1) := by decide +kernel
theorem dX7_setRectangle_99 : decode cX7_setRectangle 99 = .ok (.goto 5, 3) := by decide +kernel
theorem dX7_setRectangle_102 : decode cX7_setRectangle 102 = .ok (.iload 4, 2) := by decide +kernel
theorem dX7_setRectangle_104 : decode cX7_setRectangle 104 = .ok (.invokevirtual 146, 3) := by decide +kernel
theorem dX7_setRectangle_107 : decode cX7_setRectangle 107 = .ok (.aload_n 0, 1) := by decide +kernel
theorem dX7_setRectangle_108 : decode cX7_setRectangle 108 = .ok (.iload_n 1, 1) := by decide +kernel
theorem dX7_setRectangle_109 : decode cX7_setRectangle 109 = .ok (.iconst 4, 1) := by decide +kernel
theorem dX7_setRectangle_110 : decode cX7_setRectangle 110 = .ok (.iload 6, 2) := by decide +kernel
theorem dX7_setRectangle_112 : decode cX7_setRectangle 112 = .ok (.iadd, 1) := by decide +kernel
theorem dX7_setRectangle_113 : decode cX7_setRectangle 113 = .ok (.iload 6, 2) := by decide +kernel
theorem dX7_setRectangle_115 : decode cX7_setRectangle 115 = .ok (.iconst 2, 1) := by decide +kernel
theorem dX7_setRectangle_116 : decode cX7_setRectangle 116 = .ok (.if_icmp .ge 7, 3) := by decide +kernel
theorem dX7_setRectangle_119 : decode cX7_setRectangle 119 = .ok (.iload_n 3, 1) := by decide +kernel
theorem dX7_setRectangle_120 : decode cX7_setRectangle 120 = .ok (.goto 5, 3) := by decide +kernel
theorem dX7_setRectangle_123 : decode cX7_setRectangle 123 = .ok (.iload 5, 2) := by decide +kernel
theorem dX7_setRectangle_125 : decode cX7_setRectangle 125 = .ok (.invokevirtual 146, 3) := by decide +kernel
theorem dX7_setRectangle_128 : decode cX7_setRectangle 128 = .ok (.iinc 6 1, 3) := by decide +kernel
theorem dX7_setRectangle_131 : decode cX7_setRectangle 131 = .ok (.goto (-56), 3) := by decide +kernel
theorem dX7_setRectangle_134 : decode cX7_setRectangle 134 = .ok (.aload_n 0, 1) := by decide +kernel
theorem dX7_setRectangle_135 : decode cX7_setRectangle 135 = .ok (.iload_n 1, 1) := by decide +kernel
theorem dX7_setRectangle_136 : decode cX7_setRectangle 136 = .ok (.invokevirtual 139, 3) := by decide +kernel
theorem dX7_setRectangle_139 : decode cX7_setRectangle 139 = .ok (.aload_n 0, 1) := by decide +kernel
theorem dX7_setRectangle_140 : decode cX7_setRectangle 140 = .ok (.aload_n 0, 1) := by decide +kernel
theorem dX7_setRectangle_141 : decode cX7_setRectangle 141 = .ok (.getfield 121, 3) := by decide +kernel
theorem dX7_setRectangle_144 : decode cX7_setRectangle 144 = .ok (.putfield 55, 3) := by decide +kernel
theorem dX7_setRectangle_147 : decode cX7_setRectangle 147 = .ok (.aload_n 0, 1) := by decide +kernel
theorem dX7_setRectangle_148 : decode cX7_setRectangle 148 = .ok (.iconst 0, 1) := by decide +kernel
theorem dX7_setRectangle_149 : decode cX7_setRectangle 149 = .ok (.invokevirtual 168, 3) := by decide +kernel
theorem dX7_setRectangle_152 : decode cX7_setRectangle 152 = .ok (.ireturn, 1) := by decide +kernel
theorem dX7_setLamp_0 : decode cX7_setLamp 0 = .ok (.aload_n 0, 1) := by decide +kernel
theorem dX7_setLamp_1 : decode cX7_setLamp 1 = .ok (.iload_n 1, 1) := by decide +kernel
theorem dX7_setLamp_2 : decode cX7_setLamp 2 = .ok (.invokevirtual 150, 3) := by decide +kernel
theorem dX7_setLamp_5 : decode cX7_setLamp 5 = .ok (.ifCond .ne 9, 3) := by decide +kernel
theorem dX7_setLamp_8 : decode cX7_setLamp 8 = .ok (.aload_n 0, 1) := by decide +kernel
theorem dX7_setLamp_9 : decode cX7_setLamp 9 = .ok (.iconst 1, 1) := by decide +kernel
theorem dX7_setLamp_10 : decode cX7_setLamp 10 = .ok (.invokevirtual 48, 3) := by decide +kernel
theorem dX7_setLamp_13 : decode cX7_setLamp 13 = .ok (.ireturn, 1) := by decide +kernel
theorem dX7_setLamp_14 : decode cX7_setLamp 14 = .ok (.iload_n 2, 1) := by decide +kernel
theorem dX7_setLamp_15 : decode cX7_setLamp 15 = .ok (.iconst 0, 1) := by decide +kernel
theorem dX7_setLamp_16 : decode cX7_setLamp 16 = .ok (.iconst 2, 1) := by decide +kernel
theorem dX7_setLamp_17 : decode cX7_setLamp 17 = .ok (.invokestatic 41, 3) := by decide +kernel
theorem dX7_setLamp_20 : decode cX7_setLamp 20 = .ok (.ifCond .eq 25, 3) := by decide +kernel
theorem dX7_setLamp_23 : decode cX7_setLamp 23 = .ok (.iload_n 3, 1) := by decide +kernel
theorem dX7_setLamp_24 : decode cX7_setLamp 24 = .ok (.iconst 0, 1) := by decide +kernel
theorem dX7_setLamp_25 : decode cX7_setLamp 25 = .ok (.iload_n 2, 1) := by decide +kernel
theorem dX7_setLamp_26 : decode cX7_setLamp 26 = .ok (.iconst 2, 1) := by decide +kernel
theorem dX7_setLamp_27 : decode cX7_setLamp 27 = .ok (.if_icmp .ne 9, 3) := by decide +kernel
theorem dX7_setLamp_30 : decode cX7_setLamp 30 = .ok (.sipush 900, 3) := by decide +kernel
theorem dX7_setLamp_33 : decode cX7_setLamp 33 = .ok (.goto 6, 3) := by decide +kernel
theorem dX7_setLamp_36 : decode cX7_setLamp 36 = .ok (.sipush 255, 3) := by decide +kernel
theorem dX7_setLamp_39 : decode cX7_setLamp 39 = .ok (.invokestatic 41, 3) := by decide +kernel
theorem dX7_setLamp_42 : decode cX7_setLamp 42 = .ok (.ifCond .ne 9, 3) := by decide +kernel
theorem dX7_setLamp_45 : decode cX7_setLamp 45 = .ok (.aload_n 0, 1) := by decide +kernel
theorem dX7_setLamp_46 : decode cX7_setLamp 46 = .ok (.iconst 2, 1) := by decide +kernel
theorem dX7_setLamp_47 : decode cX7_setLamp 47 = .ok (.invokevirtual 48, 3) := by decide +kernel
theorem dX7_setLamp_50 : decode cX7_setLamp 50 = .ok (.ireturn, 1) := by decide +kernel
theorem dX7_setLamp_51 : decode cX7_setLamp 51 = .ok (.aload_n 0, 1) := by decide +kernel
theorem dX7_setLamp_52 : decode cX7_setLamp 52 = .ok (.invokevirtual 162, 3) := by decide +kernel
theorem dX7_setLamp_55 : decode cX7_setLamp 55 = .ok (.aload_n 0, 1) := by decide +kernel
theorem dX7_setLamp_56 : decode cX7_setLamp 56 = .ok (.aload_n 0, 1) := by decide +kernel
theorem dX7_setLamp_57 : decode cX7_setLamp 57 = .ok (.iload_n 1, 1) := by decide +kernel
theorem dX7_setLamp_58 : decode cX7_setLamp 58 = .ok (.bipush 8, 2) := by decide +kernel
theorem dX7_setLamp_60 : decode cX7_setLamp 60 = .ok (.iload_n 2, 1) := by decide +kernel
theorem dX7_setLamp_61 : decode cX7_setLamp 61 = .ok (.iadd, 1) := by decide +kernel
theorem dX7_setLamp_62 : decode cX7_setLamp 62 = .ok (.invokevirtual 61, 3) := by decide +kernel
theorem dX7_setLamp_65 : decode cX7_setLamp 65 = .ok (.putfield 55, 3) := by decide +kernel
theorem dX7_setLamp_68 : decode cX7_setLamp 68 = .ok (.aload_n 0, 1) := by decide +kernel
theorem dX7_setLamp_69 : decode cX7_setLamp 69 = .ok (.iload_n 1, 1) := by decide +kernel
theorem dX7_setLamp_70 : decode cX7_setLamp 70 = .ok (.bipush 8, 2) := by decide +kernel
theorem dX7_setLamp_72 : decode cX7_setLamp 72 = .ok (.iload_n 2, 1) := by decide +kernel
theorem dX7_setLamp_73 : decode cX7_setLamp 73 = .ok (.iadd, 1) := by decide +kernel
theorem dX7_setLamp_74 : decode cX7_setLamp 74 = .ok (.iload_n 3, 1) := by decide +kernel
theorem dX7_setLamp_75 : decode cX7_setLamp 75 = .ok (.invokevirtual 146, 3) := by decide +kernel
theorem dX7_setLamp_78 : decode cX7_setLamp 78 = .ok (.aload_n 0, 1) := by decide +kernel
theorem dX7_setLamp_79 : decode cX7_setLamp 79 = .ok (.iconst 0, 1) := by decide +kernel
theorem dX7_setLamp_80 : decode cX7_setLamp 80 = .ok (.invokevirtual 168, 3) := by decide +kernel
theorem dX7_setLamp_83 : decode cX7_setLamp 83 = .ok (.ireturn, 1) := by decide +kernel
theorem dX7_setWorks_0 : decode cX7_setWorks 0 = .ok (.aload_n 0, 1) := by decide +kernel
theorem dX7_setWorks_1 : decode cX7_setWorks 1 = .ok (.invokevirtual 162, 3) := by decide +kernel
theorem dX7_setWorks_4 : decode cX7_setWorks 4 = .ok (.aload_n 0, 1) := by decide +kernel
theorem dX7_setWorks_5 : decode cX7_setWorks 5 = .ok (.aload_n 0, 1) := by decide +kernel
theorem dX7_setWorks_6 : decode cX7_setWorks 6 = .ok (.iload_n 1, 1) := by decide +kernel
theorem dX7_setWorks_7 : decode cX7_setWorks 7 = .ok (.iload_n 2, 1) := by decide +kernel
theorem dX7_setWorks_8 : decode cX7_setWorks 8 = .ok (.invokevirtual 182, 3) := by decide +kernel
theorem dX7_setWorks_11 : decode cX7_setWorks 11 = .ok (.invokevirtual 168, 3) := by decide +kernel
theorem dX7_setWorks_14 : decode cX7_setWorks 14 = .ok (.ireturn, 1) := by decide +kernel
theorem dX7_shift_0 : decode cX7_shift 0 = .ok (.aload_n 0, 1) := by decide +kernel
theorem dX7_shift_1 : decode cX7_shift 1 = .ok (.invokevirtual 162, 3) := by decide +kernel
theorem dX7_shift_4 : decode cX7_shift 4 = .ok (.aload_n 0, 1) := by decide +kernel
theorem dX7_shift_5 : decode cX7_shift 5 = .ok (.aload_n 0, 1) := by decide +kernel
theorem dX7_shift_6 : decode cX7_shift 6 = .ok (.iload_n 1, 1) := by decide +kernel
theorem dX7_shift_7 : decode cX7_shift 7 = .ok (.iload_n 2, 1) := by decide +kernel
theorem dX7_shift_8 : decode cX7_shift 8 = .ok (.invokevirtual 186, 3) := by decide +kernel
theorem dX7_shift_11 : decode cX7_shift 11 = .ok (.invokevirtual 168, 3) := by decide +kernel
theorem dX7_shift_14 : decode cX7_shift 14 = .ok (.ireturn, 1) := by decide +kernel
theorem dX7_burn_0 : decode cX7_burn 0 = .ok (.aload_n 0, 1) := by decide +kernel
theorem dX7_burn_1 : decode cX7_burn 1 = .ok (.invokevirtual 162, 3) := by decide +kernel
theorem dX7_burn_4 : decode cX7_burn 4 = .ok (.aload_n 0, 1) := by decide +kernel
theorem dX7_burn_5 : decode cX7_burn 5 = .ok (.aload_n 0, 1) := by decide +kernel
theorem dX7_burn_6 : decode cX7_burn 6 = .ok (.iload_n 1, 1) := by decide +kernel
theorem dX7_burn_7 : decode cX7_burn 7 = .ok (.invokevirtual 189, 3) := by decide +kernel
theorem dX7_burn_10 : decode cX7_burn 10 = .ok (.invokevirtual 168, 3) := by decide +kernel
theorem dX7_burn_13 : decode cX7_burn 13 = .ok (.ireturn, 1) := by decide +kernel
theorem dX7_limits_0 : decode cX7_limits 0 = .ok (.iconst 0, 1) := by decide +kernel
theorem dX7_limits_1 : decode cX7_limits 1 = .ok (.istore_n 2, 1) := by decide +kernel
theorem dX7_limits_2 : decode cX7_limits 2 = .ok (.iconst 0, 1) := by decide +kernel
theorem dX7_limits_3 : decode cX7_limits 3 = .ok (.istore_n 3, 1) := by decide +kernel
theorem dX7_limits_4 : decode cX7_limits 4 = .ok (.iload_n 3, 1) := by decide +kernel
theorem dX7_limits_5 : decode cX7_limits 5 = .ok (.aload_n 0, 1) := by decide +kernel
theorem dX7_limits_6 : decode cX7_limits 6 = .ok (.getfield 7, 3) := by decide +kernel
theorem dX7_limits_9 : decode cX7_limits 9 = .ok (.iconst 4, 1) := by decide +kernel
theorem dX7_limits_10 : decode cX7_limits 10 = .ok (.iaload, 1) := by decide +kernel
theorem dX7_limits_11 : decode cX7_limits 11 = .ok (.if_icmp .ge 41, 3) := by decide +kernel
theorem dX7_limits_14 : decode cX7_limits 14 = .ok (.iload_n 2, 1) := by decide +kernel
theorem dX7_limits_15 : decode cX7_limits 15 = .ok (.aload_n 0, 1) := by decide +kernel
theorem dX7_limits_16 : decode cX7_limits 16 = .ok (.iload_n 3, 1) := by decide +kernel
theorem dX7_limits_17 : decode cX7_limits 17 = .ok (.invokevirtual 91, 3) := by decide +kernel
theorem dX7_limits_20 : decode cX7_limits 20 = .ok (.ifCond .ne 7, 3) := by decide +kernel
theorem dX7_limits_23 : decode cX7_limits 23 = .ok (.iconst 0, 1) := by decide +kernel
theorem dX7_limits_24 : decode cX7_limits 24 = .ok (.goto 20, 3) := by decide +kernel
theorem dX7_limits_27 : decode cX7_limits 27 = .ok (.iload_n 1, 1) := by decide +kernel
theorem dX7_limits_28 : decode cX7_limits 28 = .ok (.ifCond .eq 11, 3) := by decide +kernel
theorem dX7_limits_31 : decode cX7_limits 31 = .ok (.aload_n 0, 1) := by decide +kernel
theorem dX7_limits_32 : decode cX7_limits 32 = .ok (.iload_n 3, 1) := by decide +kernel
theorem dX7_limits_33 : decode cX7_limits 33 = .ok (.invokevirtual 105, 3) := by decide +kernel
theorem dX7_limits_36 : decode cX7_limits 36 = .ok (.goto 8, 3) := by decide +kernel
theorem dX7_limits_39 : decode cX7_limits 39 = .ok (.aload_n 0, 1) := by decide +kernel
theorem dX7_limits_40 : decode cX7_limits 40 = .ok (.iload_n 3, 1) := by decide +kernel
theorem dX7_limits_41 : decode cX7_limits 41 = .ok (.invokevirtual 65, 3) := by decide +kernel
theorem dX7_limits_44 : decode cX7_limits 44 = .ok (.iadd, 1) := by decide +kernel
theorem dX7_limits_45 : decode cX7_limits 45 = .ok (.istore_n 2, 1) := by decide +kernel
theorem dX7_limits_46 : decode cX7_limits 46 = .ok (.iinc 3 1, 3) := by decide +kernel
theorem dX7_limits_49 : decode cX7_limits 49 = .ok (.goto (-45), 3) := by decide +kernel
theorem dX7_limits_52 : decode cX7_limits 52 = .ok (.iload_n 2, 1) := by decide +kernel
theorem dX7_limits_53 : decode cX7_limits 53 = .ok (.ireturn, 1) := by decide +kernel
theorem dX7_placeOf_0 : decode cX7_placeOf 0 = .ok (.aload_n 0, 1) := by decide +kernel
theorem dX7_placeOf_1 : decode cX7_placeOf 1 = .ok (.iload_n 1, 1) := by decide +kernel
theorem dX7_placeOf_2 : decode cX7_placeOf 2 = .ok (.iload_n 2, 1) := by decide +kernel
theorem dX7_placeOf_3 : decode cX7_placeOf 3 = .ok (.invokevirtual 115, 3) := by decide +kernel
theorem dX7_placeOf_6 : decode cX7_placeOf 6 = .ok (.iload_n 3, 1) := by decide +kernel
theorem dX7_placeOf_7 : decode cX7_placeOf 7 = .ok (.tableswitch 53 0 3 #[29, 36, 41, 48], 29) := by decide +kernel
theorem dX7_placeOf_36 : decode cX7_placeOf 36 = .ok (.aload_n 0, 1) := by decide +kernel
theorem dX7_placeOf_37 : decode cX7_placeOf 37 = .ok (.iload_n 1, 1) := by decide +kernel
theorem dX7_placeOf_38 : decode cX7_placeOf 38 = .ok (.iload_n 2, 1) := by decide +kernel
theorem dX7_placeOf_39 : decode cX7_placeOf 39 = .ok (.invokevirtual 94, 3) := by decide +kernel
theorem dX7_placeOf_42 : decode cX7_placeOf 42 = .ok (.ireturn, 1) := by decide +kernel
theorem dX7_placeOf_43 : decode cX7_placeOf 43 = .ok (.aload_n 0, 1) := by decide +kernel
theorem dX7_placeOf_44 : decode cX7_placeOf 44 = .ok (.getfield 112, 3) := by decide +kernel
theorem dX7_placeOf_47 : decode cX7_placeOf 47 = .ok (.ireturn, 1) := by decide +kernel
theorem dX7_placeOf_48 : decode cX7_placeOf 48 = .ok (.aload_n 0, 1) := by decide +kernel
theorem dX7_placeOf_49 : decode cX7_placeOf 49 = .ok (.iload_n 1, 1) := by decide +kernel
theorem dX7_placeOf_50 : decode cX7_placeOf 50 = .ok (.iload_n 2, 1) := by decide +kernel
theorem dX7_placeOf_51 : decode cX7_placeOf 51 = .ok (.invokevirtual 118, 3) := by decide +kernel
theorem dX7_placeOf_54 : decode cX7_placeOf 54 = .ok (.ireturn, 1) := by decide +kernel
theorem dX7_placeOf_55 : decode cX7_placeOf 55 = .ok (.aload_n 0, 1) := by decide +kernel
theorem dX7_placeOf_56 : decode cX7_placeOf 56 = .ok (.getfield 80, 3) := by decide +kernel
theorem dX7_placeOf_59 : decode cX7_placeOf 59 = .ok (.ireturn, 1) := by decide +kernel
theorem dX7_placeOf_60 : decode cX7_placeOf 60 = .ok (.aload_n 0, 1) := by decide +kernel
theorem dX7_placeOf_61 : decode cX7_placeOf 61 = .ok (.iload_n 3, 1) := by decide +kernel
theorem dX7_placeOf_62 : decode cX7_placeOf 62 = .ok (.iconst 5, 1) := by decide +kernel
theorem dX7_placeOf_63 : decode cX7_placeOf 63 = .ok (.if_icmp .ne 7, 3) := by decide +kernel
theorem dX7_placeOf_66 : decode cX7_placeOf 66 = .ok (.iconst 1, 1) := by decide +kernel
theorem dX7_placeOf_67 : decode cX7_placeOf 67 = .ok (.goto 4, 3) := by decide +kernel
theorem dX7_placeOf_70 : decode cX7_placeOf 70 = .ok (.iconst 0, 1) := by decide +kernel
theorem dX7_placeOf_71 : decode cX7_placeOf 71 = .ok (.invokevirtual 192, 3) := by decide +kernel
theorem dX7_placeOf_74 : decode cX7_placeOf 74 = .ok (.ireturn, 1) := by decide +kernel
theorem dX7_place_0 : decode cX7_place 0 = .ok (.aload_n 0, 1) := by decide +kernel
theorem dX7_place_1 : decode cX7_place 1 = .ok (.iload_n 1, 1) := by decide +kernel
theorem dX7_place_2 : decode cX7_place 2 = .ok (.iload_n 2, 1) := by decide +kernel
theorem dX7_place_3 : decode cX7_place 3 = .ok (.invokevirtual 142, 3) := by decide +kernel
theorem dX7_place_6 : decode cX7_place 6 = .ok (.ifCond .ne 9, 3) := by decide +kernel
theorem dX7_place_9 : decode cX7_place 9 = .ok (.aload_n 0, 1) := by decide +kernel
theorem dX7_place_10 : decode cX7_place 10 = .ok (.iconst 1, 1) := by decide +kernel
theorem dX7_place_11 : decode cX7_place 11 = .ok (.invokevirtual 48, 3) := by decide +kernel
theorem dX7_place_14 : decode cX7_place 14 = .ok (.ireturn, 1) := by decide +kernel
theorem dX7_place_15 : decode cX7_place 15 = .ok (.iload_n 3, 1) := by decide +kernel
theorem dX7_place_16 : decode cX7_place 16 = .ok (.iconst 0, 1) := by decide +kernel
theorem dX7_place_17 : decode cX7_place 17 = .ok (.iconst 5, 1) := by decide +kernel
theorem dX7_place_18 : decode cX7_place 18 = .ok (.invokestatic 41, 3) := by decide +kernel
theorem dX7_place_21 : decode cX7_place 21 = .ok (.ifCond .eq 17, 3) := by decide +kernel
theorem dX7_place_24 : decode cX7_place 24 = .ok (.aload_n 0, 1) := by decide +kernel
theorem dX7_place_25 : decode cX7_place 25 = .ok (.aload_n 0, 1) := by decide +kernel
theorem dX7_place_26 : decode cX7_place 26 = .ok (.iload_n 1, 1) := by decide +kernel
theorem dX7_place_27 : decode cX7_place 27 = .ok (.iload_n 2, 1) := by decide +kernel
theorem dX7_place_28 : decode cX7_place 28 = .ok (.iload_n 3, 1) := by decide +kernel
theorem dX7_place_29 : decode cX7_place 29 = .ok (.invokevirtual 196, 3) := by decide +kernel
theorem dX7_place_32 : decode cX7_place 32 = .ok (.invokevirtual 58, 3) := by decide +kernel
theorem dX7_place_35 : decode cX7_place 35 = .ok (.goto 8, 3) := by decide +kernel
theorem dX7_place_38 : decode cX7_place 38 = .ok (.aload_n 0, 1) := by decide +kernel
theorem dX7_place_39 : decode cX7_place 39 = .ok (.iconst 2, 1) := by decide +kernel
theorem dX7_place_40 : decode cX7_place 40 = .ok (.invokevirtual 48, 3) := by decide +kernel
theorem dX7_place_43 : decode cX7_place 43 = .ok (.ireturn, 1) := by decide +kernel
theorem dX7_lightOf_0 : decode cX7_lightOf 0 = .ok (.aload_n 0, 1) := by decide +kernel
theorem dX7_lightOf_1 : decode cX7_lightOf 1 = .ok (.iload_n 2, 1) := by decide +kernel
theorem dX7_lightOf_2 : decode cX7_lightOf 2 = .ok (.iload_n 3, 1) := by decide +kernel
theorem dX7_lightOf_3 : decode cX7_lightOf 3 = .ok (.invokevirtual 115, 3) := by decide +kernel
theorem dX7_lightOf_6 : decode cX7_lightOf 6 = .ok (.aload_n 0, 1) := by decide +kernel
theorem dX7_lightOf_7 : decode cX7_lightOf 7 = .ok (.iload_n 1, 1) := by decide +kernel
theorem dX7_lightOf_8 : decode cX7_lightOf 8 = .ok (.invokevirtual 91, 3) := by decide +kernel
theorem dX7_lightOf_11 : decode cX7_lightOf 11 = .ok (.ifCond .eq 12, 3) := by decide +kernel
theorem dX7_lightOf_14 : decode cX7_lightOf 14 = .ok (.aload_n 0, 1) := by decide +kernel
theorem dX7_lightOf_15 : decode cX7_lightOf 15 = .ok (.getfield 29, 3) := by decide +kernel
theorem dX7_lightOf_18 : decode cX7_lightOf 18 = .ok (.iload_n 1, 1) := by decide +kernel
theorem dX7_lightOf_19 : decode cX7_lightOf 19 = .ok (.iaload, 1) := by decide +kernel
theorem dX7_lightOf_20 : decode cX7_lightOf 20 = .ok (.goto 6, 3) := by decide +kernel
theorem dX7_lightOf_23 : decode cX7_lightOf 23 = .ok (.sipush (-1000), 3) := by decide +kernel
theorem dX7_lightOf_26 : decode cX7_lightOf 26 = .ok (.ireturn, 1) := by decide +kernel
theorem dX7_light_0 : decode cX7_light 0 = .ok (.aload_n 0, 1) := by decide +kernel
theorem dX7_light_1 : decode cX7_light 1 = .ok (.iload_n 1, 1) := by decide +kernel
theorem dX7_light_2 : decode cX7_light 2 = .ok (.invokevirtual 150, 3) := by decide +kernel
theorem dX7_light_5 : decode cX7_light 5 = .ok (.ifCond .eq 26, 3) := by decide +kernel
theorem dX7_light_8 : decode cX7_light 8 = .ok (.aload_n 0, 1) := by decide +kernel
theorem dX7_light_9 : decode cX7_light 9 = .ok (.iload_n 2, 1) := by decide +kernel
theorem dX7_light_10 : decode cX7_light 10 = .ok (.iload_n 3, 1) := by decide +kernel
theorem dX7_light_11 : decode cX7_light 11 = .ok (.invokevirtual 142, 3) := by decide +kernel
theorem dX7_light_14 : decode cX7_light 14 = .ok (.ifCond .eq 17, 3) := by decide +kernel
theorem dX7_light_17 : decode cX7_light 17 = .ok (.aload_n 0, 1) := by decide +kernel
theorem dX7_light_18 : decode cX7_light 18 = .ok (.aload_n 0, 1) := by decide +kernel
theorem dX7_light_19 : decode cX7_light 19 = .ok (.iload_n 1, 1) := by decide +kernel
theorem dX7_light_20 : decode cX7_light 20 = .ok (.iload_n 2, 1) := by decide +kernel
theorem dX7_light_21 : decode cX7_light 21 = .ok (.iload_n 3, 1) := by decide +kernel
theorem dX7_light_22 : decode cX7_light 22 = .ok (.invokevirtual 199, 3) := by decide +kernel
theorem dX7_light_25 : decode cX7_light 25 = .ok (.invokevirtual 58, 3) := by decide +kernel
theorem dX7_light_28 : decode cX7_light 28 = .ok (.goto 8, 3) := by decide +kernel
theorem dX7_light_31 : decode cX7_light 31 = .ok (.aload_n 0, 1) := by decide +kernel
theorem dX7_light_32 : decode cX7_light 32 = .ok (.iconst 1, 1) := by decide +kernel
theorem dX7_light_33 : decode cX7_light 33 = .ok (.invokevirtual 48, 3) := by decide +kernel
theorem dX7_light_36 : decode cX7_light 36 = .ok (.ireturn, 1) := by decide +kernel
theorem dX7_weight_0 : decode cX7_weight 0 = .ok (.aload_n 0, 1) := by decide +kernel
theorem dX7_weight_1 : decode cX7_weight 1 = .ok (.iload_n 1, 1) := by decide +kernel
theorem dX7_weight_2 : decode cX7_weight 2 = .ok (.invokevirtual 150, 3) := by decide +kernel
theorem dX7_weight_5 : decode cX7_weight 5 = .ok (.ifCond .eq 12, 3) := by decide +kernel
theorem dX7_weight_8 : decode cX7_weight 8 = .ok (.aload_n 0, 1) := by decide +kernel
theorem dX7_weight_9 : decode cX7_weight 9 = .ok (.iload_n 2, 1) := by decide +kernel
theorem dX7_weight_10 : decode cX7_weight 10 = .ok (.iload_n 3, 1) := by decide +kernel
theorem dX7_weight_11 : decode cX7_weight 11 = .ok (.invokevirtual 142, 3) := by decide +kernel
theorem dX7_weight_14 : decode cX7_weight 14 = .ok (.ifCond .ne 9, 3) := by decide +kernel
theorem dX7_weight_17 : decode cX7_weight 17 = .ok (.aload_n 0, 1) := by decide +kernel
theorem dX7_weight_18 : decode cX7_weight 18 = .ok (.iconst 1, 1) := by decide +kernel
theorem dX7_weight_19 : decode cX7_weight 19 = .ok (.invokevirtual 48, 3) := by decide +kernel
theorem dX7_weight_22 : decode cX7_weight 22 = .ok (.ireturn, 1) := by decide +kernel
theorem dX7_weight_23 : decode cX7_weight 23 = .ok (.aload_n 0, 1) := by decide +kernel
theorem dX7_weight_24 : decode cX7_weight 24 = .ok (.iload_n 2, 1) := by decide +kernel
theorem dX7_weight_25 : decode cX7_weight 25 = .ok (.iload_n 3, 1) := by decide +kernel
theorem dX7_weight_26 : decode cX7_weight 26 = .ok (.invokevirtual 97, 3) := by decide +kernel
theorem dX7_weight_29 : decode cX7_weight 29 = .ok (.aload_n 0, 1) := by decide +kernel
theorem dX7_weight_30 : decode cX7_weight 30 = .ok (.aload_n 0, 1) := by decide +kernel
theorem dX7_weight_31 : decode cX7_weight 31 = .ok (.iload_n 1, 1) := by decide +kernel
theorem dX7_weight_32 : decode cX7_weight 32 = .ok (.invokevirtual 91, 3) := by decide +kernel
theorem dX7_weight_35 : decode cX7_weight 35 = .ok (.ifCond .eq 12, 3) := by decide +kernel
theorem dX7_weight_38 : decode cX7_weight 38 = .ok (.aload_n 0, 1) := by decide +kernel
theorem dX7_weight_39 : decode cX7_weight 39 = .ok (.getfield 26, 3) := by decide +kernel
theorem dX7_weight_42 : decode cX7_weight 42 = .ok (.iload_n 1, 1) := by decide +kernel
theorem dX7_weight_43 : decode cX7_weight 43 = .ok (.iaload, 1) := by decide +kernel
theorem dX7_weight_44 : decode cX7_weight 44 = .ok (.goto 6, 3) := by decide +kernel
theorem dX7_weight_47 : decode cX7_weight 47 = .ok (.sipush (-1000), 3) := by decide +kernel
theorem dX7_weight_50 : decode cX7_weight 50 = .ok (.invokevirtual 58, 3) := by decide +kernel
theorem dX7_weight_53 : decode cX7_weight 53 = .ok (.ireturn, 1) := by decide +kernel
theorem dX7_lampOf_0 : decode cX7_lampOf 0 = .ok (.iload_n 2, 1) := by decide +kernel
theorem dX7_lampOf_1 : decode cX7_lampOf 1 = .ok (.iconst 4, 1) := by decide +kernel
theorem dX7_lampOf_2 : decode cX7_lampOf 2 = .ok (.if_icmp .ge 13, 3) := by decide +kernel
theorem dX7_lampOf_5 : decode cX7_lampOf 5 = .ok (.aload_n 0, 1) := by decide +kernel
theorem dX7_lampOf_6 : decode cX7_lampOf 6 = .ok (.iload_n 1, 1) := by decide +kernel
theorem dX7_lampOf_7 : decode cX7_lampOf 7 = .ok (.bipush 8, 2) := by decide +kernel
theorem dX7_lampOf_9 : decode cX7_lampOf 9 = .ok (.iload_n 2, 1) := by decide +kernel
theorem dX7_lampOf_10 : decode cX7_lampOf 10 = .ok (.iadd, 1) := by decide +kernel
theorem dX7_lampOf_11 : decode cX7_lampOf 11 = .ok (.invokevirtual 61, 3) := by decide +kernel
theorem dX7_lampOf_14 : decode cX7_lampOf 14 = .ok (.ireturn, 1) := by decide +kernel
theorem dX7_lampOf_15 : decode cX7_lampOf 15 = .ok (.iload_n 2, 1) := by decide +kernel
theorem dX7_lampOf_16 : decode cX7_lampOf 16 = .ok (.bipush 7, 2) := by decide +kernel
theorem dX7_lampOf_18 : decode cX7_lampOf 18 = .ok (.if_icmp .ge 43, 3) := by decide +kernel
theorem dX7_lampOf_21 : decode cX7_lampOf 21 = .ok (.iload_n 2, 1) := by decide +kernel
theorem dX7_lampOf_22 : decode cX7_lampOf 22 = .ok (.iconst 4, 1) := by decide +kernel
theorem dX7_lampOf_23 : decode cX7_lampOf 23 = .ok (.if_icmp .ne 11, 3) := by decide +kernel
theorem dX7_lampOf_26 : decode cX7_lampOf 26 = .ok (.aload_n 0, 1) := by decide +kernel
theorem dX7_lampOf_27 : decode cX7_lampOf 27 = .ok (.iload_n 1, 1) := by decide +kernel
theorem dX7_lampOf_28 : decode cX7_lampOf 28 = .ok (.invokevirtual 65, 3) := by decide +kernel
theorem dX7_lampOf_31 : decode cX7_lampOf 31 = .ok (.goto 29, 3) := by decide +kernel
theorem dX7_lampOf_34 : decode cX7_lampOf 34 = .ok (.iload_n 2, 1) := by decide +kernel
theorem dX7_lampOf_35 : decode cX7_lampOf 35 = .ok (.iconst 5, 1) := by decide +kernel
theorem dX7_lampOf_36 : decode cX7_lampOf 36 = .ok (.if_icmp .ne 11, 3) := by decide +kernel
theorem dX7_lampOf_39 : decode cX7_lampOf 39 = .ok (.aload_n 0, 1) := by decide +kernel
theorem dX7_lampOf_40 : decode cX7_lampOf 40 = .ok (.iload_n 1, 1) := by decide +kernel
theorem dX7_lampOf_41 : decode cX7_lampOf 41 = .ok (.invokevirtual 105, 3) := by decide +kernel
theorem dX7_lampOf_44 : decode cX7_lampOf 44 = .ok (.goto 16, 3) := by decide +kernel
theorem dX7_lampOf_47 : decode cX7_lampOf 47 = .ok (.aload_n 0, 1) := by decide +kernel
theorem dX7_lampOf_48 : decode cX7_lampOf 48 = .ok (.iload_n 1, 1) := by decide +kernel
theorem dX7_lampOf_49 : decode cX7_lampOf 49 = .ok (.invokevirtual 83, 3) := by decide +kernel
theorem dX7_lampOf_52 : decode cX7_lampOf 52 = .ok (.ifCond .eq 7, 3) := by decide +kernel
theorem dX7_lampOf_55 : decode cX7_lampOf 55 = .ok (.iconst 1, 1) := by decide +kernel
theorem dX7_lampOf_56 : decode cX7_lampOf 56 = .ok (.goto 4, 3) := by decide +kernel
theorem dX7_lampOf_59 : decode cX7_lampOf 59 = .ok (.iconst 0, 1) := by decide +kernel
theorem dX7_lampOf_60 : decode cX7_lampOf 60 = .ok (.ireturn, 1) := by decide +kernel
theorem dX7_lampOf_61 : decode cX7_lampOf 61 = .ok (.aload_n 0, 1) := by decide +kernel
theorem dX7_lampOf_62 : decode cX7_lampOf 62 = .ok (.iload_n 1, 1) := by decide +kernel
theorem dX7_lampOf_63 : decode cX7_lampOf 63 = .ok (.invokevirtual 159, 3) := by decide +kernel
theorem dX7_lampOf_66 : decode cX7_lampOf 66 = .ok (.istore_n 3, 1) := by decide +kernel
theorem dX7_lampOf_67 : decode cX7_lampOf 67 = .ok (.iload_n 2, 1) := by decide +kernel
theorem dX7_lampOf_68 : decode cX7_lampOf 68 = .ok (.bipush 7, 2) := by decide +kernel
theorem dX7_lampOf_70 : decode cX7_lampOf 70 = .ok (.if_icmp .ne 10, 3) := by decide +kernel
theorem dX7_lampOf_73 : decode cX7_lampOf 73 = .ok (.aload_n 0, 1) := by decide +kernel
theorem dX7_lampOf_74 : decode cX7_lampOf 74 = .ok (.getfield 121, 3) := by decide +kernel
theorem dX7_lampOf_77 : decode cX7_lampOf 77 = .ok (.goto 43, 3) := by decide +kernel
theorem dX7_lampOf_80 : decode cX7_lampOf 80 = .ok (.iload_n 2, 1) := by decide +kernel
theorem dX7_lampOf_81 : decode cX7_lampOf 81 = .ok (.bipush 8, 2) := by decide +kernel
theorem dX7_lampOf_83 : decode cX7_lampOf 83 = .ok (.if_icmp .ne 10, 3) := by decide +kernel
theorem dX7_lampOf_86 : decode cX7_lampOf 86 = .ok (.aload_n 0, 1) := by decide +kernel
theorem dX7_lampOf_87 : decode cX7_lampOf 87 = .ok (.getfield 124, 3) := by decide +kernel
theorem dX7_lampOf_90 : decode cX7_lampOf 90 = .ok (.goto 30, 3) := by decide +kernel
theorem dX7_lampOf_93 : decode cX7_lampOf 93 = .ok (.iload_n 2, 1) := by decide +kernel
theorem dX7_lampOf_94 : decode cX7_lampOf 94 = .ok (.bipush 9, 2) := by decide +kernel
theorem dX7_lampOf_96 : decode cX7_lampOf 96 = .ok (.if_icmp .ne 7, 3) := by decide +kernel
theorem dX7_lampOf_99 : decode cX7_lampOf 99 = .ok (.iload_n 3, 1) := by decide +kernel
theorem dX7_lampOf_100 : decode cX7_lampOf 100 = .ok (.goto 20, 3) := by decide +kernel
theorem dX7_lampOf_103 : decode cX7_lampOf 103 = .ok (.iload_n 2, 1) := by decide +kernel
theorem dX7_lampOf_104 : decode cX7_lampOf 104 = .ok (.bipush 10, 2) := by decide +kernel
theorem dX7_lampOf_106 : decode cX7_lampOf 106 = .ok (.if_icmp .ne 10, 3) := by decide +kernel
theorem dX7_lampOf_109 : decode cX7_lampOf 109 = .ok (.aload_n 0, 1) := by decide +kernel
theorem dX7_lampOf_110 : decode cX7_lampOf 110 = .ok (.getfield 127, 3) := by decide +kernel
theorem dX7_lampOf_113 : decode cX7_lampOf 113 = .ok (.goto 7, 3) := by decide +kernel
theorem dX7_lampOf_116 : decode cX7_lampOf 116 = .ok (.aload_n 0, 1) := by decide +kernel
theorem dX7_lampOf_117 : decode cX7_lampOf 117 = .ok (.getfield 130, 3) := by decide +kernel
theorem dX7_lampOf_120 : decode cX7_lampOf 120 = .ok (.ireturn, 1) := by decide +kernel
theorem dX7_lamp_0 : decode cX7_lamp 0 = .ok (.aload_n 0, 1) := by decide +kernel
theorem dX7_lamp_1 : decode cX7_lamp 1 = .ok (.iload_n 1, 1) := by decide +kernel
theorem dX7_lamp_2 : decode cX7_lamp 2 = .ok (.invokevirtual 150, 3) := by decide +kernel
theorem dX7_lamp_5 : decode cX7_lamp 5 = .ok (.ifCond .ne 9, 3) := by decide +kernel
theorem dX7_lamp_8 : decode cX7_lamp 8 = .ok (.aload_n 0, 1) := by decide +kernel
theorem dX7_lamp_9 : decode cX7_lamp 9 = .ok (.iconst 1, 1) := by decide +kernel
theorem dX7_lamp_10 : decode cX7_lamp 10 = .ok (.invokevirtual 48, 3) := by decide +kernel
theorem dX7_lamp_13 : decode cX7_lamp 13 = .ok (.ireturn, 1) := by decide +kernel
theorem dX7_lamp_14 : decode cX7_lamp 14 = .ok (.iload_n 2, 1) := by decide +kernel
theorem dX7_lamp_15 : decode cX7_lamp 15 = .ok (.iconst 0, 1) := by decide +kernel
theorem dX7_lamp_16 : decode cX7_lamp 16 = .ok (.bipush 11, 2) := by decide +kernel
theorem dX7_lamp_18 : decode cX7_lamp 18 = .ok (.invokestatic 41, 3) := by decide +kernel
theorem dX7_lamp_21 : decode cX7_lamp 21 = .ok (.ifCond .eq 16, 3) := by decide +kernel
theorem dX7_lamp_24 : decode cX7_lamp 24 = .ok (.aload_n 0, 1) := by decide +kernel
theorem dX7_lamp_25 : decode cX7_lamp 25 = .ok (.aload_n 0, 1) := by decide +kernel
theorem dX7_lamp_26 : decode cX7_lamp 26 = .ok (.iload_n 1, 1) := by decide +kernel
theorem dX7_lamp_27 : decode cX7_lamp 27 = .ok (.iload_n 2, 1) := by decide +kernel
theorem dX7_lamp_28 : decode cX7_lamp 28 = .ok (.invokevirtual 202, 3) := by decide +kernel
theorem dX7_lamp_31 : decode cX7_lamp 31 = .ok (.invokevirtual 58, 3) := by decide +kernel
theorem dX7_lamp_34 : decode cX7_lamp 34 = .ok (.goto 8, 3) := by decide +kernel
theorem dX7_lamp_37 : decode cX7_lamp 37 = .ok (.aload_n 0, 1) := by decide +kernel
theorem dX7_lamp_38 : decode cX7_lamp 38 = .ok (.iconst 2, 1) := by decide +kernel
theorem dX7_lamp_39 : decode cX7_lamp 39 = .ok (.invokevirtual 48, 3) := by decide +kernel
theorem dX7_lamp_42 : decode cX7_lamp 42 = .ok (.ireturn, 1) := by decide +kernel
theorem dX7_corner_0 : decode cX7_corner 0 = .ok (.aload_n 0, 1) := by decide +kernel
theorem dX7_corner_1 : decode cX7_corner 1 = .ok (.iload_n 1, 1) := by decide +kernel
theorem dX7_corner_2 : decode cX7_corner 2 = .ok (.invokevirtual 150, 3) := by decide +kernel
theorem dX7_corner_5 : decode cX7_corner 5 = .ok (.ifCond .eq 10, 3) := by decide +kernel
theorem dX7_corner_8 : decode cX7_corner 8 = .ok (.iload_n 2, 1) := by decide +kernel
theorem dX7_corner_9 : decode cX7_corner 9 = .ok (.invokestatic 153, 3) := by decide +kernel
theorem dX7_corner_12 : decode cX7_corner 12 = .ok (.ifCond .ne 9, 3) := by decide +kernel
theorem dX7_corner_15 : decode cX7_corner 15 = .ok (.aload_n 0, 1) := by decide +kernel
theorem dX7_corner_16 : decode cX7_corner 16 = .ok (.iconst 1, 1) := by decide +kernel
theorem dX7_corner_17 : decode cX7_corner 17 = .ok (.invokevirtual 48, 3) := by decide +kernel
theorem dX7_corner_20 : decode cX7_corner 20 = .ok (.ireturn, 1) := by decide +kernel
theorem dX7_corner_21 : decode cX7_corner 21 = .ok (.iload_n 3, 1) := by decide +kernel
theorem dX7_corner_22 : decode cX7_corner 22 = .ok (.iconst 0, 1) := by decide +kernel
theorem dX7_corner_23 : decode cX7_corner 23 = .ok (.iconst 1, 1) := by decide +kernel
theorem dX7_corner_24 : decode cX7_corner 24 = .ok (.invokestatic 41, 3) := by decide +kernel
theorem dX7_corner_27 : decode cX7_corner 27 = .ok (.ifCond .eq 26, 3) := by decide +kernel
theorem dX7_corner_30 : decode cX7_corner 30 = .ok (.aload_n 0, 1) := by decide +kernel
theorem dX7_corner_31 : decode cX7_corner 31 = .ok (.aload_n 0, 1) := by decide +kernel
theorem dX7_corner_32 : decode cX7_corner 32 = .ok (.iload_n 1, 1) := by decide +kernel
theorem dX7_corner_33 : decode cX7_corner 33 = .ok (.iload_n 3, 1) := by decide +kernel
theorem dX7_corner_34 : decode cX7_corner 34 = .ok (.ifCond .ne 7, 3) := by decide +kernel
theorem dX7_corner_37 : decode cX7_corner 37 = .ok (.iconst 0, 1) := by decide +kernel
theorem dX7_corner_38 : decode cX7_corner 38 = .ok (.goto 4, 3) := by decide +kernel
theorem dX7_corner_41 : decode cX7_corner 41 = .ok (.iconst 4, 1) := by decide +kernel
theorem dX7_corner_42 : decode cX7_corner 42 = .ok (.iload_n 2, 1) := by decide +kernel
theorem dX7_corner_43 : decode cX7_corner 43 = .ok (.iadd, 1) := by decide +kernel
theorem dX7_corner_44 : decode cX7_corner 44 = .ok (.invokevirtual 61, 3) := by decide +kernel
theorem dX7_corner_47 : decode cX7_corner 47 = .ok (.invokevirtual 58, 3) := by decide +kernel
theorem dX7_corner_50 : decode cX7_corner 50 = .ok (.goto 8, 3) := by decide +kernel
theorem dX7_corner_53 : decode cX7_corner 53 = .ok (.aload_n 0, 1) := by decide +kernel
theorem dX7_corner_54 : decode cX7_corner 54 = .ok (.iconst 2, 1) := by decide +kernel
theorem dX7_corner_55 : decode cX7_corner 55 = .ok (.invokevirtual 48, 3) := by decide +kernel
theorem dX7_corner_58 : decode cX7_corner 58 = .ok (.ireturn, 1) := by decide +kernel
theorem dX7_working_0 : decode cX7_working 0 = .ok (.iconst 0, 1) := by decide +kernel
theorem dX7_working_1 : decode cX7_working 1 = .ok (.istore_n 1, 1) := by decide +kernel
theorem dX7_working_2 : decode cX7_working 2 = .ok (.iconst 0, 1) := by decide +kernel
theorem dX7_working_3 : decode cX7_working 3 = .ok (.istore_n 2, 1) := by decide +kernel
theorem dX7_working_4 : decode cX7_working 4 = .ok (.iload_n 2, 1) := by decide +kernel
theorem dX7_working_5 : decode cX7_working 5 = .ok (.aload_n 0, 1) := by decide +kernel
theorem dX7_working_6 : decode cX7_working 6 = .ok (.getfield 7, 3) := by decide +kernel
theorem dX7_working_9 : decode cX7_working 9 = .ok (.iconst 4, 1) := by decide +kernel
theorem dX7_working_10 : decode cX7_working 10 = .ok (.iaload, 1) := by decide +kernel
theorem dX7_working_11 : decode cX7_working 11 = .ok (.if_icmp .ge 19, 3) := by decide +kernel
theorem dX7_working_14 : decode cX7_working 14 = .ok (.iload_n 1, 1) := by decide +kernel
theorem dX7_working_15 : decode cX7_working 15 = .ok (.aload_n 0, 1) := by decide +kernel
theorem dX7_working_16 : decode cX7_working 16 = .ok (.iload_n 2, 1) := by decide +kernel
theorem dX7_working_17 : decode cX7_working 17 = .ok (.bipush 11, 2) := by decide +kernel
theorem dX7_working_19 : decode cX7_working 19 = .ok (.invokevirtual 61, 3) := by decide +kernel
theorem dX7_working_22 : decode cX7_working 22 = .ok (.iadd, 1) := by decide +kernel
theorem dX7_working_23 : decode cX7_working 23 = .ok (.istore_n 1, 1) := by decide +kernel
theorem dX7_working_24 : decode cX7_working 24 = .ok (.iinc 2 1, 3) := by decide +kernel
theorem dX7_working_27 : decode cX7_working 27 = .ok (.goto (-23), 3) := by decide +kernel
theorem dX7_working_30 : decode cX7_working 30 = .ok (.iload_n 1, 1) := by decide +kernel
theorem dX7_working_31 : decode cX7_working 31 = .ok (.ireturn, 1) := by decide +kernel
theorem dX7_overPlaces_0 : decode cX7_overPlaces 0 = .ok (.iconst 0, 1) := by decide +kernel
theorem dX7_overPlaces_1 : decode cX7_overPlaces 1 = .ok (.istore_n 2, 1) := by decide +kernel
theorem dX7_overPlaces_2 : decode cX7_overPlaces 2 = .ok (.iconst 0, 1) := by decide +kernel
theorem dX7_overPlaces_3 : decode cX7_overPlaces 3 = .ok (.istore_n 3, 1) := by decide +kernel
theorem dX7_overPlaces_4 : decode cX7_overPlaces 4 = .ok (.iload_n 3, 1) := by decide +kernel
theorem dX7_overPlaces_5 : decode cX7_overPlaces 5 = .ok (.aload_n 0, 1) := by decide +kernel
theorem dX7_overPlaces_6 : decode cX7_overPlaces 6 = .ok (.getfield 7, 3) := by decide +kernel
theorem dX7_overPlaces_9 : decode cX7_overPlaces 9 = .ok (.iconst 1, 1) := by decide +kernel
theorem dX7_overPlaces_10 : decode cX7_overPlaces 10 = .ok (.iaload, 1) := by decide +kernel
theorem dX7_overPlaces_11 : decode cX7_overPlaces 11 = .ok (.if_icmp .ge 116, 3) := by decide +kernel
theorem dX7_overPlaces_14 : decode cX7_overPlaces 14 = .ok (.iconst 0, 1) := by decide +kernel
theorem dX7_overPlaces_15 : decode cX7_overPlaces 15 = .ok (.istore 4, 2) := by decide +kernel
theorem dX7_overPlaces_17 : decode cX7_overPlaces 17 = .ok (.iload 4, 2) := by decide +kernel
theorem dX7_overPlaces_19 : decode cX7_overPlaces 19 = .ok (.aload_n 0, 1) := by decide +kernel
theorem dX7_overPlaces_20 : decode cX7_overPlaces 20 = .ok (.getfield 7, 3) := by decide +kernel
theorem dX7_overPlaces_23 : decode cX7_overPlaces 23 = .ok (.iconst 0, 1) := by decide +kernel
theorem dX7_overPlaces_24 : decode cX7_overPlaces 24 = .ok (.iaload, 1) := by decide +kernel
theorem dX7_overPlaces_25 : decode cX7_overPlaces 25 = .ok (.if_icmp .ge 96, 3) := by decide +kernel
theorem dX7_overPlaces_28 : decode cX7_overPlaces 28 = .ok (.aload_n 0, 1) := by decide +kernel
theorem dX7_overPlaces_29 : decode cX7_overPlaces 29 = .ok (.iload 4, 2) := by decide +kernel
theorem dX7_overPlaces_31 : decode cX7_overPlaces 31 = .ok (.iload_n 3, 1) := by decide +kernel
theorem dX7_overPlaces_32 : decode cX7_overPlaces 32 = .ok (.invokevirtual 115, 3) := by decide +kernel
theorem dX7_overPlaces_35 : decode cX7_overPlaces 35 = .ok (.iload_n 1, 1) := by decide +kernel
theorem dX7_overPlaces_36 : decode cX7_overPlaces 36 = .ok (.bipush 13, 2) := by decide +kernel
theorem dX7_overPlaces_38 : decode cX7_overPlaces 38 = .ok (.if_icmp .ne 22, 3) := by decide +kernel
theorem dX7_overPlaces_41 : decode cX7_overPlaces 41 = .ok (.aload_n 0, 1) := by decide +kernel
theorem dX7_overPlaces_42 : decode cX7_overPlaces 42 = .ok (.getfield 80, 3) := by decide +kernel
theorem dX7_overPlaces_45 : decode cX7_overPlaces 45 = .ok (.invokestatic 136, 3) := by decide +kernel
theorem dX7_overPlaces_48 : decode cX7_overPlaces 48 = .ok (.iconst 1, 1) := by decide +kernel
theorem dX7_overPlaces_49 : decode cX7_overPlaces 49 = .ok (.if_icmp .le 7, 3) := by decide +kernel
theorem dX7_overPlaces_52 : decode cX7_overPlaces 52 = .ok (.iconst 1, 1) := by decide +kernel
theorem dX7_overPlaces_53 : decode cX7_overPlaces 53 = .ok (.goto 26, 3) := by decide +kernel
theorem dX7_overPlaces_56 : decode cX7_overPlaces 56 = .ok (.iconst 0, 1) := by decide +kernel
theorem dX7_overPlaces_57 : decode cX7_overPlaces 57 = .ok (.goto 22, 3) := by decide +kernel
theorem dX7_overPlaces_60 : decode cX7_overPlaces 60 = .ok (.aload_n 0, 1) := by decide +kernel
theorem dX7_overPlaces_61 : decode cX7_overPlaces 61 = .ok (.iload 4, 2) := by decide +kernel
theorem dX7_overPlaces_63 : decode cX7_overPlaces 63 = .ok (.iload_n 3, 1) := by decide +kernel
theorem dX7_overPlaces_64 : decode cX7_overPlaces 64 = .ok (.invokevirtual 118, 3) := by decide +kernel
theorem dX7_overPlaces_67 : decode cX7_overPlaces 67 = .ok (.iload_n 1, 1) := by decide +kernel
theorem dX7_overPlaces_68 : decode cX7_overPlaces 68 = .ok (.bipush 6, 2) := by decide +kernel
theorem dX7_overPlaces_70 : decode cX7_overPlaces 70 = .ok (.isub, 1) := by decide +kernel
theorem dX7_overPlaces_71 : decode cX7_overPlaces 71 = .ok (.if_icmp .ne 7, 3) := by decide +kernel
theorem dX7_overPlaces_74 : decode cX7_overPlaces 74 = .ok (.iconst 1, 1) := by decide +kernel
theorem dX7_overPlaces_75 : decode cX7_overPlaces 75 = .ok (.goto 4, 3) := by decide +kernel
theorem dX7_overPlaces_78 : decode cX7_overPlaces 78 = .ok (.iconst 0, 1) := by decide +kernel
theorem dX7_overPlaces_79 : decode cX7_overPlaces 79 = .ok (.istore 5, 2) := by decide +kernel
theorem dX7_overPlaces_81 : decode cX7_overPlaces 81 = .ok (.iload_n 2, 1) := by decide +kernel
theorem dX7_overPlaces_82 : decode cX7_overPlaces 82 = .ok (.iload_n 1, 1) := by decide +kernel
theorem dX7_overPlaces_83 : decode cX7_overPlaces 83 = .ok (.bipush 10, 2) := by decide +kernel
theorem dX7_overPlaces_85 : decode cX7_overPlaces 85 = .ok (.if_icmp .ne 13, 3) := by decide +kernel
theorem dX7_overPlaces_88 : decode cX7_overPlaces 88 = .ok (.aload_n 0, 1) := by decide +kernel
theorem dX7_overPlaces_89 : decode cX7_overPlaces 89 = .ok (.iload 4, 2) := by decide +kernel
theorem dX7_overPlaces_91 : decode cX7_overPlaces 91 = .ok (.iload_n 3, 1) := by decide +kernel
theorem dX7_overPlaces_92 : decode cX7_overPlaces 92 = .ok (.invokevirtual 94, 3) := by decide +kernel
theorem dX7_overPlaces_95 : decode cX7_overPlaces 95 = .ok (.goto 18, 3) := by decide +kernel
theorem dX7_overPlaces_98 : decode cX7_overPlaces 98 = .ok (.iload_n 1, 1) := by decide +kernel
theorem dX7_overPlaces_99 : decode cX7_overPlaces 99 = .ok (.bipush 11, 2) := by decide +kernel
theorem dX7_overPlaces_101 : decode cX7_overPlaces 101 = .ok (.if_icmp .ne 10, 3) := by decide +kernel
theorem dX7_overPlaces_104 : decode cX7_overPlaces 104 = .ok (.aload_n 0, 1) := by decide +kernel
theorem dX7_overPlaces_105 : decode cX7_overPlaces 105 = .ok (.getfield 112, 3) := by decide +kernel
theorem dX7_overPlaces_108 : decode cX7_overPlaces 108 = .ok (.goto 5, 3) := by decide +kernel
theorem dX7_overPlaces_111 : decode cX7_overPlaces 111 = .ok (.iload 5, 2) := by decide +kernel
theorem dX7_overPlaces_113 : decode cX7_overPlaces 113 = .ok (.iadd, 1) := by decide +kernel
theorem dX7_overPlaces_114 : decode cX7_overPlaces 114 = .ok (.istore_n 2, 1) := by decide +kernel
theorem dX7_overPlaces_115 : decode cX7_overPlaces 115 = .ok (.iinc 4 1, 3) := by decide +kernel
theorem dX7_overPlaces_118 : decode cX7_overPlaces 118 = .ok (.goto (-101), 3) := by decide +kernel
theorem dX7_overPlaces_121 : decode cX7_overPlaces 121 = .ok (.iinc 3 1, 3) := by decide +kernel
theorem dX7_overPlaces_124 : decode cX7_overPlaces 124 = .ok (.goto (-120), 3) := by decide +kernel
theorem dX7_overPlaces_127 : decode cX7_overPlaces 127 = .ok (.iload_n 2, 1) := by decide +kernel
theorem dX7_overPlaces_128 : decode cX7_overPlaces 128 = .ok (.ireturn, 1) := by decide +kernel
theorem dX7_wholeOf_0 : decode cX7_wholeOf 0 = .ok (.iload_n 1, 1) := by decide +kernel
theorem dX7_wholeOf_1 : decode cX7_wholeOf 1 = .ok (.lookupswitch 52 #[(5, 35), (12, 40), (14, 47)], 35) := by decide +kernel
theorem dX7_wholeOf_36 : decode cX7_wholeOf 36 = .ok (.aload_n 0, 1) := by decide +kernel
theorem dX7_wholeOf_37 : decode cX7_wholeOf 37 = .ok (.invokevirtual 205, 3) := by decide +kernel
theorem dX7_wholeOf_40 : decode cX7_wholeOf 40 = .ok (.ireturn, 1) := by decide +kernel
theorem dX7_wholeOf_41 : decode cX7_wholeOf 41 = .ok (.aload_n 0, 1) := by decide +kernel
theorem dX7_wholeOf_42 : decode cX7_wholeOf 42 = .ok (.getfield 7, 3) := by decide +kernel
theorem dX7_wholeOf_45 : decode cX7_wholeOf 45 = .ok (.iconst 5, 1) := by decide +kernel
theorem dX7_wholeOf_46 : decode cX7_wholeOf 46 = .ok (.iaload, 1) := by decide +kernel
theorem dX7_wholeOf_47 : decode cX7_wholeOf 47 = .ok (.ireturn, 1) := by decide +kernel
theorem dX7_wholeOf_48 : decode cX7_wholeOf 48 = .ok (.aload_n 0, 1) := by decide +kernel
theorem dX7_wholeOf_49 : decode cX7_wholeOf 49 = .ok (.getfield 208, 3) := by decide +kernel
theorem dX7_wholeOf_52 : decode cX7_wholeOf 52 = .ok (.ireturn, 1) := by decide +kernel
theorem dX7_wholeOf_53 : decode cX7_wholeOf 53 = .ok (.iload_n 1, 1) := by decide +kernel
theorem dX7_wholeOf_54 : decode cX7_wholeOf 54 = .ok (.iconst 5, 1) := by decide +kernel
theorem dX7_wholeOf_55 : decode cX7_wholeOf 55 = .ok (.if_icmp .ge 12, 3) := by decide +kernel
theorem dX7_wholeOf_58 : decode cX7_wholeOf 58 = .ok (.aload_n 0, 1) := by decide +kernel
theorem dX7_wholeOf_59 : decode cX7_wholeOf 59 = .ok (.getfield 7, 3) := by decide +kernel
theorem dX7_wholeOf_62 : decode cX7_wholeOf 62 = .ok (.iload_n 1, 1) := by decide +kernel
theorem dX7_wholeOf_63 : decode cX7_wholeOf 63 = .ok (.iaload, 1) := by decide +kernel
theorem dX7_wholeOf_64 : decode cX7_wholeOf 64 = .ok (.goto 8, 3) := by decide +kernel
theorem dX7_wholeOf_67 : decode cX7_wholeOf 67 = .ok (.aload_n 0, 1) := by decide +kernel
theorem dX7_wholeOf_68 : decode cX7_wholeOf 68 = .ok (.iload_n 1, 1) := by decide +kernel
theorem dX7_wholeOf_69 : decode cX7_wholeOf 69 = .ok (.invokevirtual 211, 3) := by decide +kernel
theorem dX7_wholeOf_72 : decode cX7_wholeOf 72 = .ok (.ireturn, 1) := by decide +kernel
theorem dX7_whole_0 : decode cX7_whole 0 = .ok (.iload_n 1, 1) := by decide +kernel
theorem dX7_whole_1 : decode cX7_whole 1 = .ok (.iconst 0, 1) := by decide +kernel
theorem dX7_whole_2 : decode cX7_whole 2 = .ok (.bipush 14, 2) := by decide +kernel
theorem dX7_whole_4 : decode cX7_whole 4 = .ok (.invokestatic 41, 3) := by decide +kernel
theorem dX7_whole_7 : decode cX7_whole 7 = .ok (.ifCond .eq 15, 3) := by decide +kernel
theorem dX7_whole_10 : decode cX7_whole 10 = .ok (.aload_n 0, 1) := by decide +kernel
theorem dX7_whole_11 : decode cX7_whole 11 = .ok (.aload_n 0, 1) := by decide +kernel
theorem dX7_whole_12 : decode cX7_whole 12 = .ok (.iload_n 1, 1) := by decide +kernel
theorem dX7_whole_13 : decode cX7_whole 13 = .ok (.invokevirtual 214, 3) := by decide +kernel
theorem dX7_whole_16 : decode cX7_whole 16 = .ok (.invokevirtual 58, 3) := by decide +kernel
theorem dX7_whole_19 : decode cX7_whole 19 = .ok (.goto 8, 3) := by decide +kernel
theorem dX7_whole_22 : decode cX7_whole 22 = .ok (.aload_n 0, 1) := by decide +kernel
theorem dX7_whole_23 : decode cX7_whole 23 = .ok (.iconst 1, 1) := by decide +kernel
theorem dX7_whole_24 : decode cX7_whole 24 = .ok (.invokevirtual 48, 3) := by decide +kernel
theorem dX7_whole_27 : decode cX7_whole 27 = .ok (.ireturn, 1) := by decide +kernel
theorem dX7_wrong_0 : decode cX7_wrong 0 = .ok (.iload_n 1, 1) := by decide +kernel
theorem dX7_wrong_1 : decode cX7_wrong 1 = .ok (.ifCond .ge 9, 3) := by decide +kernel
theorem dX7_wrong_4 : decode cX7_wrong 4 = .ok (.aload_n 0, 1) := by decide +kernel
theorem dX7_wrong_5 : decode cX7_wrong 5 = .ok (.iconst 1, 1) := by decide +kernel
theorem dX7_wrong_6 : decode cX7_wrong 6 = .ok (.invokevirtual 48, 3) := by decide +kernel
theorem dX7_wrong_9 : decode cX7_wrong 9 = .ok (.ireturn, 1) := by decide +kernel
theorem dX7_wrong_10 : decode cX7_wrong 10 = .ok (.iload_n 1, 1) := by decide +kernel
theorem dX7_wrong_11 : decode cX7_wrong 11 = .ok (.istore_n 2, 1) := by decide +kernel
theorem dX7_wrong_12 : decode cX7_wrong 12 = .ok (.iconst 0, 1) := by decide +kernel
theorem dX7_wrong_13 : decode cX7_wrong 13 = .ok (.istore_n 3, 1) := by decide +kernel
theorem dX7_wrong_14 : decode cX7_wrong 14 = .ok (.iload_n 3, 1) := by decide +kernel
theorem dX7_wrong_15 : decode cX7_wrong 15 = .ok (.aload_n 0, 1) := by decide +kernel
theorem dX7_wrong_16 : decode cX7_wrong 16 = .ok (.getfield 7, 3) := by decide +kernel
theorem dX7_wrong_19 : decode cX7_wrong 19 = .ok (.iconst 1, 1) := by decide +kernel
theorem dX7_wrong_20 : decode cX7_wrong 20 = .ok (.iaload, 1) := by decide +kernel
theorem dX7_wrong_21 : decode cX7_wrong 21 = .ok (.if_icmp .ge 65, 3) := by decide +kernel
theorem dX7_wrong_24 : decode cX7_wrong 24 = .ok (.iconst 0, 1) := by decide +kernel
theorem dX7_wrong_25 : decode cX7_wrong 25 = .ok (.istore 4, 2) := by decide +kernel
theorem dX7_wrong_27 : decode cX7_wrong 27 = .ok (.iload 4, 2) := by decide +kernel
theorem dX7_wrong_29 : decode cX7_wrong 29 = .ok (.aload_n 0, 1) := by decide +kernel
theorem dX7_wrong_30 : decode cX7_wrong 30 = .ok (.getfield 7, 3) := by decide +kernel
theorem dX7_wrong_33 : decode cX7_wrong 33 = .ok (.iconst 0, 1) := by decide +kernel
theorem dX7_wrong_34 : decode cX7_wrong 34 = .ok (.iaload, 1) := by decide +kernel
theorem dX7_wrong_35 : decode cX7_wrong 35 = .ok (.if_icmp .ge 45, 3) := by decide +kernel
theorem dX7_wrong_38 : decode cX7_wrong 38 = .ok (.aload_n 0, 1) := by decide +kernel
theorem dX7_wrong_39 : decode cX7_wrong 39 = .ok (.iload 4, 2) := by decide +kernel
theorem dX7_wrong_41 : decode cX7_wrong 41 = .ok (.iload_n 3, 1) := by decide +kernel
theorem dX7_wrong_42 : decode cX7_wrong 42 = .ok (.invokevirtual 115, 3) := by decide +kernel
theorem dX7_wrong_45 : decode cX7_wrong 45 = .ok (.aload_n 0, 1) := by decide +kernel
theorem dX7_wrong_46 : decode cX7_wrong 46 = .ok (.iload 4, 2) := by decide +kernel
theorem dX7_wrong_48 : decode cX7_wrong 48 = .ok (.iload_n 3, 1) := by decide +kernel
theorem dX7_wrong_49 : decode cX7_wrong 49 = .ok (.invokevirtual 118, 3) := by decide +kernel
theorem dX7_wrong_52 : decode cX7_wrong 52 = .ok (.ifCond .eq 22, 3) := by decide +kernel
theorem dX7_wrong_55 : decode cX7_wrong 55 = .ok (.iload_n 2, 1) := by decide +kernel
theorem dX7_wrong_56 : decode cX7_wrong 56 = .ok (.ifCond .ne 15, 3) := by decide +kernel
theorem dX7_wrong_59 : decode cX7_wrong 59 = .ok (.aload_n 0, 1) := by decide +kernel
theorem dX7_wrong_60 : decode cX7_wrong 60 = .ok (.bipush 100, 2) := by decide +kernel
theorem dX7_wrong_62 : decode cX7_wrong 62 = .ok (.iload_n 3, 1) := by decide +kernel
theorem dX7_wrong_63 : decode cX7_wrong 63 = .ok (.imul, 1) := by decide +kernel
theorem dX7_wrong_64 : decode cX7_wrong 64 = .ok (.iload 4, 2) := by decide +kernel
theorem dX7_wrong_66 : decode cX7_wrong 66 = .ok (.iadd, 1) := by decide +kernel
theorem dX7_wrong_67 : decode cX7_wrong 67 = .ok (.invokevirtual 58, 3) := by decide +kernel
theorem dX7_wrong_70 : decode cX7_wrong 70 = .ok (.ireturn, 1) := by decide +kernel
theorem dX7_wrong_71 : decode cX7_wrong 71 = .ok (.iinc 2 (-1), 3) := by decide +kernel
theorem dX7_wrong_74 : decode cX7_wrong 74 = .ok (.iinc 4 1, 3) := by decide +kernel
theorem dX7_wrong_77 : decode cX7_wrong 77 = .ok (.goto (-50), 3) := by decide +kernel
theorem dX7_wrong_80 : decode cX7_wrong 80 = .ok (.iinc 3 1, 3) := by decide +kernel
theorem dX7_wrong_83 : decode cX7_wrong 83 = .ok (.goto (-69), 3) := by decide +kernel
theorem dX7_wrong_86 : decode cX7_wrong 86 = .ok (.aload_n 0, 1) := by decide +kernel
theorem dX7_wrong_87 : decode cX7_wrong 87 = .ok (.sipush (-1000), 3) := by decide +kernel
theorem dX7_wrong_90 : decode cX7_wrong 90 = .ok (.invokevirtual 58, 3) := by decide +kernel
theorem dX7_wrong_93 : decode cX7_wrong 93 = .ok (.ireturn, 1) := by decide +kernel
theorem dX7_wrongBut_0 : decode cX7_wrongBut 0 = .ok (.aload_n 0, 1) := by decide +kernel
theorem dX7_wrongBut_1 : decode cX7_wrongBut 1 = .ok (.iload_n 1, 1) := by decide +kernel
theorem dX7_wrongBut_2 : decode cX7_wrongBut 2 = .ok (.putfield 22, 3) := by decide +kernel
theorem dX7_wrongBut_5 : decode cX7_wrongBut 5 = .ok (.aload_n 0, 1) := by decide +kernel
theorem dX7_wrongBut_6 : decode cX7_wrongBut 6 = .ok (.invokevirtual 156, 3) := by decide +kernel
theorem dX7_wrongBut_9 : decode cX7_wrongBut 9 = .ok (.istore_n 2, 1) := by decide +kernel
theorem dX7_wrongBut_10 : decode cX7_wrongBut 10 = .ok (.aload_n 0, 1) := by decide +kernel
theorem dX7_wrongBut_11 : decode cX7_wrongBut 11 = .ok (.sipush (-1000), 3) := by decide +kernel
theorem dX7_wrongBut_14 : decode cX7_wrongBut 14 = .ok (.putfield 22, 3) := by decide +kernel
theorem dX7_wrongBut_17 : decode cX7_wrongBut 17 = .ok (.iload_n 2, 1) := by decide +kernel
theorem dX7_wrongBut_18 : decode cX7_wrongBut 18 = .ok (.ireturn, 1) := by decide +kernel
theorem dX7_wrongWithout_0 : decode cX7_wrongWithout 0 = .ok (.aload_n 0, 1) := by decide +kernel
theorem dX7_wrongWithout_1 : decode cX7_wrongWithout 1 = .ok (.iload_n 1, 1) := by decide +kernel
theorem dX7_wrongWithout_2 : decode cX7_wrongWithout 2 = .ok (.invokevirtual 150, 3) := by decide +kernel
theorem dX7_wrongWithout_5 : decode cX7_wrongWithout 5 = .ok (.ifCond .eq 15, 3) := by decide +kernel
theorem dX7_wrongWithout_8 : decode cX7_wrongWithout 8 = .ok (.aload_n 0, 1) := by decide +kernel
theorem dX7_wrongWithout_9 : decode cX7_wrongWithout 9 = .ok (.aload_n 0, 1) := by decide +kernel
theorem dX7_wrongWithout_10 : decode cX7_wrongWithout 10 = .ok (.iload_n 1, 1) := by decide +kernel
theorem dX7_wrongWithout_11 : decode cX7_wrongWithout 11 = .ok (.invokevirtual 217, 3) := by decide +kernel
theorem dX7_wrongWithout_14 : decode cX7_wrongWithout 14 = .ok (.invokevirtual 58, 3) := by decide +kernel
theorem dX7_wrongWithout_17 : decode cX7_wrongWithout 17 = .ok (.goto 8, 3) := by decide +kernel
theorem dX7_wrongWithout_20 : decode cX7_wrongWithout 20 = .ok (.aload_n 0, 1) := by decide +kernel
theorem dX7_wrongWithout_21 : decode cX7_wrongWithout 21 = .ok (.iconst 1, 1) := by decide +kernel
theorem dX7_wrongWithout_22 : decode cX7_wrongWithout 22 = .ok (.invokevirtual 48, 3) := by decide +kernel
theorem dX7_wrongWithout_25 : decode cX7_wrongWithout 25 = .ok (.ireturn, 1) := by decide +kernel
theorem dX7_dearestLamp_0 : decode cX7_dearestLamp 0 = .ok (.sipush (-1000), 3) := by decide +kernel
theorem dX7_dearestLamp_3 : decode cX7_dearestLamp 3 = .ok (.istore_n 1, 1) := by decide +kernel
theorem dX7_dearestLamp_4 : decode cX7_dearestLamp 4 = .ok (.iconst (-1), 1) := by decide +kernel
theorem dX7_dearestLamp_5 : decode cX7_dearestLamp 5 = .ok (.istore_n 2, 1) := by decide +kernel
theorem dX7_dearestLamp_6 : decode cX7_dearestLamp 6 = .ok (.iconst 0, 1) := by decide +kernel
theorem dX7_dearestLamp_7 : decode cX7_dearestLamp 7 = .ok (.istore_n 3, 1) := by decide +kernel
theorem dX7_dearestLamp_8 : decode cX7_dearestLamp 8 = .ok (.iload_n 3, 1) := by decide +kernel
theorem dX7_dearestLamp_9 : decode cX7_dearestLamp 9 = .ok (.aload_n 0, 1) := by decide +kernel
theorem dX7_dearestLamp_10 : decode cX7_dearestLamp 10 = .ok (.getfield 7, 3) := by decide +kernel
theorem dX7_dearestLamp_13 : decode cX7_dearestLamp 13 = .ok (.iconst 4, 1) := by decide +kernel
theorem dX7_dearestLamp_14 : decode cX7_dearestLamp 14 = .ok (.iaload, 1) := by decide +kernel
theorem dX7_dearestLamp_15 : decode cX7_dearestLamp 15 = .ok (.if_icmp .ge 41, 3) := by decide +kernel
theorem dX7_dearestLamp_18 : decode cX7_dearestLamp 18 = .ok (.aload_n 0, 1) := by decide +kernel
theorem dX7_dearestLamp_19 : decode cX7_dearestLamp 19 = .ok (.iload_n 3, 1) := by decide +kernel
theorem dX7_dearestLamp_20 : decode cX7_dearestLamp 20 = .ok (.invokevirtual 217, 3) := by decide +kernel
theorem dX7_dearestLamp_23 : decode cX7_dearestLamp 23 = .ok (.istore 4, 2) := by decide +kernel
theorem dX7_dearestLamp_25 : decode cX7_dearestLamp 25 = .ok (.iload 4, 2) := by decide +kernel
theorem dX7_dearestLamp_27 : decode cX7_dearestLamp 27 = .ok (.iload_n 2, 1) := by decide +kernel
theorem dX7_dearestLamp_28 : decode cX7_dearestLamp 28 = .ok (.if_icmp .le 7, 3) := by decide +kernel
theorem dX7_dearestLamp_31 : decode cX7_dearestLamp 31 = .ok (.iload_n 3, 1) := by decide +kernel
theorem dX7_dearestLamp_32 : decode cX7_dearestLamp 32 = .ok (.goto 4, 3) := by decide +kernel
theorem dX7_dearestLamp_35 : decode cX7_dearestLamp 35 = .ok (.iload_n 1, 1) := by decide +kernel
theorem dX7_dearestLamp_36 : decode cX7_dearestLamp 36 = .ok (.istore_n 1, 1) := by decide +kernel
theorem dX7_dearestLamp_37 : decode cX7_dearestLamp 37 = .ok (.iload 4, 2) := by decide +kernel
theorem dX7_dearestLamp_39 : decode cX7_dearestLamp 39 = .ok (.iload_n 2, 1) := by decide +kernel
theorem dX7_dearestLamp_40 : decode cX7_dearestLamp 40 = .ok (.if_icmp .le 8, 3) := by decide +kernel
theorem dX7_dearestLamp_43 : decode cX7_dearestLamp 43 = .ok (.iload 4, 2) := by decide +kernel
theorem dX7_dearestLamp_45 : decode cX7_dearestLamp 45 = .ok (.goto 4, 3) := by decide +kernel
theorem dX7_dearestLamp_48 : decode cX7_dearestLamp 48 = .ok (.iload_n 2, 1) := by decide +kernel
theorem dX7_dearestLamp_49 : decode cX7_dearestLamp 49 = .ok (.istore_n 2, 1) := by decide +kernel
theorem dX7_dearestLamp_50 : decode cX7_dearestLamp 50 = .ok (.iinc 3 1, 3) := by decide +kernel
theorem dX7_dearestLamp_53 : decode cX7_dearestLamp 53 = .ok (.goto (-45), 3) := by decide +kernel
theorem dX7_dearestLamp_56 : decode cX7_dearestLamp 56 = .ok (.aload_n 0, 1) := by decide +kernel
theorem dX7_dearestLamp_57 : decode cX7_dearestLamp 57 = .ok (.iload_n 1, 1) := by decide +kernel
theorem dX7_dearestLamp_58 : decode cX7_dearestLamp 58 = .ok (.invokevirtual 58, 3) := by decide +kernel
theorem dX7_dearestLamp_61 : decode cX7_dearestLamp 61 = .ok (.ireturn, 1) := by decide +kernel
theorem dX7_wrongBy_0 : decode cX7_wrongBy 0 = .ok (.aload_n 0, 1) := by decide +kernel
theorem dX7_wrongBy_1 : decode cX7_wrongBy 1 = .ok (.invokevirtual 162, 3) := by decide +kernel
theorem dX7_wrongBy_4 : decode cX7_wrongBy 4 = .ok (.aload_n 0, 1) := by decide +kernel
theorem dX7_wrongBy_5 : decode cX7_wrongBy 5 = .ok (.getfield 7, 3) := by decide +kernel
theorem dX7_wrongBy_8 : decode cX7_wrongBy 8 = .ok (.iconst 2, 1) := by decide +kernel
theorem dX7_wrongBy_9 : decode cX7_wrongBy 9 = .ok (.iload_n 1, 1) := by decide +kernel
theorem dX7_wrongBy_10 : decode cX7_wrongBy 10 = .ok (.iastore, 1) := by decide +kernel
theorem dX7_wrongBy_11 : decode cX7_wrongBy 11 = .ok (.aload_n 0, 1) := by decide +kernel
theorem dX7_wrongBy_12 : decode cX7_wrongBy 12 = .ok (.getfield 7, 3) := by decide +kernel
theorem dX7_wrongBy_15 : decode cX7_wrongBy 15 = .ok (.iconst 3, 1) := by decide +kernel
theorem dX7_wrongBy_16 : decode cX7_wrongBy 16 = .ok (.iload_n 2, 1) := by decide +kernel
theorem dX7_wrongBy_17 : decode cX7_wrongBy 17 = .ok (.iastore, 1) := by decide +kernel
theorem dX7_wrongBy_18 : decode cX7_wrongBy 18 = .ok (.aload_n 0, 1) := by decide +kernel
theorem dX7_wrongBy_19 : decode cX7_wrongBy 19 = .ok (.invokevirtual 156, 3) := by decide +kernel
theorem dX7_wrongBy_22 : decode cX7_wrongBy 22 = .ok (.istore_n 3, 1) := by decide +kernel
theorem dX7_wrongBy_23 : decode cX7_wrongBy 23 = .ok (.aload_n 0, 1) := by decide +kernel
theorem dX7_wrongBy_24 : decode cX7_wrongBy 24 = .ok (.invokevirtual 220, 3) := by decide +kernel
theorem dX7_wrongBy_27 : decode cX7_wrongBy 27 = .ok (.iload_n 3, 1) := by decide +kernel
theorem dX7_wrongBy_28 : decode cX7_wrongBy 28 = .ok (.ireturn, 1) := by decide +kernel
theorem dX7_wrongShifted_0 : decode cX7_wrongShifted 0 = .ok (.iload_n 1, 1) := by decide +kernel
theorem dX7_wrongShifted_1 : decode cX7_wrongShifted 1 = .ok (.bipush (-10), 2) := by decide +kernel
theorem dX7_wrongShifted_3 : decode cX7_wrongShifted 3 = .ok (.bipush 10, 2) := by decide +kernel
theorem dX7_wrongShifted_5 : decode cX7_wrongShifted 5 = .ok (.invokestatic 41, 3) := by decide +kernel
theorem dX7_wrongShifted_8 : decode cX7_wrongShifted 8 = .ok (.ifCond .eq 27, 3) := by decide +kernel
theorem dX7_wrongShifted_11 : decode cX7_wrongShifted 11 = .ok (.iload_n 2, 1) := by decide +kernel
theorem dX7_wrongShifted_12 : decode cX7_wrongShifted 12 = .ok (.bipush (-10), 2) := by decide +kernel
theorem dX7_wrongShifted_14 : decode cX7_wrongShifted 14 = .ok (.bipush 10, 2) := by decide +kernel
theorem dX7_wrongShifted_16 : decode cX7_wrongShifted 16 = .ok (.invokestatic 41, 3) := by decide +kernel
theorem dX7_wrongShifted_19 : decode cX7_wrongShifted 19 = .ok (.ifCond .eq 16, 3) := by decide +kernel
theorem dX7_wrongShifted_22 : decode cX7_wrongShifted 22 = .ok (.aload_n 0, 1) := by decide +kernel
theorem dX7_wrongShifted_23 : decode cX7_wrongShifted 23 = .ok (.aload_n 0, 1) := by decide +kernel
theorem dX7_wrongShifted_24 : decode cX7_wrongShifted 24 = .ok (.iload_n 1, 1) := by decide +kernel
theorem dX7_wrongShifted_25 : decode cX7_wrongShifted 25 = .ok (.iload_n 2, 1) := by decide +kernel
theorem dX7_wrongShifted_26 : decode cX7_wrongShifted 26 = .ok (.invokevirtual 223, 3) := by decide +kernel
theorem dX7_wrongShifted_29 : decode cX7_wrongShifted 29 = .ok (.invokevirtual 58, 3) := by decide +kernel
theorem dX7_wrongShifted_32 : decode cX7_wrongShifted 32 = .ok (.goto 8, 3) := by decide +kernel
theorem dX7_wrongShifted_35 : decode cX7_wrongShifted 35 = .ok (.aload_n 0, 1) := by decide +kernel
theorem dX7_wrongShifted_36 : decode cX7_wrongShifted 36 = .ok (.iconst 1, 1) := by decide +kernel
theorem dX7_wrongShifted_37 : decode cX7_wrongShifted 37 = .ok (.invokevirtual 48, 3) := by decide +kernel
theorem dX7_wrongShifted_40 : decode cX7_wrongShifted 40 = .ok (.ireturn, 1) := by decide +kernel
theorem dX7_bestShift_0 : decode cX7_bestShift 0 = .ok (.iload_n 1, 1) := by decide +kernel
theorem dX7_bestShift_1 : decode cX7_bestShift 1 = .ok (.iconst 0, 1) := by decide +kernel
theorem dX7_bestShift_2 : decode cX7_bestShift 2 = .ok (.iconst 3, 1) := by decide +kernel
theorem dX7_bestShift_3 : decode cX7_bestShift 3 = .ok (.invokestatic 41, 3) := by decide +kernel
theorem dX7_bestShift_6 : decode cX7_bestShift 6 = .ok (.ifCond .ne 9, 3) := by decide +kernel
theorem dX7_bestShift_9 : decode cX7_bestShift 9 = .ok (.aload_n 0, 1) := by decide +kernel
theorem dX7_bestShift_10 : decode cX7_bestShift 10 = .ok (.iconst 1, 1) := by decide +kernel
theorem dX7_bestShift_11 : decode cX7_bestShift 11 = .ok (.invokevirtual 48, 3) := by decide +kernel
theorem dX7_bestShift_14 : decode cX7_bestShift 14 = .ok (.ireturn, 1) := by decide +kernel
theorem dX7_bestShift_15 : decode cX7_bestShift 15 = .ok (.sipush (-1000), 3) := by decide +kernel
theorem dX7_bestShift_18 : decode cX7_bestShift 18 = .ok (.istore_n 2, 1) := by decide +kernel
theorem dX7_bestShift_19 : decode cX7_bestShift 19 = .ok (.iconst 0, 1) := by decide +kernel
theorem dX7_bestShift_20 : decode cX7_bestShift 20 = .ok (.istore_n 3, 1) := by decide +kernel
theorem dX7_bestShift_21 : decode cX7_bestShift 21 = .ok (.iload_n 1, 1) := by decide +kernel
theorem dX7_bestShift_22 : decode cX7_bestShift 22 = .ok (.ineg, 1) := by decide +kernel
theorem dX7_bestShift_23 : decode cX7_bestShift 23 = .ok (.istore 4, 2) := by decide +kernel
theorem dX7_bestShift_25 : decode cX7_bestShift 25 = .ok (.iload 4, 2) := by decide +kernel
theorem dX7_bestShift_27 : decode cX7_bestShift 27 = .ok (.iload_n 1, 1) := by decide +kernel
theorem dX7_bestShift_28 : decode cX7_bestShift 28 = .ok (.if_icmp .gt 66, 3) := by decide +kernel
theorem dX7_bestShift_31 : decode cX7_bestShift 31 = .ok (.iload_n 1, 1) := by decide +kernel
theorem dX7_bestShift_32 : decode cX7_bestShift 32 = .ok (.ineg, 1) := by decide +kernel
theorem dX7_bestShift_33 : decode cX7_bestShift 33 = .ok (.istore 5, 2) := by decide +kernel
theorem dX7_bestShift_35 : decode cX7_bestShift 35 = .ok (.iload 5, 2) := by decide +kernel
theorem dX7_bestShift_37 : decode cX7_bestShift 37 = .ok (.iload_n 1, 1) := by decide +kernel
theorem dX7_bestShift_38 : decode cX7_bestShift 38 = .ok (.if_icmp .gt 50, 3) := by decide +kernel
theorem dX7_bestShift_41 : decode cX7_bestShift 41 = .ok (.aload_n 0, 1) := by decide +kernel
theorem dX7_bestShift_42 : decode cX7_bestShift 42 = .ok (.iload 5, 2) := by decide +kernel
theorem dX7_bestShift_44 : decode cX7_bestShift 44 = .ok (.iload 4, 2) := by decide +kernel
theorem dX7_bestShift_46 : decode cX7_bestShift 46 = .ok (.invokevirtual 223, 3) := by decide +kernel
theorem dX7_bestShift_49 : decode cX7_bestShift 49 = .ok (.istore 6, 2) := by decide +kernel
theorem dX7_bestShift_51 : decode cX7_bestShift 51 = .ok (.iload_n 2, 1) := by decide +kernel
theorem dX7_bestShift_52 : decode cX7_bestShift 52 = .ok (.sipush (-1000), 3) := by decide +kernel
theorem dX7_bestShift_55 : decode cX7_bestShift 55 = .ok (.if_icmp .eq 9, 3) := by decide +kernel
theorem dX7_bestShift_58 : decode cX7_bestShift 58 = .ok (.iload 6, 2) := by decide +kernel
theorem dX7_bestShift_60 : decode cX7_bestShift 60 = .ok (.iload_n 3, 1) := by decide +kernel
theorem dX7_bestShift_61 : decode cX7_bestShift 61 = .ok (.if_icmp .ge 21, 3) := by decide +kernel
theorem dX7_bestShift_64 : decode cX7_bestShift 64 = .ok (.bipush 100, 2) := by decide +kernel
theorem dX7_bestShift_66 : decode cX7_bestShift 66 = .ok (.iload 4, 2) := by decide +kernel
theorem dX7_bestShift_68 : decode cX7_bestShift 68 = .ok (.bipush 10, 2) := by decide +kernel
theorem dX7_bestShift_70 : decode cX7_bestShift 70 = .ok (.iadd, 1) := by decide +kernel
theorem dX7_bestShift_71 : decode cX7_bestShift 71 = .ok (.imul, 1) := by decide +kernel
theorem dX7_bestShift_72 : decode cX7_bestShift 72 = .ok (.iload 5, 2) := by decide +kernel
theorem dX7_bestShift_74 : decode cX7_bestShift 74 = .ok (.iadd, 1) := by decide +kernel
theorem dX7_bestShift_75 : decode cX7_bestShift 75 = .ok (.bipush 10, 2) := by decide +kernel
theorem dX7_bestShift_77 : decode cX7_bestShift 77 = .ok (.iadd, 1) := by decide +kernel
theorem dX7_bestShift_78 : decode cX7_bestShift 78 = .ok (.istore_n 2, 1) := by decide +kernel
theorem dX7_bestShift_79 : decode cX7_bestShift 79 = .ok (.iload 6, 2) := by decide +kernel
theorem dX7_bestShift_81 : decode cX7_bestShift 81 = .ok (.istore_n 3, 1) := by decide +kernel
theorem dX7_bestShift_82 : decode cX7_bestShift 82 = .ok (.iinc 5 1, 3) := by decide +kernel
theorem dX7_bestShift_85 : decode cX7_bestShift 85 = .ok (.goto (-50), 3) := by decide +kernel
theorem dX7_bestShift_88 : decode cX7_bestShift 88 = .ok (.iinc 4 1, 3) := by decide +kernel
theorem dX7_bestShift_91 : decode cX7_bestShift 91 = .ok (.goto (-66), 3) := by decide +kernel
theorem dX7_bestShift_94 : decode cX7_bestShift 94 = .ok (.aload_n 0, 1) := by decide +kernel
theorem dX7_bestShift_95 : decode cX7_bestShift 95 = .ok (.iload_n 2, 1) := by decide +kernel
theorem dX7_bestShift_96 : decode cX7_bestShift 96 = .ok (.invokevirtual 58, 3) := by decide +kernel
theorem dX7_bestShift_99 : decode cX7_bestShift 99 = .ok (.ireturn, 1) := by decide +kernel
theorem dX7_neededLimit_0 : decode cX7_neededLimit 0 = .ok (.aload_n 0, 1) := by decide +kernel
theorem dX7_neededLimit_1 : decode cX7_neededLimit 1 = .ok (.iload_n 1, 1) := by decide +kernel
theorem dX7_neededLimit_2 : decode cX7_neededLimit 2 = .ok (.invokevirtual 150, 3) := by decide +kernel
theorem dX7_neededLimit_5 : decode cX7_neededLimit 5 = .ok (.ifCond .ne 9, 3) := by decide +kernel
theorem dX7_neededLimit_8 : decode cX7_neededLimit 8 = .ok (.aload_n 0, 1) := by decide +kernel
theorem dX7_neededLimit_9 : decode cX7_neededLimit 9 = .ok (.iconst 1, 1) := by decide +kernel
theorem dX7_neededLimit_10 : decode cX7_neededLimit 10 = .ok (.invokevirtual 48, 3) := by decide +kernel
theorem dX7_neededLimit_13 : decode cX7_neededLimit 13 = .ok (.ireturn, 1) := by decide +kernel
theorem dX7_neededLimit_14 : decode cX7_neededLimit 14 = .ok (.aload_n 0, 1) := by decide +kernel
theorem dX7_neededLimit_15 : decode cX7_neededLimit 15 = .ok (.iload_n 1, 1) := by decide +kernel
theorem dX7_neededLimit_16 : decode cX7_neededLimit 16 = .ok (.invokevirtual 139, 3) := by decide +kernel
theorem dX7_neededLimit_19 : decode cX7_neededLimit 19 = .ok (.aload_n 0, 1) := by decide +kernel
theorem dX7_neededLimit_20 : decode cX7_neededLimit 20 = .ok (.aload_n 0, 1) := by decide +kernel
theorem dX7_neededLimit_21 : decode cX7_neededLimit 21 = .ok (.getfield 133, 3) := by decide +kernel
theorem dX7_neededLimit_24 : decode cX7_neededLimit 24 = .ok (.invokevirtual 58, 3) := by decide +kernel
theorem dX7_neededLimit_27 : decode cX7_neededLimit 27 = .ok (.ireturn, 1) := by decide +kernel
theorem dX7_type_0 : decode cX7_type 0 = .ok (.iload_n 1, 1) := by decide +kernel
theorem dX7_type_1 : decode cX7_type 1 = .ok (.iconst 0, 1) := by decide +kernel
theorem dX7_type_2 : decode cX7_type 2 = .ok (.bipush 127, 2) := by decide +kernel
theorem dX7_type_4 : decode cX7_type 4 = .ok (.invokestatic 41, 3) := by decide +kernel
theorem dX7_type_7 : decode cX7_type 7 = .ok (.ifCond .ne 9, 3) := by decide +kernel
theorem dX7_type_10 : decode cX7_type 10 = .ok (.aload_n 0, 1) := by decide +kernel
theorem dX7_type_11 : decode cX7_type 11 = .ok (.iconst 1, 1) := by decide +kernel
theorem dX7_type_12 : decode cX7_type 12 = .ok (.invokevirtual 48, 3) := by decide +kernel
theorem dX7_type_15 : decode cX7_type 15 = .ok (.ireturn, 1) := by decide +kernel
theorem dX7_type_16 : decode cX7_type 16 = .ok (.aload_n 0, 1) := by decide +kernel
theorem dX7_type_17 : decode cX7_type 17 = .ok (.getfield 208, 3) := by decide +kernel
theorem dX7_type_20 : decode cX7_type 20 = .ok (.sipush 150, 3) := by decide +kernel
theorem dX7_type_23 : decode cX7_type 23 = .ok (.if_icmp .ne 9, 3) := by decide +kernel
theorem dX7_type_26 : decode cX7_type 26 = .ok (.aload_n 0, 1) := by decide +kernel
theorem dX7_type_27 : decode cX7_type 27 = .ok (.iconst 2, 1) := by decide +kernel
theorem dX7_type_28 : decode cX7_type 28 = .ok (.invokevirtual 48, 3) := by decide +kernel
theorem dX7_type_31 : decode cX7_type 31 = .ok (.ireturn, 1) := by decide +kernel
theorem dX7_type_32 : decode cX7_type 32 = .ok (.aload_n 0, 1) := by decide +kernel
theorem dX7_type_33 : decode cX7_type 33 = .ok (.getfield 19, 3) := by decide +kernel
theorem dX7_type_36 : decode cX7_type 36 = .ok (.aload_n 0, 1) := by decide +kernel
theorem dX7_type_37 : decode cX7_type 37 = .ok (.getfield 208, 3) := by decide +kernel
theorem dX7_type_40 : decode cX7_type 40 = .ok (.iload_n 1, 1) := by decide +kernel
theorem dX7_type_41 : decode cX7_type 41 = .ok (.iastore, 1) := by decide +kernel
theorem dX7_type_42 : decode cX7_type 42 = .ok (.aload_n 0, 1) := by decide +kernel
theorem dX7_type_43 : decode cX7_type 43 = .ok (.dup, 1) := by decide +kernel
theorem dX7_type_44 : decode cX7_type 44 = .ok (.getfield 208, 3) := by decide +kernel
theorem dX7_type_47 : decode cX7_type 47 = .ok (.iconst 1, 1) := by decide +kernel
theorem dX7_type_48 : decode cX7_type 48 = .ok (.iadd, 1) := by decide +kernel
theorem dX7_type_49 : decode cX7_type 49 = .ok (.putfield 208, 3) := by decide +kernel
theorem dX7_type_52 : decode cX7_type 52 = .ok (.aload_n 0, 1) := by decide +kernel
theorem dX7_type_53 : decode cX7_type 53 = .ok (.aload_n 0, 1) := by decide +kernel
theorem dX7_type_54 : decode cX7_type 54 = .ok (.getfield 208, 3) := by decide +kernel
theorem dX7_type_57 : decode cX7_type 57 = .ok (.invokevirtual 58, 3) := by decide +kernel
theorem dX7_type_60 : decode cX7_type 60 = .ok (.ireturn, 1) := by decide +kernel
theorem dX7_clearCommands_0 : decode cX7_clearCommands 0 = .ok (.aload_n 0, 1) := by decide +kernel
theorem dX7_clearCommands_1 : decode cX7_clearCommands 1 = .ok (.getfield 208, 3) := by decide +kernel
theorem dX7_clearCommands_4 : decode cX7_clearCommands 4 = .ok (.istore_n 1, 1) := by decide +kernel
theorem dX7_clearCommands_5 : decode cX7_clearCommands 5 = .ok (.aload_n 0, 1) := by decide +kernel
theorem dX7_clearCommands_6 : decode cX7_clearCommands 6 = .ok (.iconst 0, 1) := by decide +kernel
theorem dX7_clearCommands_7 : decode cX7_clearCommands 7 = .ok (.putfield 208, 3) := by decide +kernel
theorem dX7_clearCommands_10 : decode cX7_clearCommands 10 = .ok (.aload_n 0, 1) := by decide +kernel
theorem dX7_clearCommands_11 : decode cX7_clearCommands 11 = .ok (.iload_n 1, 1) := by decide +kernel
theorem dX7_clearCommands_12 : decode cX7_clearCommands 12 = .ok (.invokevirtual 58, 3) := by decide +kernel
theorem dX7_clearCommands_15 : decode cX7_clearCommands 15 = .ok (.ireturn, 1) := by decide +kernel
theorem dX7_here_0 : decode cX7_here 0 = .ok (.aload_n 0, 1) := by decide +kernel
theorem dX7_here_1 : decode cX7_here 1 = .ok (.getfield 226, 3) := by decide +kernel
theorem dX7_here_4 : decode cX7_here 4 = .ok (.aload_n 0, 1) := by decide +kernel
theorem dX7_here_5 : decode cX7_here 5 = .ok (.getfield 208, 3) := by decide +kernel
theorem dX7_here_8 : decode cX7_here 8 = .ok (.if_icmp .ge 15, 3) := by decide +kernel
theorem dX7_here_11 : decode cX7_here 11 = .ok (.aload_n 0, 1) := by decide +kernel
theorem dX7_here_12 : decode cX7_here 12 = .ok (.getfield 19, 3) := by decide +kernel
theorem dX7_here_15 : decode cX7_here 15 = .ok (.aload_n 0, 1) := by decide +kernel
theorem dX7_here_16 : decode cX7_here 16 = .ok (.getfield 226, 3) := by decide +kernel
theorem dX7_here_19 : decode cX7_here 19 = .ok (.iaload, 1) := by decide +kernel
theorem dX7_here_20 : decode cX7_here 20 = .ok (.goto 4, 3) := by decide +kernel
theorem dX7_here_23 : decode cX7_here 23 = .ok (.iconst (-1), 1) := by decide +kernel
theorem dX7_here_24 : decode cX7_here 24 = .ok (.ireturn, 1) := by decide +kernel
theorem dX7_skips_0 : decode cX7_skips 0 = .ok (.aload_n 0, 1) := by decide +kernel
theorem dX7_skips_1 : decode cX7_skips 1 = .ok (.getfield 226, 3) := by decide +kernel
theorem dX7_skips_4 : decode cX7_skips 4 = .ok (.istore_n 1, 1) := by decide +kernel
theorem dX7_skips_5 : decode cX7_skips 5 = .ok (.aload_n 0, 1) := by decide +kernel
theorem dX7_skips_6 : decode cX7_skips 6 = .ok (.invokevirtual 229, 3) := by decide +kernel
theorem dX7_skips_9 : decode cX7_skips 9 = .ok (.bipush 32, 2) := by decide +kernel
theorem dX7_skips_11 : decode cX7_skips 11 = .ok (.if_icmp .ne 16, 3) := by decide +kernel
theorem dX7_skips_14 : decode cX7_skips 14 = .ok (.aload_n 0, 1) := by decide +kernel
theorem dX7_skips_15 : decode cX7_skips 15 = .ok (.dup, 1) := by decide +kernel
theorem dX7_skips_16 : decode cX7_skips 16 = .ok (.getfield 226, 3) := by decide +kernel
theorem dX7_skips_19 : decode cX7_skips 19 = .ok (.iconst 1, 1) := by decide +kernel
theorem dX7_skips_20 : decode cX7_skips 20 = .ok (.iadd, 1) := by decide +kernel
theorem dX7_skips_21 : decode cX7_skips 21 = .ok (.putfield 226, 3) := by decide +kernel
theorem dX7_skips_24 : decode cX7_skips 24 = .ok (.goto (-19), 3) := by decide +kernel
theorem dX7_skips_27 : decode cX7_skips 27 = .ok (.aload_n 0, 1) := by decide +kernel
theorem dX7_skips_28 : decode cX7_skips 28 = .ok (.getfield 226, 3) := by decide +kernel
theorem dX7_skips_31 : decode cX7_skips 31 = .ok (.iload_n 1, 1) := by decide +kernel
theorem dX7_skips_32 : decode cX7_skips 32 = .ok (.if_icmp .le 7, 3) := by decide +kernel
theorem dX7_skips_35 : decode cX7_skips 35 = .ok (.iconst 1, 1) := by decide +kernel
theorem dX7_skips_36 : decode cX7_skips 36 = .ok (.goto 4, 3) := by decide +kernel
theorem dX7_skips_39 : decode cX7_skips 39 = .ok (.iconst 0, 1) := by decide +kernel
theorem dX7_skips_40 : decode cX7_skips 40 = .ok (.ireturn, 1) := by decide +kernel
theorem dX7_isWord_0 : decode cX7_isWord 0 = .ok (.aload_n 0, 1) := by decide +kernel
theorem dX7_isWord_1 : decode cX7_isWord 1 = .ok (.getfield 226, 3) := by decide +kernel
theorem dX7_isWord_4 : decode cX7_isWord 4 = .ok (.iload_n 1, 1) := by decide +kernel
theorem dX7_isWord_5 : decode cX7_isWord 5 = .ok (.isub, 1) := by decide +kernel
theorem dX7_isWord_6 : decode cX7_isWord 6 = .ok (.iload_n 2, 1) := by decide +kernel
theorem dX7_isWord_7 : decode cX7_isWord 7 = .ok (.if_icmp .ne 56, 3) := by decide +kernel
theorem dX7_isWord_10 : decode cX7_isWord 10 = .ok (.aload_n 0, 1) := by decide +kernel
theorem dX7_isWord_11 : decode cX7_isWord 11 = .ok (.getfield 19, 3) := by decide +kernel
theorem dX7_isWord_14 : decode cX7_isWord 14 = .ok (.iload_n 1, 1) := by decide +kernel
theorem dX7_isWord_15 : decode cX7_isWord 15 = .ok (.iaload, 1) := by decide +kernel
theorem dX7_isWord_16 : decode cX7_isWord 16 = .ok (.iload_n 3, 1) := by decide +kernel
theorem dX7_isWord_17 : decode cX7_isWord 17 = .ok (.if_icmp .ne 46, 3) := by decide +kernel
theorem dX7_isWord_20 : decode cX7_isWord 20 = .ok (.aload_n 0, 1) := by decide +kernel
theorem dX7_isWord_21 : decode cX7_isWord 21 = .ok (.getfield 19, 3) := by decide +kernel
theorem dX7_isWord_24 : decode cX7_isWord 24 = .ok (.iload_n 1, 1) := by decide +kernel
theorem dX7_isWord_25 : decode cX7_isWord 25 = .ok (.iconst 1, 1) := by decide +kernel
theorem dX7_isWord_26 : decode cX7_isWord 26 = .ok (.iadd, 1) := by decide +kernel
theorem dX7_isWord_27 : decode cX7_isWord 27 = .ok (.iaload, 1) := by decide +kernel
theorem dX7_isWord_28 : decode cX7_isWord 28 = .ok (.iload 4, 2) := by decide +kernel
theorem dX7_isWord_30 : decode cX7_isWord 30 = .ok (.if_icmp .ne 33, 3) := by decide +kernel
theorem dX7_isWord_33 : decode cX7_isWord 33 = .ok (.aload_n 0, 1) := by decide +kernel
theorem dX7_isWord_34 : decode cX7_isWord 34 = .ok (.getfield 19, 3) := by decide +kernel
theorem dX7_isWord_37 : decode cX7_isWord 37 = .ok (.iload_n 1, 1) := by decide +kernel
theorem dX7_isWord_38 : decode cX7_isWord 38 = .ok (.iconst 2, 1) := by decide +kernel
theorem dX7_isWord_39 : decode cX7_isWord 39 = .ok (.iadd, 1) := by decide +kernel
theorem dX7_isWord_40 : decode cX7_isWord 40 = .ok (.iaload, 1) := by decide +kernel
theorem dX7_isWord_41 : decode cX7_isWord 41 = .ok (.iload 5, 2) := by decide +kernel
theorem dX7_isWord_43 : decode cX7_isWord 43 = .ok (.if_icmp .ne 20, 3) := by decide +kernel
theorem dX7_isWord_46 : decode cX7_isWord 46 = .ok (.aload_n 0, 1) := by decide +kernel
theorem dX7_isWord_47 : decode cX7_isWord 47 = .ok (.getfield 19, 3) := by decide +kernel
theorem dX7_isWord_50 : decode cX7_isWord 50 = .ok (.iload_n 1, 1) := by decide +kernel
theorem dX7_isWord_51 : decode cX7_isWord 51 = .ok (.iconst 3, 1) := by decide +kernel
theorem dX7_isWord_52 : decode cX7_isWord 52 = .ok (.iadd, 1) := by decide +kernel
theorem dX7_isWord_53 : decode cX7_isWord 53 = .ok (.iaload, 1) := by decide +kernel
theorem dX7_isWord_54 : decode cX7_isWord 54 = .ok (.iload 6, 2) := by decide +kernel
theorem dX7_isWord_56 : decode cX7_isWord 56 = .ok (.if_icmp .ne 7, 3) := by decide +kernel
theorem dX7_isWord_59 : decode cX7_isWord 59 = .ok (.iconst 1, 1) := by decide +kernel
theorem dX7_isWord_60 : decode cX7_isWord 60 = .ok (.goto 4, 3) := by decide +kernel
theorem dX7_isWord_63 : decode cX7_isWord 63 = .ok (.iconst 0, 1) := by decide +kernel
theorem dX7_isWord_64 : decode cX7_isWord 64 = .ok (.ireturn, 1) := by decide +kernel
theorem dX7_wordFrom_0 : decode cX7_wordFrom 0 = .ok (.aload_n 0, 1) := by decide +kernel
theorem dX7_wordFrom_1 : decode cX7_wordFrom 1 = .ok (.getfield 226, 3) := by decide +kernel
theorem dX7_wordFrom_4 : decode cX7_wordFrom 4 = .ok (.iload_n 1, 1) := by decide +kernel
theorem dX7_wordFrom_5 : decode cX7_wordFrom 5 = .ok (.isub, 1) := by decide +kernel
theorem dX7_wordFrom_6 : decode cX7_wordFrom 6 = .ok (.iconst 4, 1) := by decide +kernel
theorem dX7_wordFrom_7 : decode cX7_wordFrom 7 = .ok (.if_icmp .ge 5, 3) := by decide +kernel
theorem dX7_wordFrom_10 : decode cX7_wordFrom 10 = .ok (.iconst (-1), 1) := by decide +kernel
theorem dX7_wordFrom_11 : decode cX7_wordFrom 11 = .ok (.ireturn, 1) := by decide +kernel
theorem dX7_wordFrom_12 : decode cX7_wordFrom 12 = .ok (.aload_n 0, 1) := by decide +kernel
theorem dX7_wordFrom_13 : decode cX7_wordFrom 13 = .ok (.getfield 19, 3) := by decide +kernel
theorem dX7_wordFrom_16 : decode cX7_wordFrom 16 = .ok (.aload_n 0, 1) := by decide +kernel
theorem dX7_wordFrom_17 : decode cX7_wordFrom 17 = .ok (.getfield 226, 3) := by decide +kernel
theorem dX7_wordFrom_20 : decode cX7_wordFrom 20 = .ok (.iconst 1, 1) := by decide +kernel
theorem dX7_wordFrom_21 : decode cX7_wordFrom 21 = .ok (.isub, 1) := by decide +kernel
theorem dX7_wordFrom_22 : decode cX7_wordFrom 22 = .ok (.iaload, 1) := by decide +kernel
theorem dX7_wordFrom_23 : decode cX7_wordFrom 23 = .ok (.istore_n 2, 1) := by decide +kernel
theorem dX7_wordFrom_24 : decode cX7_wordFrom 24 = .ok (.aload_n 0, 1) := by decide +kernel
theorem dX7_wordFrom_25 : decode cX7_wordFrom 25 = .ok (.iload_n 1, 1) := by decide +kernel
theorem dX7_wordFrom_26 : decode cX7_wordFrom 26 = .ok (.iconst 4, 1) := by decide +kernel
theorem dX7_wordFrom_27 : decode cX7_wordFrom 27 = .ok (.bipush 119, 2) := by decide +kernel
theorem dX7_wordFrom_29 : decode cX7_wordFrom 29 = .ok (.bipush 97, 2) := by decide +kernel
theorem dX7_wordFrom_31 : decode cX7_wordFrom 31 = .ok (.bipush 108, 2) := by decide +kernel
theorem dX7_wordFrom_33 : decode cX7_wordFrom 33 = .ok (.bipush 108, 2) := by decide +kernel
theorem dX7_wordFrom_35 : decode cX7_wordFrom 35 = .ok (.invokevirtual 232, 3) := by decide +kernel
theorem dX7_wordFrom_38 : decode cX7_wordFrom 38 = .ok (.ifCond .eq 7, 3) := by decide +kernel
theorem dX7_wordFrom_41 : decode cX7_wordFrom 41 = .ok (.iconst 0, 1) := by decide +kernel
theorem dX7_wordFrom_42 : decode cX7_wordFrom 42 = .ok (.goto 185, 3) := by decide +kernel
theorem dX7_wordFrom_45 : decode cX7_wordFrom 45 = .ok (.aload_n 0, 1) := by decide +kernel
theorem dX7_wordFrom_46 : decode cX7_wordFrom 46 = .ok (.iload_n 1, 1) := by decide +kernel
theorem dX7_wordFrom_47 : decode cX7_wordFrom 47 = .ok (.iconst 5, 1) := by decide +kernel
theorem dX7_wordFrom_48 : decode cX7_wordFrom 48 = .ok (.bipush 112, 2) := by decide +kernel
theorem dX7_wordFrom_50 : decode cX7_wordFrom 50 = .ok (.bipush 97, 2) := by decide +kernel
theorem dX7_wordFrom_52 : decode cX7_wordFrom 52 = .ok (.bipush 105, 2) := by decide +kernel
theorem dX7_wordFrom_54 : decode cX7_wordFrom 54 = .ok (.bipush 110, 2) := by decide +kernel
theorem dX7_wordFrom_56 : decode cX7_wordFrom 56 = .ok (.invokevirtual 232, 3) := by decide +kernel
theorem dX7_wordFrom_59 : decode cX7_wordFrom 59 = .ok (.ifCond .eq 13, 3) := by decide +kernel
theorem dX7_wordFrom_62 : decode cX7_wordFrom 62 = .ok (.iload_n 2, 1) := by decide +kernel
theorem dX7_wordFrom_63 : decode cX7_wordFrom 63 = .ok (.bipush 116, 2) := by decide +kernel
theorem dX7_wordFrom_65 : decode cX7_wordFrom 65 = .ok (.if_icmp .ne 7, 3) := by decide +kernel
theorem dX7_wordFrom_68 : decode cX7_wordFrom 68 = .ok (.iconst 1, 1) := by decide +kernel
theorem dX7_wordFrom_69 : decode cX7_wordFrom 69 = .ok (.goto 158, 3) := by decide +kernel
theorem dX7_wordFrom_72 : decode cX7_wordFrom 72 = .ok (.aload_n 0, 1) := by decide +kernel
theorem dX7_wordFrom_73 : decode cX7_wordFrom 73 = .ok (.iload_n 1, 1) := by decide +kernel
theorem dX7_wordFrom_74 : decode cX7_wordFrom 74 = .ok (.iconst 4, 1) := by decide +kernel
theorem dX7_wordFrom_75 : decode cX7_wordFrom 75 = .ok (.bipush 108, 2) := by decide +kernel
theorem dX7_wordFrom_77 : decode cX7_wordFrom 77 = .ok (.bipush 97, 2) := by decide +kernel
theorem dX7_wordFrom_79 : decode cX7_wordFrom 79 = .ok (.bipush 109, 2) := by decide +kernel
theorem dX7_wordFrom_81 : decode cX7_wordFrom 81 = .ok (.bipush 112, 2) := by decide +kernel
theorem dX7_wordFrom_83 : decode cX7_wordFrom 83 = .ok (.invokevirtual 232, 3) := by decide +kernel
theorem dX7_wordFrom_86 : decode cX7_wordFrom 86 = .ok (.ifCond .eq 7, 3) := by decide +kernel
theorem dX7_wordFrom_89 : decode cX7_wordFrom 89 = .ok (.iconst 2, 1) := by decide +kernel
theorem dX7_wordFrom_90 : decode cX7_wordFrom 90 = .ok (.goto 137, 3) := by decide +kernel
theorem dX7_wordFrom_93 : decode cX7_wordFrom 93 = .ok (.aload_n 0, 1) := by decide +kernel
theorem dX7_wordFrom_94 : decode cX7_wordFrom 94 = .ok (.iload_n 1, 1) := by decide +kernel
theorem dX7_wordFrom_95 : decode cX7_wordFrom 95 = .ok (.bipush 6, 2) := by decide +kernel
theorem dX7_wordFrom_97 : decode cX7_wordFrom 97 = .ok (.bipush 99, 2) := by decide +kernel
theorem dX7_wordFrom_99 : decode cX7_wordFrom 99 = .ok (.bipush 111, 2) := by decide +kernel
theorem dX7_wordFrom_101 : decode cX7_wordFrom 101 = .ok (.bipush 114, 2) := by decide +kernel
theorem dX7_wordFrom_103 : decode cX7_wordFrom 103 = .ok (.bipush 110, 2) := by decide +kernel
theorem dX7_wordFrom_105 : decode cX7_wordFrom 105 = .ok (.invokevirtual 232, 3) := by decide +kernel
theorem dX7_wordFrom_108 : decode cX7_wordFrom 108 = .ok (.ifCond .eq 26, 3) := by decide +kernel
theorem dX7_wordFrom_111 : decode cX7_wordFrom 111 = .ok (.aload_n 0, 1) := by decide +kernel
theorem dX7_wordFrom_112 : decode cX7_wordFrom 112 = .ok (.getfield 19, 3) := by decide +kernel
theorem dX7_wordFrom_115 : decode cX7_wordFrom 115 = .ok (.iload_n 1, 1) := by decide +kernel
theorem dX7_wordFrom_116 : decode cX7_wordFrom 116 = .ok (.iconst 4, 1) := by decide +kernel
theorem dX7_wordFrom_117 : decode cX7_wordFrom 117 = .ok (.iadd, 1) := by decide +kernel
theorem dX7_wordFrom_118 : decode cX7_wordFrom 118 = .ok (.iaload, 1) := by decide +kernel
theorem dX7_wordFrom_119 : decode cX7_wordFrom 119 = .ok (.bipush 101, 2) := by decide +kernel
theorem dX7_wordFrom_121 : decode cX7_wordFrom 121 = .ok (.if_icmp .ne 13, 3) := by decide +kernel
theorem dX7_wordFrom_124 : decode cX7_wordFrom 124 = .ok (.iload_n 2, 1) := by decide +kernel
theorem dX7_wordFrom_125 : decode cX7_wordFrom 125 = .ok (.bipush 114, 2) := by decide +kernel
theorem dX7_wordFrom_127 : decode cX7_wordFrom 127 = .ok (.if_icmp .ne 7, 3) := by decide +kernel
theorem dX7_wordFrom_130 : decode cX7_wordFrom 130 = .ok (.iconst 3, 1) := by decide +kernel
theorem dX7_wordFrom_131 : decode cX7_wordFrom 131 = .ok (.goto 96, 3) := by decide +kernel
theorem dX7_wordFrom_134 : decode cX7_wordFrom 134 = .ok (.aload_n 0, 1) := by decide +kernel
theorem dX7_wordFrom_135 : decode cX7_wordFrom 135 = .ok (.iload_n 1, 1) := by decide +kernel
theorem dX7_wordFrom_136 : decode cX7_wordFrom 136 = .ok (.iconst 5, 1) := by decide +kernel
theorem dX7_wordFrom_137 : decode cX7_wordFrom 137 = .ok (.bipush 115, 2) := by decide +kernel
theorem dX7_wordFrom_139 : decode cX7_wordFrom 139 = .ok (.bipush 104, 2) := by decide +kernel
theorem dX7_wordFrom_141 : decode cX7_wordFrom 141 = .ok (.bipush 105, 2) := by decide +kernel
theorem dX7_wordFrom_143 : decode cX7_wordFrom 143 = .ok (.bipush 102, 2) := by decide +kernel
theorem dX7_wordFrom_145 : decode cX7_wordFrom 145 = .ok (.invokevirtual 232, 3) := by decide +kernel
theorem dX7_wordFrom_148 : decode cX7_wordFrom 148 = .ok (.ifCond .eq 13, 3) := by decide +kernel
theorem dX7_wordFrom_151 : decode cX7_wordFrom 151 = .ok (.iload_n 2, 1) := by decide +kernel
theorem dX7_wordFrom_152 : decode cX7_wordFrom 152 = .ok (.bipush 116, 2) := by decide +kernel
theorem dX7_wordFrom_154 : decode cX7_wordFrom 154 = .ok (.if_icmp .ne 7, 3) := by decide +kernel
theorem dX7_wordFrom_157 : decode cX7_wordFrom 157 = .ok (.iconst 4, 1) := by decide +kernel
theorem dX7_wordFrom_158 : decode cX7_wordFrom 158 = .ok (.goto 69, 3) := by decide +kernel
theorem dX7_wordFrom_161 : decode cX7_wordFrom 161 = .ok (.aload_n 0, 1) := by decide +kernel
theorem dX7_wordFrom_162 : decode cX7_wordFrom 162 = .ok (.iload_n 1, 1) := by decide +kernel
theorem dX7_wordFrom_163 : decode cX7_wordFrom 163 = .ok (.iconst 4, 1) := by decide +kernel
theorem dX7_wordFrom_164 : decode cX7_wordFrom 164 = .ok (.bipush 102, 2) := by decide +kernel
theorem dX7_wordFrom_166 : decode cX7_wordFrom 166 = .ok (.bipush 97, 2) := by decide +kernel
theorem dX7_wordFrom_168 : decode cX7_wordFrom 168 = .ok (.bipush 105, 2) := by decide +kernel
theorem dX7_wordFrom_170 : decode cX7_wordFrom 170 = .ok (.bipush 108, 2) := by decide +kernel
theorem dX7_wordFrom_172 : decode cX7_wordFrom 172 = .ok (.invokevirtual 232, 3) := by decide +kernel
theorem dX7_wordFrom_175 : decode cX7_wordFrom 175 = .ok (.ifCond .eq 7, 3) := by decide +kernel
theorem dX7_wordFrom_178 : decode cX7_wordFrom 178 = .ok (.iconst 5, 1) := by decide +kernel
theorem dX7_wordFrom_179 : decode cX7_wordFrom 179 = .ok (.goto 48, 3) := by decide +kernel
theorem dX7_wordFrom_182 : decode cX7_wordFrom 182 = .ok (.aload_n 0, 1) := by decide +kernel
theorem dX7_wordFrom_183 : decode cX7_wordFrom 183 = .ok (.iload_n 1, 1) := by decide +kernel
theorem dX7_wordFrom_184 : decode cX7_wordFrom 184 = .ok (.iconst 4, 1) := by decide +kernel
theorem dX7_wordFrom_185 : decode cX7_wordFrom 185 = .ok (.bipush 109, 2) := by decide +kernel
theorem dX7_wordFrom_187 : decode cX7_wordFrom 187 = .ok (.bipush 101, 2) := by decide +kernel
theorem dX7_wordFrom_189 : decode cX7_wordFrom 189 = .ok (.bipush 110, 2) := by decide +kernel
theorem dX7_wordFrom_191 : decode cX7_wordFrom 191 = .ok (.bipush 100, 2) := by decide +kernel
theorem dX7_wordFrom_193 : decode cX7_wordFrom 193 = .ok (.invokevirtual 232, 3) := by decide +kernel
theorem dX7_wordFrom_196 : decode cX7_wordFrom 196 = .ok (.ifCond .eq 8, 3) := by decide +kernel
theorem dX7_wordFrom_199 : decode cX7_wordFrom 199 = .ok (.bipush 6, 2) := by decide +kernel
theorem dX7_wordFrom_201 : decode cX7_wordFrom 201 = .ok (.goto 26, 3) := by decide +kernel
theorem dX7_wordFrom_204 : decode cX7_wordFrom 204 = .ok (.aload_n 0, 1) := by decide +kernel
theorem dX7_wordFrom_205 : decode cX7_wordFrom 205 = .ok (.iload_n 1, 1) := by decide +kernel
theorem dX7_wordFrom_206 : decode cX7_wordFrom 206 = .ok (.iconst 4, 1) := by decide +kernel
theorem dX7_wordFrom_207 : decode cX7_wordFrom 207 = .ok (.bipush 98, 2) := by decide +kernel
theorem dX7_wordFrom_209 : decode cX7_wordFrom 209 = .ok (.bipush 117, 2) := by decide +kernel
theorem dX7_wordFrom_211 : decode cX7_wordFrom 211 = .ok (.bipush 114, 2) := by decide +kernel
theorem dX7_wordFrom_213 : decode cX7_wordFrom 213 = .ok (.bipush 110, 2) := by decide +kernel
theorem dX7_wordFrom_215 : decode cX7_wordFrom 215 = .ok (.invokevirtual 232, 3) := by decide +kernel
theorem dX7_wordFrom_218 : decode cX7_wordFrom 218 = .ok (.ifCond .eq 8, 3) := by decide +kernel
theorem dX7_wordFrom_221 : decode cX7_wordFrom 221 = .ok (.bipush 7, 2) := by decide +kernel
theorem dX7_wordFrom_223 : decode cX7_wordFrom 223 = .ok (.goto 4, 3) := by decide +kernel
theorem dX7_wordFrom_226 : decode cX7_wordFrom 226 = .ok (.iconst (-1), 1) := by decide +kernel
theorem dX7_wordFrom_227 : decode cX7_wordFrom 227 = .ok (.ireturn, 1) := by decide +kernel
theorem dX7_numbersOf_0 : decode cX7_numbersOf 0 = .ok (.iload_n 0, 1) := by decide +kernel
theorem dX7_numbersOf_1 : decode cX7_numbersOf 1 = .ok (.iconst 1, 1) := by decide +kernel
theorem dX7_numbersOf_2 : decode cX7_numbersOf 2 = .ok (.if_icmp .ne 7, 3) := by decide +kernel
theorem dX7_numbersOf_5 : decode cX7_numbersOf 5 = .ok (.iconst 5, 1) := by decide +kernel
theorem dX7_numbersOf_6 : decode cX7_numbersOf 6 = .ok (.goto 31, 3) := by decide +kernel
theorem dX7_numbersOf_9 : decode cX7_numbersOf 9 = .ok (.iload_n 0, 1) := by decide +kernel
theorem dX7_numbersOf_10 : decode cX7_numbersOf 10 = .ok (.iconst 3, 1) := by decide +kernel
theorem dX7_numbersOf_11 : decode cX7_numbersOf 11 = .ok (.if_icmp .ne 7, 3) := by decide +kernel
theorem dX7_numbersOf_14 : decode cX7_numbersOf 14 = .ok (.iconst 4, 1) := by decide +kernel
theorem dX7_numbersOf_15 : decode cX7_numbersOf 15 = .ok (.goto 22, 3) := by decide +kernel
theorem dX7_numbersOf_18 : decode cX7_numbersOf 18 = .ok (.iload_n 0, 1) := by decide +kernel
theorem dX7_numbersOf_19 : decode cX7_numbersOf 19 = .ok (.ifCond .eq 13, 3) := by decide +kernel
theorem dX7_numbersOf_22 : decode cX7_numbersOf 22 = .ok (.iload_n 0, 1) := by decide +kernel
theorem dX7_numbersOf_23 : decode cX7_numbersOf 23 = .ok (.iconst 2, 1) := by decide +kernel
theorem dX7_numbersOf_24 : decode cX7_numbersOf 24 = .ok (.if_icmp .eq 8, 3) := by decide +kernel
theorem dX7_numbersOf_27 : decode cX7_numbersOf 27 = .ok (.iload_n 0, 1) := by decide +kernel
theorem dX7_numbersOf_28 : decode cX7_numbersOf 28 = .ok (.iconst 4, 1) := by decide +kernel
theorem dX7_numbersOf_29 : decode cX7_numbersOf 29 = .ok (.if_icmp .ne 7, 3) := by decide +kernel
theorem dX7_numbersOf_32 : decode cX7_numbersOf 32 = .ok (.iconst 2, 1) := by decide +kernel
theorem dX7_numbersOf_33 : decode cX7_numbersOf 33 = .ok (.goto 4, 3) := by decide +kernel
theorem dX7_numbersOf_36 : decode cX7_numbersOf 36 = .ok (.iconst 1, 1) := by decide +kernel
theorem dX7_numbersOf_37 : decode cX7_numbersOf 37 = .ok (.ireturn, 1) := by decide +kernel
theorem dX7_isNumber_0 : decode cX7_isNumber 0 = .ok (.aload_n 0, 1) := by decide +kernel
theorem dX7_isNumber_1 : decode cX7_isNumber 1 = .ok (.invokevirtual 236, 3) := by decide +kernel
theorem dX7_isNumber_4 : decode cX7_isNumber 4 = .ok (.ifCond .ne 5, 3) := by decide +kernel
theorem dX7_isNumber_7 : decode cX7_isNumber 7 = .ok (.iconst 0, 1) := by decide +kernel
theorem dX7_isNumber_8 : decode cX7_isNumber 8 = .ok (.ireturn, 1) := by decide +kernel
theorem dX7_isNumber_9 : decode cX7_isNumber 9 = .ok (.aload_n 0, 1) := by decide +kernel
theorem dX7_isNumber_10 : decode cX7_isNumber 10 = .ok (.invokevirtual 229, 3) := by decide +kernel
theorem dX7_isNumber_13 : decode cX7_isNumber 13 = .ok (.bipush 45, 2) := by decide +kernel
theorem dX7_isNumber_15 : decode cX7_isNumber 15 = .ok (.if_icmp .ne 7, 3) := by decide +kernel
theorem dX7_isNumber_18 : decode cX7_isNumber 18 = .ok (.iconst (-1), 1) := by decide +kernel
theorem dX7_isNumber_19 : decode cX7_isNumber 19 = .ok (.goto 4, 3) := by decide +kernel
theorem dX7_isNumber_22 : decode cX7_isNumber 22 = .ok (.iconst 1, 1) := by decide +kernel
theorem dX7_isNumber_23 : decode cX7_isNumber 23 = .ok (.istore_n 2, 1) := by decide +kernel
theorem dX7_isNumber_24 : decode cX7_isNumber 24 = .ok (.aload_n 0, 1) := by decide +kernel
theorem dX7_isNumber_25 : decode cX7_isNumber 25 = .ok (.dup, 1) := by decide +kernel
theorem dX7_isNumber_26 : decode cX7_isNumber 26 = .ok (.getfield 226, 3) := by decide +kernel
theorem dX7_isNumber_29 : decode cX7_isNumber 29 = .ok (.iload_n 2, 1) := by decide +kernel
theorem dX7_isNumber_30 : decode cX7_isNumber 30 = .ok (.ifCond .ge 7, 3) := by decide +kernel
theorem dX7_isNumber_33 : decode cX7_isNumber 33 = .ok (.iconst 1, 1) := by decide +kernel
theorem dX7_isNumber_34 : decode cX7_isNumber 34 = .ok (.goto 4, 3) := by decide +kernel
theorem dX7_isNumber_37 : decode cX7_isNumber 37 = .ok (.iconst 0, 1) := by decide +kernel
theorem dX7_isNumber_38 : decode cX7_isNumber 38 = .ok (.iadd, 1) := by decide +kernel
theorem dX7_isNumber_39 : decode cX7_isNumber 39 = .ok (.putfield 226, 3) := by decide +kernel
theorem dX7_isNumber_42 : decode cX7_isNumber 42 = .ok (.iconst 0, 1) := by decide +kernel
theorem dX7_isNumber_43 : decode cX7_isNumber 43 = .ok (.istore_n 3, 1) := by decide +kernel
theorem dX7_isNumber_44 : decode cX7_isNumber 44 = .ok (.iconst 0, 1) := by decide +kernel
theorem dX7_isNumber_45 : decode cX7_isNumber 45 = .ok (.istore 4, 2) := by decide +kernel
theorem dX7_isNumber_47 : decode cX7_isNumber 47 = .ok (.iload_n 3, 1) := by decide +kernel
theorem dX7_isNumber_48 : decode cX7_isNumber 48 = .ok (.iconst 4, 1) := by decide +kernel
theorem dX7_isNumber_49 : decode cX7_isNumber 49 = .ok (.if_icmp .ge 48, 3) := by decide +kernel
theorem dX7_isNumber_52 : decode cX7_isNumber 52 = .ok (.aload_n 0, 1) := by decide +kernel
theorem dX7_isNumber_53 : decode cX7_isNumber 53 = .ok (.invokevirtual 229, 3) := by decide +kernel
theorem dX7_isNumber_56 : decode cX7_isNumber 56 = .ok (.bipush 48, 2) := by decide +kernel
theorem dX7_isNumber_58 : decode cX7_isNumber 58 = .ok (.bipush 57, 2) := by decide +kernel
theorem dX7_isNumber_60 : decode cX7_isNumber 60 = .ok (.invokestatic 41, 3) := by decide +kernel
theorem dX7_isNumber_63 : decode cX7_isNumber 63 = .ok (.ifCond .eq 34, 3) := by decide +kernel
theorem dX7_isNumber_66 : decode cX7_isNumber 66 = .ok (.bipush 10, 2) := by decide +kernel
theorem dX7_isNumber_68 : decode cX7_isNumber 68 = .ok (.iload 4, 2) := by decide +kernel
theorem dX7_isNumber_70 : decode cX7_isNumber 70 = .ok (.imul, 1) := by decide +kernel
theorem dX7_isNumber_71 : decode cX7_isNumber 71 = .ok (.aload_n 0, 1) := by decide +kernel
theorem dX7_isNumber_72 : decode cX7_isNumber 72 = .ok (.invokevirtual 229, 3) := by decide +kernel
theorem dX7_isNumber_75 : decode cX7_isNumber 75 = .ok (.iadd, 1) := by decide +kernel
theorem dX7_isNumber_76 : decode cX7_isNumber 76 = .ok (.bipush 48, 2) := by decide +kernel
theorem dX7_isNumber_78 : decode cX7_isNumber 78 = .ok (.isub, 1) := by decide +kernel
theorem dX7_isNumber_79 : decode cX7_isNumber 79 = .ok (.istore 4, 2) := by decide +kernel
theorem dX7_isNumber_81 : decode cX7_isNumber 81 = .ok (.iinc 3 1, 3) := by decide +kernel
theorem dX7_isNumber_84 : decode cX7_isNumber 84 = .ok (.aload_n 0, 1) := by decide +kernel
theorem dX7_isNumber_85 : decode cX7_isNumber 85 = .ok (.dup, 1) := by decide +kernel
theorem dX7_isNumber_86 : decode cX7_isNumber 86 = .ok (.getfield 226, 3) := by decide +kernel
theorem dX7_isNumber_89 : decode cX7_isNumber 89 = .ok (.iconst 1, 1) := by decide +kernel
theorem dX7_isNumber_90 : decode cX7_isNumber 90 = .ok (.iadd, 1) := by decide +kernel
theorem dX7_isNumber_91 : decode cX7_isNumber 91 = .ok (.putfield 226, 3) := by decide +kernel
theorem dX7_isNumber_94 : decode cX7_isNumber 94 = .ok (.goto (-47), 3) := by decide +kernel
theorem dX7_isNumber_97 : decode cX7_isNumber 97 = .ok (.aload_n 0, 1) := by decide +kernel
theorem dX7_isNumber_98 : decode cX7_isNumber 98 = .ok (.getfield 35, 3) := by decide +kernel
theorem dX7_isNumber_101 : decode cX7_isNumber 101 = .ok (.iload_n 1, 1) := by decide +kernel
theorem dX7_isNumber_102 : decode cX7_isNumber 102 = .ok (.iload_n 2, 1) := by decide +kernel
theorem dX7_isNumber_103 : decode cX7_isNumber 103 = .ok (.iload 4, 2) := by decide +kernel
theorem dX7_isNumber_105 : decode cX7_isNumber 105 = .ok (.imul, 1) := by decide +kernel
theorem dX7_isNumber_106 : decode cX7_isNumber 106 = .ok (.iastore, 1) := by decide +kernel
theorem dX7_isNumber_107 : decode cX7_isNumber 107 = .ok (.iload_n 3, 1) := by decide +kernel
theorem dX7_isNumber_108 : decode cX7_isNumber 108 = .ok (.ifCond .le 7, 3) := by decide +kernel
theorem dX7_isNumber_111 : decode cX7_isNumber 111 = .ok (.iconst 1, 1) := by decide +kernel
theorem dX7_isNumber_112 : decode cX7_isNumber 112 = .ok (.goto 4, 3) := by decide +kernel
theorem dX7_isNumber_115 : decode cX7_isNumber 115 = .ok (.iconst 0, 1) := by decide +kernel
theorem dX7_isNumber_116 : decode cX7_isNumber 116 = .ok (.ireturn, 1) := by decide +kernel
theorem dX7_isCommand_0 : decode cX7_isCommand 0 = .ok (.aload_n 0, 1) := by decide +kernel
theorem dX7_isCommand_1 : decode cX7_isCommand 1 = .ok (.getfield 226, 3) := by decide +kernel
theorem dX7_isCommand_4 : decode cX7_isCommand 4 = .ok (.istore_n 1, 1) := by decide +kernel
theorem dX7_isCommand_5 : decode cX7_isCommand 5 = .ok (.aload_n 0, 1) := by decide +kernel
theorem dX7_isCommand_6 : decode cX7_isCommand 6 = .ok (.invokevirtual 229, 3) := by decide +kernel
theorem dX7_isCommand_9 : decode cX7_isCommand 9 = .ok (.bipush 97, 2) := by decide +kernel
theorem dX7_isCommand_11 : decode cX7_isCommand 11 = .ok (.bipush 122, 2) := by decide +kernel
theorem dX7_isCommand_13 : decode cX7_isCommand 13 = .ok (.invokestatic 41, 3) := by decide +kernel
theorem dX7_isCommand_16 : decode cX7_isCommand 16 = .ok (.ifCond .eq 16, 3) := by decide +kernel
theorem dX7_isCommand_19 : decode cX7_isCommand 19 = .ok (.aload_n 0, 1) := by decide +kernel
theorem dX7_isCommand_20 : decode cX7_isCommand 20 = .ok (.dup, 1) := by decide +kernel
theorem dX7_isCommand_21 : decode cX7_isCommand 21 = .ok (.getfield 226, 3) := by decide +kernel
theorem dX7_isCommand_24 : decode cX7_isCommand 24 = .ok (.iconst 1, 1) := by decide +kernel
theorem dX7_isCommand_25 : decode cX7_isCommand 25 = .ok (.iadd, 1) := by decide +kernel
theorem dX7_isCommand_26 : decode cX7_isCommand 26 = .ok (.putfield 226, 3) := by decide +kernel
theorem dX7_isCommand_29 : decode cX7_isCommand 29 = .ok (.goto (-24), 3) := by decide +kernel
theorem dX7_isCommand_32 : decode cX7_isCommand 32 = .ok (.aload_n 0, 1) := by decide +kernel
theorem dX7_isCommand_33 : decode cX7_isCommand 33 = .ok (.aload_n 0, 1) := by decide +kernel
theorem dX7_isCommand_34 : decode cX7_isCommand 34 = .ok (.iload_n 1, 1) := by decide +kernel
theorem dX7_isCommand_35 : decode cX7_isCommand 35 = .ok (.invokevirtual 240, 3) := by decide +kernel
theorem dX7_isCommand_38 : decode cX7_isCommand 38 = .ok (.putfield 243, 3) := by decide +kernel
theorem dX7_isCommand_41 : decode cX7_isCommand 41 = .ok (.aload_n 0, 1) := by decide +kernel
theorem dX7_isCommand_42 : decode cX7_isCommand 42 = .ok (.getfield 243, 3) := by decide +kernel
theorem dX7_isCommand_45 : decode cX7_isCommand 45 = .ok (.ifCond .ge 10, 3) := by decide +kernel
theorem dX7_isCommand_48 : decode cX7_isCommand 48 = .ok (.aload_n 0, 1) := by decide +kernel
theorem dX7_isCommand_49 : decode cX7_isCommand 49 = .ok (.iload_n 1, 1) := by decide +kernel
theorem dX7_isCommand_50 : decode cX7_isCommand 50 = .ok (.putfield 226, 3) := by decide +kernel
theorem dX7_isCommand_53 : decode cX7_isCommand 53 = .ok (.iconst 0, 1) := by decide +kernel
theorem dX7_isCommand_54 : decode cX7_isCommand 54 = .ok (.ireturn, 1) := by decide +kernel
theorem dX7_isCommand_55 : decode cX7_isCommand 55 = .ok (.iconst 0, 1) := by decide +kernel
theorem dX7_isCommand_56 : decode cX7_isCommand 56 = .ok (.istore_n 2, 1) := by decide +kernel
theorem dX7_isCommand_57 : decode cX7_isCommand 57 = .ok (.iload_n 2, 1) := by decide +kernel
theorem dX7_isCommand_58 : decode cX7_isCommand 58 = .ok (.aload_n 0, 1) := by decide +kernel
theorem dX7_isCommand_59 : decode cX7_isCommand 59 = .ok (.getfield 243, 3) := by decide +kernel
theorem dX7_isCommand_62 : decode cX7_isCommand 62 = .ok (.invokestatic 246, 3) := by decide +kernel
theorem dX7_isCommand_65 : decode cX7_isCommand 65 = .ok (.if_icmp .ge 19, 3) := by decide +kernel
theorem dX7_isCommand_68 : decode cX7_isCommand 68 = .ok (.aload_n 0, 1) := by decide +kernel
theorem dX7_isCommand_69 : decode cX7_isCommand 69 = .ok (.iload_n 2, 1) := by decide +kernel
theorem dX7_isCommand_70 : decode cX7_isCommand 70 = .ok (.invokevirtual 249, 3) := by decide +kernel
theorem dX7_isCommand_73 : decode cX7_isCommand 73 = .ok (.ifCond .ne 5, 3) := by decide +kernel
theorem dX7_isCommand_76 : decode cX7_isCommand 76 = .ok (.iconst 0, 1) := by decide +kernel
theorem dX7_isCommand_77 : decode cX7_isCommand 77 = .ok (.ireturn, 1) := by decide +kernel
theorem dX7_isCommand_78 : decode cX7_isCommand 78 = .ok (.iinc 2 1, 3) := by decide +kernel
theorem dX7_isCommand_81 : decode cX7_isCommand 81 = .ok (.goto (-24), 3) := by decide +kernel
theorem dX7_isCommand_84 : decode cX7_isCommand 84 = .ok (.aload_n 0, 1) := by decide +kernel
theorem dX7_isCommand_85 : decode cX7_isCommand 85 = .ok (.invokevirtual 236, 3) := by decide +kernel
theorem dX7_isCommand_88 : decode cX7_isCommand 88 = .ok (.istore_n 2, 1) := by decide +kernel
theorem dX7_isCommand_89 : decode cX7_isCommand 89 = .ok (.aload_n 0, 1) := by decide +kernel
theorem dX7_isCommand_90 : decode cX7_isCommand 90 = .ok (.invokevirtual 229, 3) := by decide +kernel
theorem dX7_isCommand_93 : decode cX7_isCommand 93 = .ok (.bipush 59, 2) := by decide +kernel
theorem dX7_isCommand_95 : decode cX7_isCommand 95 = .ok (.if_icmp .eq 5, 3) := by decide +kernel
theorem dX7_isCommand_98 : decode cX7_isCommand 98 = .ok (.iconst 0, 1) := by decide +kernel
theorem dX7_isCommand_99 : decode cX7_isCommand 99 = .ok (.ireturn, 1) := by decide +kernel
theorem dX7_isCommand_100 : decode cX7_isCommand 100 = .ok (.aload_n 0, 1) := by decide +kernel
theorem dX7_isCommand_101 : decode cX7_isCommand 101 = .ok (.dup, 1) := by decide +kernel
theorem dX7_isCommand_102 : decode cX7_isCommand 102 = .ok (.getfield 226, 3) := by decide +kernel
theorem dX7_isCommand_105 : decode cX7_isCommand 105 = .ok (.iconst 1, 1) := by decide +kernel
theorem dX7_isCommand_106 : decode cX7_isCommand 106 = .ok (.iadd, 1) := by decide +kernel
theorem dX7_isCommand_107 : decode cX7_isCommand 107 = .ok (.putfield 226, 3) := by decide +kernel
theorem dX7_isCommand_110 : decode cX7_isCommand 110 = .ok (.aload_n 0, 1) := by decide +kernel
theorem dX7_isCommand_111 : decode cX7_isCommand 111 = .ok (.invokevirtual 236, 3) := by decide +kernel
theorem dX7_isCommand_114 : decode cX7_isCommand 114 = .ok (.istore_n 2, 1) := by decide +kernel
theorem dX7_isCommand_115 : decode cX7_isCommand 115 = .ok (.iconst 1, 1) := by decide +kernel
theorem dX7_isCommand_116 : decode cX7_isCommand 116 = .ok (.ireturn, 1) := by decide +kernel
theorem dX7_faultOfText_0 : decode cX7_faultOfText 0 = .ok (.aload_n 0, 1) := by decide +kernel
theorem dX7_faultOfText_1 : decode cX7_faultOfText 1 = .ok (.iconst 0, 1) := by decide +kernel
theorem dX7_faultOfText_2 : decode cX7_faultOfText 2 = .ok (.putfield 226, 3) := by decide +kernel
theorem dX7_faultOfText_5 : decode cX7_faultOfText 5 = .ok (.aload_n 0, 1) := by decide +kernel
theorem dX7_faultOfText_6 : decode cX7_faultOfText 6 = .ok (.invokevirtual 236, 3) := by decide +kernel
theorem dX7_faultOfText_9 : decode cX7_faultOfText 9 = .ok (.istore_n 1, 1) := by decide +kernel
theorem dX7_faultOfText_10 : decode cX7_faultOfText 10 = .ok (.aload_n 0, 1) := by decide +kernel
theorem dX7_faultOfText_11 : decode cX7_faultOfText 11 = .ok (.getfield 226, 3) := by decide +kernel
theorem dX7_faultOfText_14 : decode cX7_faultOfText 14 = .ok (.aload_n 0, 1) := by decide +kernel
theorem dX7_faultOfText_15 : decode cX7_faultOfText 15 = .ok (.getfield 208, 3) := by decide +kernel
theorem dX7_faultOfText_18 : decode cX7_faultOfText 18 = .ok (.if_icmp .ge 15, 3) := by decide +kernel
theorem dX7_faultOfText_21 : decode cX7_faultOfText 21 = .ok (.aload_n 0, 1) := by decide +kernel
theorem dX7_faultOfText_22 : decode cX7_faultOfText 22 = .ok (.invokevirtual 252, 3) := by decide +kernel
theorem dX7_faultOfText_25 : decode cX7_faultOfText 25 = .ok (.ifCond .ne (-15), 3) := by decide +kernel
theorem dX7_faultOfText_28 : decode cX7_faultOfText 28 = .ok (.aload_n 0, 1) := by decide +kernel
theorem dX7_faultOfText_29 : decode cX7_faultOfText 29 = .ok (.getfield 226, 3) := by decide +kernel
theorem dX7_faultOfText_32 : decode cX7_faultOfText 32 = .ok (.ireturn, 1) := by decide +kernel
theorem dX7_faultOfText_33 : decode cX7_faultOfText 33 = .ok (.sipush (-1000), 3) := by decide +kernel
theorem dX7_faultOfText_36 : decode cX7_faultOfText 36 = .ok (.ireturn, 1) := by decide +kernel
theorem dX7_does_0 : decode cX7_does 0 = .ok (.aload_n 0, 1) := by decide +kernel
theorem dX7_does_1 : decode cX7_does 1 = .ok (.getfield 243, 3) := by decide +kernel
theorem dX7_does_4 : decode cX7_does 4 = .ok (.tableswitch 174 0 7 #[48, 65, 100, 117, 146, 174, 174, 163], 48) := by decide +kernel
theorem dX7_does_52 : decode cX7_does 52 = .ok (.aload_n 0, 1) := by decide +kernel
theorem dX7_does_53 : decode cX7_does 53 = .ok (.aload_n 0, 1) := by decide +kernel
theorem dX7_does_54 : decode cX7_does 54 = .ok (.getfield 35, 3) := by decide +kernel
theorem dX7_does_57 : decode cX7_does 57 = .ok (.iconst 0, 1) := by decide +kernel
theorem dX7_does_58 : decode cX7_does 58 = .ok (.iaload, 1) := by decide +kernel
theorem dX7_does_59 : decode cX7_does 59 = .ok (.aload_n 0, 1) := by decide +kernel
theorem dX7_does_60 : decode cX7_does 60 = .ok (.getfield 35, 3) := by decide +kernel
theorem dX7_does_63 : decode cX7_does 63 = .ok (.iconst 1, 1) := by decide +kernel
theorem dX7_does_64 : decode cX7_does 64 = .ok (.iaload, 1) := by decide +kernel
theorem dX7_does_65 : decode cX7_does 65 = .ok (.invokevirtual 165, 3) := by decide +kernel
theorem dX7_does_68 : decode cX7_does 68 = .ok (.ireturn, 1) := by decide +kernel
theorem dX7_does_69 : decode cX7_does 69 = .ok (.aload_n 0, 1) := by decide +kernel
theorem dX7_does_70 : decode cX7_does 70 = .ok (.aload_n 0, 1) := by decide +kernel
theorem dX7_does_71 : decode cX7_does 71 = .ok (.getfield 35, 3) := by decide +kernel
theorem dX7_does_74 : decode cX7_does 74 = .ok (.iconst 0, 1) := by decide +kernel
theorem dX7_does_75 : decode cX7_does 75 = .ok (.iaload, 1) := by decide +kernel
theorem dX7_does_76 : decode cX7_does 76 = .ok (.aload_n 0, 1) := by decide +kernel
theorem dX7_does_77 : decode cX7_does 77 = .ok (.getfield 35, 3) := by decide +kernel
theorem dX7_does_80 : decode cX7_does 80 = .ok (.iconst 1, 1) := by decide +kernel
theorem dX7_does_81 : decode cX7_does 81 = .ok (.iaload, 1) := by decide +kernel
theorem dX7_does_82 : decode cX7_does 82 = .ok (.aload_n 0, 1) := by decide +kernel
theorem dX7_does_83 : decode cX7_does 83 = .ok (.getfield 35, 3) := by decide +kernel
theorem dX7_does_86 : decode cX7_does 86 = .ok (.iconst 2, 1) := by decide +kernel
theorem dX7_does_87 : decode cX7_does 87 = .ok (.iaload, 1) := by decide +kernel
theorem dX7_does_88 : decode cX7_does 88 = .ok (.aload_n 0, 1) := by decide +kernel
theorem dX7_does_89 : decode cX7_does 89 = .ok (.getfield 35, 3) := by decide +kernel
theorem dX7_does_92 : decode cX7_does 92 = .ok (.iconst 3, 1) := by decide +kernel
theorem dX7_does_93 : decode cX7_does 93 = .ok (.iaload, 1) := by decide +kernel
theorem dX7_does_94 : decode cX7_does 94 = .ok (.aload_n 0, 1) := by decide +kernel
theorem dX7_does_95 : decode cX7_does 95 = .ok (.getfield 35, 3) := by decide +kernel
theorem dX7_does_98 : decode cX7_does 98 = .ok (.iconst 4, 1) := by decide +kernel
theorem dX7_does_99 : decode cX7_does 99 = .ok (.iaload, 1) := by decide +kernel
theorem dX7_does_100 : decode cX7_does 100 = .ok (.invokevirtual 171, 3) := by decide +kernel
theorem dX7_does_103 : decode cX7_does 103 = .ok (.ireturn, 1) := by decide +kernel
theorem dX7_does_104 : decode cX7_does 104 = .ok (.aload_n 0, 1) := by decide +kernel
theorem dX7_does_105 : decode cX7_does 105 = .ok (.aload_n 0, 1) := by decide +kernel
theorem dX7_does_106 : decode cX7_does 106 = .ok (.getfield 35, 3) := by decide +kernel
theorem dX7_does_109 : decode cX7_does 109 = .ok (.iconst 0, 1) := by decide +kernel
theorem dX7_does_110 : decode cX7_does 110 = .ok (.iaload, 1) := by decide +kernel
theorem dX7_does_111 : decode cX7_does 111 = .ok (.aload_n 0, 1) := by decide +kernel
theorem dX7_does_112 : decode cX7_does 112 = .ok (.getfield 35, 3) := by decide +kernel
theorem dX7_does_115 : decode cX7_does 115 = .ok (.iconst 1, 1) := by decide +kernel
theorem dX7_does_116 : decode cX7_does 116 = .ok (.iaload, 1) := by decide +kernel
theorem dX7_does_117 : decode cX7_does 117 = .ok (.invokevirtual 175, 3) := by decide +kernel
theorem dX7_does_120 : decode cX7_does 120 = .ok (.ireturn, 1) := by decide +kernel
theorem dX7_does_121 : decode cX7_does 121 = .ok (.aload_n 0, 1) := by decide +kernel
theorem dX7_does_122 : decode cX7_does 122 = .ok (.aload_n 0, 1) := by decide +kernel
theorem dX7_does_123 : decode cX7_does 123 = .ok (.getfield 35, 3) := by decide +kernel
theorem dX7_does_126 : decode cX7_does 126 = .ok (.iconst 0, 1) := by decide +kernel
theorem dX7_does_127 : decode cX7_does 127 = .ok (.iaload, 1) := by decide +kernel
theorem dX7_does_128 : decode cX7_does 128 = .ok (.aload_n 0, 1) := by decide +kernel
theorem dX7_does_129 : decode cX7_does 129 = .ok (.getfield 35, 3) := by decide +kernel
theorem dX7_does_132 : decode cX7_does 132 = .ok (.iconst 1, 1) := by decide +kernel
theorem dX7_does_133 : decode cX7_does 133 = .ok (.iaload, 1) := by decide +kernel
theorem dX7_does_134 : decode cX7_does 134 = .ok (.aload_n 0, 1) := by decide +kernel
theorem dX7_does_135 : decode cX7_does 135 = .ok (.getfield 35, 3) := by decide +kernel
theorem dX7_does_138 : decode cX7_does 138 = .ok (.iconst 2, 1) := by decide +kernel
theorem dX7_does_139 : decode cX7_does 139 = .ok (.iaload, 1) := by decide +kernel
theorem dX7_does_140 : decode cX7_does 140 = .ok (.aload_n 0, 1) := by decide +kernel
theorem dX7_does_141 : decode cX7_does 141 = .ok (.getfield 35, 3) := by decide +kernel
theorem dX7_does_144 : decode cX7_does 144 = .ok (.iconst 3, 1) := by decide +kernel
theorem dX7_does_145 : decode cX7_does 145 = .ok (.iaload, 1) := by decide +kernel
theorem dX7_does_146 : decode cX7_does 146 = .ok (.invokevirtual 178, 3) := by decide +kernel
theorem dX7_does_149 : decode cX7_does 149 = .ok (.ireturn, 1) := by decide +kernel
theorem dX7_does_150 : decode cX7_does 150 = .ok (.aload_n 0, 1) := by decide +kernel
theorem dX7_does_151 : decode cX7_does 151 = .ok (.aload_n 0, 1) := by decide +kernel
theorem dX7_does_152 : decode cX7_does 152 = .ok (.getfield 35, 3) := by decide +kernel
theorem dX7_does_155 : decode cX7_does 155 = .ok (.iconst 0, 1) := by decide +kernel
theorem dX7_does_156 : decode cX7_does 156 = .ok (.iaload, 1) := by decide +kernel
theorem dX7_does_157 : decode cX7_does 157 = .ok (.aload_n 0, 1) := by decide +kernel
theorem dX7_does_158 : decode cX7_does 158 = .ok (.getfield 35, 3) := by decide +kernel
theorem dX7_does_161 : decode cX7_does 161 = .ok (.iconst 1, 1) := by decide +kernel
theorem dX7_does_162 : decode cX7_does 162 = .ok (.iaload, 1) := by decide +kernel
theorem dX7_does_163 : decode cX7_does 163 = .ok (.invokevirtual 186, 3) := by decide +kernel
theorem dX7_does_166 : decode cX7_does 166 = .ok (.ireturn, 1) := by decide +kernel
theorem dX7_does_167 : decode cX7_does 167 = .ok (.aload_n 0, 1) := by decide +kernel
theorem dX7_does_168 : decode cX7_does 168 = .ok (.aload_n 0, 1) := by decide +kernel
theorem dX7_does_169 : decode cX7_does 169 = .ok (.getfield 35, 3) := by decide +kernel
theorem dX7_does_172 : decode cX7_does 172 = .ok (.iconst 0, 1) := by decide +kernel
theorem dX7_does_173 : decode cX7_does 173 = .ok (.iaload, 1) := by decide +kernel
theorem dX7_does_174 : decode cX7_does 174 = .ok (.invokevirtual 189, 3) := by decide +kernel
theorem dX7_does_177 : decode cX7_does 177 = .ok (.ireturn, 1) := by decide +kernel
theorem dX7_does_178 : decode cX7_does 178 = .ok (.aload_n 0, 1) := by decide +kernel
theorem dX7_does_179 : decode cX7_does 179 = .ok (.aload_n 0, 1) := by decide +kernel
theorem dX7_does_180 : decode cX7_does 180 = .ok (.getfield 35, 3) := by decide +kernel
theorem dX7_does_183 : decode cX7_does 183 = .ok (.iconst 0, 1) := by decide +kernel
theorem dX7_does_184 : decode cX7_does 184 = .ok (.iaload, 1) := by decide +kernel
theorem dX7_does_185 : decode cX7_does 185 = .ok (.aload_n 0, 1) := by decide +kernel
theorem dX7_does_186 : decode cX7_does 186 = .ok (.getfield 243, 3) := by decide +kernel
theorem dX7_does_189 : decode cX7_does 189 = .ok (.bipush 6, 2) := by decide +kernel
theorem dX7_does_191 : decode cX7_does 191 = .ok (.if_icmp .ne 7, 3) := by decide +kernel
theorem dX7_does_194 : decode cX7_does 194 = .ok (.iconst 1, 1) := by decide +kernel
theorem dX7_does_195 : decode cX7_does 195 = .ok (.goto 4, 3) := by decide +kernel
theorem dX7_does_198 : decode cX7_does 198 = .ok (.iconst 0, 1) := by decide +kernel
theorem dX7_does_199 : decode cX7_does 199 = .ok (.invokevirtual 182, 3) := by decide +kernel
theorem dX7_does_202 : decode cX7_does 202 = .ok (.ireturn, 1) := by decide +kernel
theorem dX7_runCommands_0 : decode cX7_runCommands 0 = .ok (.aload_n 0, 1) := by decide +kernel
theorem dX7_runCommands_1 : decode cX7_runCommands 1 = .ok (.invokevirtual 255, 3) := by decide +kernel
theorem dX7_runCommands_4 : decode cX7_runCommands 4 = .ok (.istore_n 1, 1) := by decide +kernel
theorem dX7_runCommands_5 : decode cX7_runCommands 5 = .ok (.iload_n 1, 1) := by decide +kernel
theorem dX7_runCommands_6 : decode cX7_runCommands 6 = .ok (.sipush (-1000), 3) := by decide +kernel
theorem dX7_runCommands_9 : decode cX7_runCommands 9 = .ok (.if_icmp .eq 12, 3) := by decide +kernel
theorem dX7_runCommands_12 : decode cX7_runCommands 12 = .ok (.aload_n 0, 1) := by decide +kernel
theorem dX7_runCommands_13 : decode cX7_runCommands 13 = .ok (.bipush (-10), 2) := by decide +kernel
theorem dX7_runCommands_15 : decode cX7_runCommands 15 = .ok (.iload_n 1, 1) := by decide +kernel
theorem dX7_runCommands_16 : decode cX7_runCommands 16 = .ok (.isub, 1) := by decide +kernel
theorem dX7_runCommands_17 : decode cX7_runCommands 17 = .ok (.invokevirtual 58, 3) := by decide +kernel
theorem dX7_runCommands_20 : decode cX7_runCommands 20 = .ok (.ireturn, 1) := by decide +kernel
theorem dX7_runCommands_21 : decode cX7_runCommands 21 = .ok (.aload_n 0, 1) := by decide +kernel
theorem dX7_runCommands_22 : decode cX7_runCommands 22 = .ok (.invokevirtual 162, 3) := by decide +kernel
theorem dX7_runCommands_25 : decode cX7_runCommands 25 = .ok (.aload_n 0, 1) := by decide +kernel
theorem dX7_runCommands_26 : decode cX7_runCommands 26 = .ok (.iconst 0, 1) := by decide +kernel
theorem dX7_runCommands_27 : decode cX7_runCommands 27 = .ok (.putfield 226, 3) := by decide +kernel
theorem dX7_runCommands_30 : decode cX7_runCommands 30 = .ok (.aload_n 0, 1) := by decide +kernel
theorem dX7_runCommands_31 : decode cX7_runCommands 31 = .ok (.invokevirtual 236, 3) := by decide +kernel
theorem dX7_runCommands_34 : decode cX7_runCommands 34 = .ok (.istore_n 2, 1) := by decide +kernel
theorem dX7_runCommands_35 : decode cX7_runCommands 35 = .ok (.iconst 0, 1) := by decide +kernel
theorem dX7_runCommands_36 : decode cX7_runCommands 36 = .ok (.istore_n 3, 1) := by decide +kernel
theorem dX7_runCommands_37 : decode cX7_runCommands 37 = .ok (.iconst 1, 1) := by decide +kernel
theorem dX7_runCommands_38 : decode cX7_runCommands 38 = .ok (.istore 4, 2) := by decide +kernel
theorem dX7_runCommands_40 : decode cX7_runCommands 40 = .ok (.iload 4, 2) := by decide +kernel
theorem dX7_runCommands_42 : decode cX7_runCommands 42 = .ok (.ifCond .eq 51, 3) := by decide +kernel
theorem dX7_runCommands_45 : decode cX7_runCommands 45 = .ok (.aload_n 0, 1) := by decide +kernel
theorem dX7_runCommands_46 : decode cX7_runCommands 46 = .ok (.getfield 226, 3) := by decide +kernel
theorem dX7_runCommands_49 : decode cX7_runCommands 49 = .ok (.aload_n 0, 1) := by decide +kernel
theorem dX7_runCommands_50 : decode cX7_runCommands 50 = .ok (.getfield 208, 3) := by decide +kernel
theorem dX7_runCommands_53 : decode cX7_runCommands 53 = .ok (.if_icmp .ge 40, 3) := by decide +kernel
theorem dX7_runCommands_56 : decode cX7_runCommands 56 = .ok (.aload_n 0, 1) := by decide +kernel
theorem dX7_runCommands_57 : decode cX7_runCommands 57 = .ok (.invokevirtual 252, 3) := by decide +kernel
theorem dX7_runCommands_60 : decode cX7_runCommands 60 = .ok (.ifCond .eq 14, 3) := by decide +kernel
theorem dX7_runCommands_63 : decode cX7_runCommands 63 = .ok (.aload_n 0, 1) := by decide +kernel
theorem dX7_runCommands_64 : decode cX7_runCommands 64 = .ok (.invokevirtual 258, 3) := by decide +kernel
theorem dX7_runCommands_67 : decode cX7_runCommands 67 = .ok (.ifCond .ne 7, 3) := by decide +kernel
theorem dX7_runCommands_70 : decode cX7_runCommands 70 = .ok (.iconst 1, 1) := by decide +kernel
theorem dX7_runCommands_71 : decode cX7_runCommands 71 = .ok (.goto 4, 3) := by decide +kernel
theorem dX7_runCommands_74 : decode cX7_runCommands 74 = .ok (.iconst 0, 1) := by decide +kernel
theorem dX7_runCommands_75 : decode cX7_runCommands 75 = .ok (.istore 4, 2) := by decide +kernel
theorem dX7_runCommands_77 : decode cX7_runCommands 77 = .ok (.iload_n 3, 1) := by decide +kernel
theorem dX7_runCommands_78 : decode cX7_runCommands 78 = .ok (.iload 4, 2) := by decide +kernel
theorem dX7_runCommands_80 : decode cX7_runCommands 80 = .ok (.ifCond .eq 7, 3) := by decide +kernel
theorem dX7_runCommands_83 : decode cX7_runCommands 83 = .ok (.iconst 1, 1) := by decide +kernel
theorem dX7_runCommands_84 : decode cX7_runCommands 84 = .ok (.goto 4, 3) := by decide +kernel
theorem dX7_runCommands_87 : decode cX7_runCommands 87 = .ok (.iconst 0, 1) := by decide +kernel
theorem dX7_runCommands_88 : decode cX7_runCommands 88 = .ok (.iadd, 1) := by decide +kernel
theorem dX7_runCommands_89 : decode cX7_runCommands 89 = .ok (.istore_n 3, 1) := by decide +kernel
theorem dX7_runCommands_90 : decode cX7_runCommands 90 = .ok (.goto (-50), 3) := by decide +kernel
theorem dX7_runCommands_93 : decode cX7_runCommands 93 = .ok (.aload_n 0, 1) := by decide +kernel
theorem dX7_runCommands_94 : decode cX7_runCommands 94 = .ok (.iload_n 3, 1) := by decide +kernel
theorem dX7_runCommands_95 : decode cX7_runCommands 95 = .ok (.putfield 55, 3) := by decide +kernel
theorem dX7_runCommands_98 : decode cX7_runCommands 98 = .ok (.aload_n 0, 1) := by decide +kernel
theorem dX7_runCommands_99 : decode cX7_runCommands 99 = .ok (.iconst 0, 1) := by decide +kernel
theorem dX7_runCommands_100 : decode cX7_runCommands 100 = .ok (.invokevirtual 168, 3) := by decide +kernel
theorem dX7_runCommands_103 : decode cX7_runCommands 103 = .ok (.ireturn, 1) := by decide +kernel
theorem dX7_mix_0 : decode cX7_mix 0 = .ok (.aload_n 0, 1) := by decide +kernel
theorem dX7_mix_1 : decode cX7_mix 1 = .ok (.ldc2_w 261, 3) := by decide +kernel
theorem dX7_mix_4 : decode cX7_mix 4 = .ok (.aload_n 0, 1) := by decide +kernel
theorem dX7_mix_5 : decode cX7_mix 5 = .ok (.getfield 263, 3) := by decide +kernel
theorem dX7_mix_8 : decode cX7_mix 8 = .ok (.lmul, 1) := by decide +kernel
theorem dX7_mix_9 : decode cX7_mix 9 = .ok (.iload_n 1, 1) := by decide +kernel
theorem dX7_mix_10 : decode cX7_mix 10 = .ok (.i2l, 1) := by decide +kernel
theorem dX7_mix_11 : decode cX7_mix 11 = .ok (.ladd, 1) := by decide +kernel
theorem dX7_mix_12 : decode cX7_mix 12 = .ok (.putfield 263, 3) := by decide +kernel
theorem dX7_mix_15 : decode cX7_mix 15 = .ok (.return_, 1) := by decide +kernel
theorem dX7_mixPlace_0 : decode cX7_mixPlace 0 = .ok (.iconst 0, 1) := by decide +kernel
theorem dX7_mixPlace_1 : decode cX7_mixPlace 1 = .ok (.istore_n 3, 1) := by decide +kernel
theorem dX7_mixPlace_2 : decode cX7_mixPlace 2 = .ok (.iload_n 3, 1) := by decide +kernel
theorem dX7_mixPlace_3 : decode cX7_mixPlace 3 = .ok (.bipush 6, 2) := by decide +kernel
theorem dX7_mixPlace_5 : decode cX7_mixPlace 5 = .ok (.if_icmp .ge 20, 3) := by decide +kernel
theorem dX7_mixPlace_8 : decode cX7_mixPlace 8 = .ok (.aload_n 0, 1) := by decide +kernel
theorem dX7_mixPlace_9 : decode cX7_mixPlace 9 = .ok (.aload_n 0, 1) := by decide +kernel
theorem dX7_mixPlace_10 : decode cX7_mixPlace 10 = .ok (.iload_n 1, 1) := by decide +kernel
theorem dX7_mixPlace_11 : decode cX7_mixPlace 11 = .ok (.iload_n 2, 1) := by decide +kernel
theorem dX7_mixPlace_12 : decode cX7_mixPlace 12 = .ok (.iload_n 3, 1) := by decide +kernel
theorem dX7_mixPlace_13 : decode cX7_mixPlace 13 = .ok (.invokevirtual 196, 3) := by decide +kernel
theorem dX7_mixPlace_16 : decode cX7_mixPlace 16 = .ok (.invokevirtual 267, 3) := by decide +kernel
theorem dX7_mixPlace_19 : decode cX7_mixPlace 19 = .ok (.iinc 3 1, 3) := by decide +kernel
theorem dX7_mixPlace_22 : decode cX7_mixPlace 22 = .ok (.goto (-20), 3) := by decide +kernel
theorem dX7_mixPlace_25 : decode cX7_mixPlace 25 = .ok (.iconst 0, 1) := by decide +kernel
theorem dX7_mixPlace_26 : decode cX7_mixPlace 26 = .ok (.istore_n 3, 1) := by decide +kernel
theorem dX7_mixPlace_27 : decode cX7_mixPlace 27 = .ok (.iload_n 3, 1) := by decide +kernel
theorem dX7_mixPlace_28 : decode cX7_mixPlace 28 = .ok (.aload_n 0, 1) := by decide +kernel
theorem dX7_mixPlace_29 : decode cX7_mixPlace 29 = .ok (.getfield 7, 3) := by decide +kernel
theorem dX7_mixPlace_32 : decode cX7_mixPlace 32 = .ok (.iconst 4, 1) := by decide +kernel
theorem dX7_mixPlace_33 : decode cX7_mixPlace 33 = .ok (.iaload, 1) := by decide +kernel
theorem dX7_mixPlace_34 : decode cX7_mixPlace 34 = .ok (.if_icmp .ge 20, 3) := by decide +kernel
theorem dX7_mixPlace_37 : decode cX7_mixPlace 37 = .ok (.aload_n 0, 1) := by decide +kernel
theorem dX7_mixPlace_38 : decode cX7_mixPlace 38 = .ok (.aload_n 0, 1) := by decide +kernel
theorem dX7_mixPlace_39 : decode cX7_mixPlace 39 = .ok (.iload_n 3, 1) := by decide +kernel
theorem dX7_mixPlace_40 : decode cX7_mixPlace 40 = .ok (.iload_n 1, 1) := by decide +kernel
theorem dX7_mixPlace_41 : decode cX7_mixPlace 41 = .ok (.iload_n 2, 1) := by decide +kernel
theorem dX7_mixPlace_42 : decode cX7_mixPlace 42 = .ok (.invokevirtual 199, 3) := by decide +kernel
theorem dX7_mixPlace_45 : decode cX7_mixPlace 45 = .ok (.invokevirtual 267, 3) := by decide +kernel
theorem dX7_mixPlace_48 : decode cX7_mixPlace 48 = .ok (.iinc 3 1, 3) := by decide +kernel
theorem dX7_mixPlace_51 : decode cX7_mixPlace 51 = .ok (.goto (-24), 3) := by decide +kernel
theorem dX7_mixPlace_54 : decode cX7_mixPlace 54 = .ok (.return_, 1) := by decide +kernel
theorem dX7_digest_0 : decode cX7_digest 0 = .ok (.aload_n 0, 1) := by decide +kernel
theorem dX7_digest_1 : decode cX7_digest 1 = .ok (.iconst 0, 1) := by decide +kernel
theorem dX7_digest_2 : decode cX7_digest 2 = .ok (.putfield 38, 3) := by decide +kernel
theorem dX7_digest_5 : decode cX7_digest 5 = .ok (.aload_n 0, 1) := by decide +kernel
theorem dX7_digest_6 : decode cX7_digest 6 = .ok (.ldc2_w 270, 3) := by decide +kernel
theorem dX7_digest_9 : decode cX7_digest 9 = .ok (.putfield 263, 3) := by decide +kernel
theorem dX7_digest_12 : decode cX7_digest 12 = .ok (.aload_n 0, 1) := by decide +kernel
theorem dX7_digest_13 : decode cX7_digest 13 = .ok (.aload_n 0, 1) := by decide +kernel
theorem dX7_digest_14 : decode cX7_digest 14 = .ok (.getfield 45, 3) := by decide +kernel
theorem dX7_digest_17 : decode cX7_digest 17 = .ok (.invokevirtual 267, 3) := by decide +kernel
theorem dX7_digest_20 : decode cX7_digest 20 = .ok (.iconst 0, 1) := by decide +kernel
theorem dX7_digest_21 : decode cX7_digest 21 = .ok (.istore_n 1, 1) := by decide +kernel
theorem dX7_digest_22 : decode cX7_digest 22 = .ok (.iload_n 1, 1) := by decide +kernel
theorem dX7_digest_23 : decode cX7_digest 23 = .ok (.bipush 15, 2) := by decide +kernel
theorem dX7_digest_25 : decode cX7_digest 25 = .ok (.if_icmp .ge 18, 3) := by decide +kernel
theorem dX7_digest_28 : decode cX7_digest 28 = .ok (.aload_n 0, 1) := by decide +kernel
theorem dX7_digest_29 : decode cX7_digest 29 = .ok (.aload_n 0, 1) := by decide +kernel
theorem dX7_digest_30 : decode cX7_digest 30 = .ok (.iload_n 1, 1) := by decide +kernel
theorem dX7_digest_31 : decode cX7_digest 31 = .ok (.invokevirtual 214, 3) := by decide +kernel
theorem dX7_digest_34 : decode cX7_digest 34 = .ok (.invokevirtual 267, 3) := by decide +kernel
theorem dX7_digest_37 : decode cX7_digest 37 = .ok (.iinc 1 1, 3) := by decide +kernel
theorem dX7_digest_40 : decode cX7_digest 40 = .ok (.goto (-18), 3) := by decide +kernel
theorem dX7_digest_43 : decode cX7_digest 43 = .ok (.iconst 0, 1) := by decide +kernel
theorem dX7_digest_44 : decode cX7_digest 44 = .ok (.istore_n 1, 1) := by decide +kernel
theorem dX7_digest_45 : decode cX7_digest 45 = .ok (.iload_n 1, 1) := by decide +kernel
theorem dX7_digest_46 : decode cX7_digest 46 = .ok (.aload_n 0, 1) := by decide +kernel
theorem dX7_digest_47 : decode cX7_digest 47 = .ok (.getfield 7, 3) := by decide +kernel
theorem dX7_digest_50 : decode cX7_digest 50 = .ok (.iconst 4, 1) := by decide +kernel
theorem dX7_digest_51 : decode cX7_digest 51 = .ok (.iaload, 1) := by decide +kernel
theorem dX7_digest_52 : decode cX7_digest 52 = .ok (.if_icmp .ge 70, 3) := by decide +kernel
theorem dX7_digest_55 : decode cX7_digest 55 = .ok (.iconst 0, 1) := by decide +kernel
theorem dX7_digest_56 : decode cX7_digest 56 = .ok (.istore_n 2, 1) := by decide +kernel
theorem dX7_digest_57 : decode cX7_digest 57 = .ok (.iload_n 2, 1) := by decide +kernel
theorem dX7_digest_58 : decode cX7_digest 58 = .ok (.bipush 12, 2) := by decide +kernel
theorem dX7_digest_60 : decode cX7_digest 60 = .ok (.if_icmp .ge 19, 3) := by decide +kernel
theorem dX7_digest_63 : decode cX7_digest 63 = .ok (.aload_n 0, 1) := by decide +kernel
theorem dX7_digest_64 : decode cX7_digest 64 = .ok (.aload_n 0, 1) := by decide +kernel
theorem dX7_digest_65 : decode cX7_digest 65 = .ok (.iload_n 1, 1) := by decide +kernel
theorem dX7_digest_66 : decode cX7_digest 66 = .ok (.iload_n 2, 1) := by decide +kernel
theorem dX7_digest_67 : decode cX7_digest 67 = .ok (.invokevirtual 202, 3) := by decide +kernel
theorem dX7_digest_70 : decode cX7_digest 70 = .ok (.invokevirtual 267, 3) := by decide +kernel
theorem dX7_digest_73 : decode cX7_digest 73 = .ok (.iinc 2 1, 3) := by decide +kernel
theorem dX7_digest_76 : decode cX7_digest 76 = .ok (.goto (-19), 3) := by decide +kernel
theorem dX7_digest_79 : decode cX7_digest 79 = .ok (.iconst 0, 1) := by decide +kernel
theorem dX7_digest_80 : decode cX7_digest 80 = .ok (.istore_n 2, 1) := by decide +kernel
theorem dX7_digest_81 : decode cX7_digest 81 = .ok (.iload_n 2, 1) := by decide +kernel
theorem dX7_digest_82 : decode cX7_digest 82 = .ok (.iconst 4, 1) := by decide +kernel
theorem dX7_digest_83 : decode cX7_digest 83 = .ok (.if_icmp .ge 33, 3) := by decide +kernel
theorem dX7_digest_86 : decode cX7_digest 86 = .ok (.aload_n 0, 1) := by decide +kernel
theorem dX7_digest_87 : decode cX7_digest 87 = .ok (.aload_n 0, 1) := by decide +kernel
theorem dX7_digest_88 : decode cX7_digest 88 = .ok (.iload_n 1, 1) := by decide +kernel
theorem dX7_digest_89 : decode cX7_digest 89 = .ok (.iconst 0, 1) := by decide +kernel
theorem dX7_digest_90 : decode cX7_digest 90 = .ok (.iload_n 2, 1) := by decide +kernel
theorem dX7_digest_91 : decode cX7_digest 91 = .ok (.iadd, 1) := by decide +kernel
theorem dX7_digest_92 : decode cX7_digest 92 = .ok (.invokevirtual 61, 3) := by decide +kernel
theorem dX7_digest_95 : decode cX7_digest 95 = .ok (.invokevirtual 267, 3) := by decide +kernel
theorem dX7_digest_98 : decode cX7_digest 98 = .ok (.aload_n 0, 1) := by decide +kernel
theorem dX7_digest_99 : decode cX7_digest 99 = .ok (.aload_n 0, 1) := by decide +kernel
theorem dX7_digest_100 : decode cX7_digest 100 = .ok (.iload_n 1, 1) := by decide +kernel
theorem dX7_digest_101 : decode cX7_digest 101 = .ok (.iconst 4, 1) := by decide +kernel
theorem dX7_digest_102 : decode cX7_digest 102 = .ok (.iload_n 2, 1) := by decide +kernel
theorem dX7_digest_103 : decode cX7_digest 103 = .ok (.iadd, 1) := by decide +kernel
theorem dX7_digest_104 : decode cX7_digest 104 = .ok (.invokevirtual 61, 3) := by decide +kernel
theorem dX7_digest_107 : decode cX7_digest 107 = .ok (.invokevirtual 267, 3) := by decide +kernel
theorem dX7_digest_110 : decode cX7_digest 110 = .ok (.iinc 2 1, 3) := by decide +kernel
theorem dX7_digest_113 : decode cX7_digest 113 = .ok (.goto (-32), 3) := by decide +kernel
theorem dX7_digest_116 : decode cX7_digest 116 = .ok (.iinc 1 1, 3) := by decide +kernel
theorem dX7_digest_119 : decode cX7_digest 119 = .ok (.goto (-74), 3) := by decide +kernel
theorem dX7_digest_122 : decode cX7_digest 122 = .ok (.iconst 0, 1) := by decide +kernel
theorem dX7_digest_123 : decode cX7_digest 123 = .ok (.istore_n 1, 1) := by decide +kernel
theorem dX7_digest_124 : decode cX7_digest 124 = .ok (.iload_n 1, 1) := by decide +kernel
theorem dX7_digest_125 : decode cX7_digest 125 = .ok (.aload_n 0, 1) := by decide +kernel
theorem dX7_digest_126 : decode cX7_digest 126 = .ok (.getfield 7, 3) := by decide +kernel
theorem dX7_digest_129 : decode cX7_digest 129 = .ok (.iconst 1, 1) := by decide +kernel
theorem dX7_digest_130 : decode cX7_digest 130 = .ok (.iaload, 1) := by decide +kernel
theorem dX7_digest_131 : decode cX7_digest 131 = .ok (.if_icmp .ge 33, 3) := by decide +kernel
theorem dX7_digest_134 : decode cX7_digest 134 = .ok (.iconst 0, 1) := by decide +kernel
theorem dX7_digest_135 : decode cX7_digest 135 = .ok (.istore_n 2, 1) := by decide +kernel
theorem dX7_digest_136 : decode cX7_digest 136 = .ok (.iload_n 2, 1) := by decide +kernel
theorem dX7_digest_137 : decode cX7_digest 137 = .ok (.aload_n 0, 1) := by decide +kernel
theorem dX7_digest_138 : decode cX7_digest 138 = .ok (.getfield 7, 3) := by decide +kernel
theorem dX7_digest_141 : decode cX7_digest 141 = .ok (.iconst 0, 1) := by decide +kernel
theorem dX7_digest_142 : decode cX7_digest 142 = .ok (.iaload, 1) := by decide +kernel
theorem dX7_digest_143 : decode cX7_digest 143 = .ok (.if_icmp .ge 15, 3) := by decide +kernel
theorem dX7_digest_146 : decode cX7_digest 146 = .ok (.aload_n 0, 1) := by decide +kernel
theorem dX7_digest_147 : decode cX7_digest 147 = .ok (.iload_n 2, 1) := by decide +kernel
theorem dX7_digest_148 : decode cX7_digest 148 = .ok (.iload_n 1, 1) := by decide +kernel
theorem dX7_digest_149 : decode cX7_digest 149 = .ok (.invokevirtual 272, 3) := by decide +kernel
theorem dX7_digest_152 : decode cX7_digest 152 = .ok (.iinc 2 1, 3) := by decide +kernel
theorem dX7_digest_155 : decode cX7_digest 155 = .ok (.goto (-19), 3) := by decide +kernel
theorem dX7_digest_158 : decode cX7_digest 158 = .ok (.iinc 1 1, 3) := by decide +kernel
theorem dX7_digest_161 : decode cX7_digest 161 = .ok (.goto (-37), 3) := by decide +kernel
theorem dX7_digest_164 : decode cX7_digest 164 = .ok (.aload_n 0, 1) := by decide +kernel
theorem dX7_digest_165 : decode cX7_digest 165 = .ok (.getfield 263, 3) := by decide +kernel
theorem dX7_digest_168 : decode cX7_digest 168 = .ok (.lreturn, 1) := by decide +kernel
end
section
def NWF : List (String × Nat × String × String × String × String) := [("LampMural$Survey", 57, "LampMural$Scene", "columns", "I", "LampMural"), ("LampMural$Dimmer", 53, "LampMural$Scene", "columns", "I", "LampMural"), ("LampMural", 189, "LampMural$Scene", "columns", "I", "LampMural"), ("LampMural$Survey", 54, "LampMural$Scene", "rows", "I", "LampMural"), ("LampMural$Dimmer", 50, "LampMural$Scene", "rows", "I", "LampMural"), ("LampMural", 186, "LampMural$Scene", "rows", "I", "LampMural"), ("LampMural$Survey", 60, "LampMural$Scene", "shiftX", "I", "LampMural"), ("LampMural", 163, "LampMural$Scene", "shiftX", "I", "LampMural"), ("LampMural$Survey", 67, "LampMural$Scene", "shiftY", "I", "LampMural"), ("LampMural", 170, "LampMural$Scene", "shiftY", "I", "LampMural"), ("LampMural", 312, "LampMural$Scene", "hours", "I", "LampMural"), ("LampMural", 198, "LampMural$Scene", "lampCount", "I", "LampMural"), ("LampMural$Survey", 36, "LampMural$Scene", "changed", "Z", "LampMural"), ("LampMural", 267, "LampMural$Scene", "greatest", "LLampMural$Row;", "LampMural"), ("LampMural", 276, "LampMural$Scene", "least", "LLampMural$Row;", "LampMural"), ("LampMural", 279, "LampMural$Scene", "wear", "LLampMural$Row;", "LampMural"), ("LampMural$Survey", 92, "LampMural$Dimmer", "lights", "LLampMural$Row;", "LampMural"), ("LampMural$Survey", 81, "LampMural$Dimmer", "covering", "I", "LampMural"), ("LampMural$Survey", 87, "LampMural$Dimmer", "brightness", "I", "LampMural"), ("LampMural$Survey", 89, "LampMural$Dimmer", "state", "I", "LampMural"), ("LampMural", 241, "LampMural$History", "count", "I", "LampMural"), ("LampMural", 219, "LampMural$CommandText", "length", "I", "LampMural"), ("LampMural", 330, "LampMural$CommandText", "word", "I", "LampMural")]
def NWM : List (String × Nat × MethodName × String) := [("LampMural", 11, ⟨"LampMural$Scene", "<init>", "()V"⟩, "LampMural"), ("LampMural", 18, ⟨"LampMural$Survey", "<init>", "()V"⟩, "LampMural"), ("LampMural$Survey", 11, ⟨"LampMural$Dimmer", "<init>", "()V"⟩, "LampMural"), ("LampMural", 25, ⟨"LampMural$Dimmer", "<init>", "()V"⟩, "LampMural"), ("LampMural$History", 17, ⟨"LampMural$Scene", "<init>", "()V"⟩, "LampMural"), ("LampMural", 39, ⟨"LampMural$CommandText", "<init>", "()V"⟩, "LampMural"), ("LampMural$Scene", 102, ⟨"LampMural", "cross", "(IIII)I"⟩, "LampMural"), ("LampMural$Dimmer", 63, ⟨"LampMural", "pointOf", "(II)I"⟩, "LampMural"), ("LampMural$Dimmer", 76, ⟨"LampMural", "isIn", "(II)Z"⟩, "LampMural"), ("LampMural$CommandText", 70, ⟨"LampMural", "within", "(III)Z"⟩, "LampMural"), ("LampMural$Survey", 63, ⟨"LampMural", "pointOf", "(II)I"⟩, "LampMural"), ("LampMural$Survey", 96, ⟨"LampMural", "isIn", "(II)Z"⟩, "LampMural"), ("LampMural$Scene", 95, ⟨"LampMural", "isIn", "(II)Z"⟩, "LampMural")]
def STR : List (String × Nat × String × Nat) := [("LampMural$CommandText", 81, "wall", 0), ("LampMural$CommandText", 87, "paint", 1), ("LampMural$CommandText", 89, "lamp", 2), ("LampMural$CommandText", 91, "corner", 3), ("LampMural$CommandText", 93, "shift", 4), ("LampMural$CommandText", 95, "fail", 5), ("LampMural$CommandText", 97, "mend", 6), ("LampMural$CommandText", 99, "burn", 7), ("LampMural", 348, "an argument is out of range", 8), ("LampMural", 341, "there is no such lamp, corner or place", 9), ("LampMural", 353, "there is no room for more, or nothing to undo", 10)]
def nST : Nat := 11
def lnST : List Nat := [4, 5, 4, 6, 5, 4, 4, 4, 27, 38, 45]
def byST : List (List Int32) := [[119, 97, 108, 108], [112, 97, 105, 110, 116], [108, 97, 109, 112], [99, 111, 114, 110, 101, 114], [115, 104, 105, 102, 116], [102, 97, 105, 108], [109, 101, 110, 100], [98, 117, 114, 110], [97, 110, 32, 97, 114, 103, 117, 109, 101, 110, 116, 32, 105, 115, 32, 111, 117, 116, 32, 111, 102, 32, 114, 97, 110, 103, 101], [116, 104, 101, 114, 101, 32, 105, 115, 32, 110, 111, 32, 115, 117, 99, 104, 32, 108, 97, 109, 112, 44, 32, 99, 111, 114, 110, 101, 114, 32, 111, 114, 32, 112, 108, 97, 99, 101], [116, 104, 101, 114, 101, 32, 105, 115, 32, 110, 111, 32, 114, 111, 111, 109, 32, 102, 111, 114, 32, 109, 111, 114, 101, 44, 32, 111, 114, 32, 110, 111, 116, 104, 105, 110, 103, 32, 116, 111, 32, 117, 110, 100, 111]]
def EXC : List String := ["java/lang/IllegalArgumentException", "java/lang/IllegalStateException", "java/lang/IndexOutOfBoundsException"]
/-! words, method data -/
def WS : List Cond := lw_tbl.filter goodWord
theorem mW {w : Cond} (i : Nat) (h : lw_tbl[i]? = some w) (g : goodWord w = true) : w ∈ WS := List.mem_filter.mpr ⟨List.mem_of_getElem? h, g⟩
theorem goodWS {w : Cond} (h : w ∈ WS) : (w.onTables && w.keeps) = true ∨ ∃ ty, w = .arrayClass ty := good_of_word (List.mem_filter.mp h).2
abbrev MD : Type := String × MethodName × ByteArray × Nat × Option FieldType × Room
abbrev mdO (M : MD) : String := M.1
abbrev mdY (M : MD) : MethodName := M.2.1
abbrev mdB (M : MD) : ByteArray := M.2.2.1
abbrev mdN (M : MD) : Nat := M.2.2.2.1
abbrev mdR (M : MD) : Option FieldType := M.2.2.2.2.1
abbrev mdG (M : MD) : Room := M.2.2.2.2.2
def wsM (M : MD) : List Cond := Cond.code (mdY M) (mdB M) (mdN M) (mdR M) :: WS
theorem good_wsM {M : MD} (h : Cond.code (mdY M) (mdB M) (mdN M) (mdR M) ∈ WS) : GoodIn WS (wsM M) := by
  intro w hw
  rcases List.mem_cons.mp hw with rfl | hw
  · exact ⟨h, goodWS h⟩
  · exact ⟨hw, goodWS hw⟩
/-! memory, layout, world -/
abbrev Mm : Type := Nat → Nat → Int32
abbrev FE : Type := Nat ⊕ Nat
abbrev LE : Type := (Nat × List FE) ⊕ (Nat ⊕ List Nat)
abbrev GG : Type := (Nat → Nat) × va_G × ClassId × ClassId × (Nat → Nat)
def jL (hi lo : Int32) : Int64 := Int64.ofInt (hi.toInt * 4294967296 + lo.toInt % 4294967296)
def hiL (v : Int64) : Int32 := Int32.ofInt (v.toInt / 4294967296)
def loL (v : Int64) : Int32 := Int32.ofInt v.toInt
theorem jL_hl (v : Int64) : jL (hiL v) (loL v) = v := by
  have h1 := v.le_toInt
  have h2 := v.toInt_lt
  have e1 : (hiL v).toInt = v.toInt / 4294967296 := Int32.toInt_ofInt_of_le (by omega) (by omega)
  have e2 : (loL v).toInt % 4294967296 = v.toInt % 4294967296 := by
    unfold loL
    rw [Int32.toInt_ofInt]
    exact Int.bmod_emod
  unfold jL
  rw [e1, e2]
  apply Int64.toInt_inj.mp
  rw [Int64.toInt_ofInt_of_le (by omega) (by omega)]
  omega
def uM (μ : Mm) (k j : Nat) (x : Int32) : Mm := fun a b => if a = k ∧ b = j then x else μ a b
theorem uM_s (μ : Mm) (k j : Nat) (x : Int32) : uM μ k j x k j = x := by simp [uM]
theorem uM_n {μ : Mm} {k j a b : Nat} {x : Int32} (h : ¬ (a = k ∧ b = j)) : uM μ k j x a b = μ a b := by simp [uM, h]
def uL (μ : Mm) (k j : Nat) (v : Int64) : Mm := uM (uM μ k j (hiL v)) k (j + 1000) (loL v)
def fv (ad : Nat → Nat) (μ : Mm) (k f : Nat) (e : FE) : Value := match e with
  | .inl 0 => .int (μ k f)
  | .inl (_ + 1) => .long (jL (μ k f) (μ k (f + 1000)))
  | .inr q => .ref (ad q)
def ce (g : GG) (μ : Mm) (k : Nat) (e : LE) : va_E := match e with
  | .inl o => .inr (o.1, o.2.mapIdx (fun f e => fv g.1 μ k f e))
  | .inr (.inl n) => .inl (g.2.2.1, n, .inl (μ k))
  | .inr (.inr qs) => .inl (g.2.2.2.1, qs.length, .inr (.inr (.inr (.inr (fun j => (qs[j]?).map g.1)))))
def wO (g : GG) (Λ : List LE) (μ : Mm) : va_W := Λ.mapIdx (fun k e => (g.1 k, ce g μ k e))
theorem wO_at {g : GG} {Λ : List LE} {k : Nat} {e : LE} (h : Λ[k]? = some e) (μ : Mm) : (wO g Λ μ)[k]? = some (g.1 k, ce g μ k e) := by simp [wO, h]
theorem fv_ne {ad : Nat → Nat} {μ : Mm} {k f a j : Nat} {x : Int32} (e : FE) (h : ¬ (a = k ∧ (f = j ∨ f + 1000 = j))) : fv ad (uM μ k j x) a f e = fv ad μ a f e := by
  rcases e with (_ | n) | q
  · show Value.int _ = Value.int _
    rw [uM_n (by omega)]
  · show Value.long _ = Value.long _
    rw [uM_n (by omega), uM_n (by omega)]
  · rfl
theorem ce_ne {g : GG} {μ : Mm} {k a j : Nat} {x : Int32} (e : LE) (h : a ≠ k) : ce g (uM μ k j x) a e = ce g μ a e := by
  rcases e with o | n | qs
  · show Sum.inr _ = Sum.inr _
    congr 1
    congr 1
    apply List.ext_getElem?
    intro i
    simp only [List.getElem?_mapIdx]
    cases o.2[i]? with
    | none => rfl
    | some e => simp only [Option.map_some]; rw [fv_ne e (by omega)]
  · show Sum.inl _ = Sum.inl _
    have : uM μ k j x a = μ a := funext fun b => uM_n (by omega)
    rw [this]
  · rfl
theorem wO_set {g : GG} {Λ : List LE} {μ : Mm} {k j : Nat} {x : Int32} {e : LE} {v : va_E} (h : Λ[k]? = some e) (hv : v = ce g (uM μ k j x) k e) : (wO g Λ μ).set k (g.1 k, v) = wO g Λ (uM μ k j x) := by
  subst hv
  apply List.ext_getElem?
  intro i
  rw [List.getElem?_set]
  by_cases hi : k = i
  · subst hi
    have hl : k < (wO g Λ μ).length := by
      obtain ⟨hk, -⟩ := List.getElem?_eq_some_iff.mp h
      simp [wO, hk]
    rw [if_pos rfl, if_pos hl, wO_at h]
  · rw [if_neg hi]
    simp only [wO, List.getElem?_mapIdx]
    cases Λ[i]? with
    | none => rfl
    | some e' => simp only [Option.map_some]; rw [ce_ne e' (fun q => hi q.symm)]
theorem ce_setI {g : GG} {μ : Mm} {k f ci : Nat} {x : Int32} {fs : List FE} (hf : fs[f]? = some (.inl 0)) (hl : f < 1000) : (.inr (ci, (fs.mapIdx (fun f e => fv g.1 μ k f e)).set f (.int x)) : va_E) = ce g (uM μ k f x) k (.inl (ci, fs)) := by
  show Sum.inr _ = Sum.inr _
  congr 1
  congr 1
  apply List.ext_getElem?
  intro i
  rw [List.getElem?_set]
  obtain ⟨hlt, hfe⟩ := List.getElem?_eq_some_iff.mp hf
  by_cases hi : f = i
  · subst hi
    rw [if_pos rfl, if_pos (by simpa using hlt)]
    simp only [List.getElem?_mapIdx, hf, Option.map_some, fv, uM_s]
  · rw [if_neg hi]
    simp only [List.getElem?_mapIdx]
    cases fs[i]? with
    | none => rfl
    | some e => simp only [Option.map_some]; rw [fv_ne e (by omega)]
theorem ce_setL {g : GG} {μ : Mm} {k f ci m : Nat} {v : Int64} {fs : List FE} (hf : fs[f]? = some (.inl (m + 1))) (hl : fs.length < 1000) : (.inr (ci, (fs.mapIdx (fun f e => fv g.1 μ k f e)).set f (.long v)) : va_E) = ce g (uL μ k f v) k (.inl (ci, fs)) := by
  show Sum.inr _ = Sum.inr _
  congr 1
  congr 1
  apply List.ext_getElem?
  intro i
  rw [List.getElem?_set]
  obtain ⟨hlt, hfe⟩ := List.getElem?_eq_some_iff.mp hf
  by_cases hi : f = i
  · subst hi
    rw [if_pos rfl, if_pos (by simpa using hlt)]
    simp only [List.getElem?_mapIdx, hf, Option.map_some, fv]
    unfold uL
    rw [uM_s, uM_n (by omega), uM_s, jL_hl]
  · rw [if_neg hi]
    simp only [List.getElem?_mapIdx]
    cases hfi : fs[i]? with
    | none => rfl
    | some e =>
      obtain ⟨hli, -⟩ := List.getElem?_eq_some_iff.mp hfi
      simp only [Option.map_some]
      unfold uL
      rw [fv_ne e (by omega), fv_ne e (by omega)]
theorem wO_setL {g : GG} {Λ : List LE} {μ : Mm} {k f ci m : Nat} {v : Int64} {fs : List FE} (h : Λ[k]? = some (.inl (ci, fs))) (hf : fs[f]? = some (.inl (m + 1))) (hl : fs.length < 1000) : (wO g Λ μ).set k (g.1 k, .inr (ci, (fs.mapIdx (fun f e => fv g.1 μ k f e)).set f (.long v))) = wO g Λ (uL μ k f v) := by
  rw [ce_setL hf hl]
  have h1 := wO_set (g := g) (μ := uM μ k f (hiL v)) (j := f + 1000) (x := loL v) h rfl
  have h2 := wO_set (g := g) (μ := μ) (j := f) (x := hiL v) h rfl
  rw [← h2, List.set_set] at h1
  exact h1
def AD (g : GG) (Λ : List LE) (A : Nat → Prop) : Prop := (∀ i j : Nat, i < Λ.length → j < Λ.length → g.1 i = g.1 j → i = j) ∧ ∀ i : Nat, i < Λ.length → A (g.1 i)
theorem wO_len {g : GG} {Λ : List LE} {μ : Mm} : (wO g Λ μ).length = Λ.length := by simp [wO]
theorem wO_fst {g : GG} {Λ : List LE} {μ : Mm} {k : Nat} {q : Nat × va_E} (h : (wO g Λ μ)[k]? = some q) : k < Λ.length ∧ q.1 = g.1 k := by
  obtain ⟨hk, -⟩ := List.getElem?_eq_some_iff.mp h
  rw [wO_len] at hk
  refine ⟨hk, ?_⟩
  rw [wO_at (List.getElem?_eq_getElem hk)] at h
  cases h
  rfl
theorem AD_D {g : GG} {Λ : List LE} {A : Nat → Prop} (h : AD g Λ A) (μ : Mm) : va_D A (wO g Λ μ) := by
  refine ⟨fun i j p q hp hq hpq => ?_, fun k q hq => ?_⟩
  · obtain ⟨a1, a2⟩ := wO_fst hp
    obtain ⟨b1, b2⟩ := wO_fst hq
    exact h.1 i j a1 b1 (by rw [← a2, ← b2]; exact hpq)
  · obtain ⟨a1, a2⟩ := wO_fst hq
    rw [a2]; exact h.2 k a1
theorem AD_of {g : GG} {Λ : List LE} {A : Nat → Prop} {μ : Mm} (h : va_D A (wO g Λ μ)) : AD g Λ A := by
  refine ⟨fun i j hi hj hij => ?_, fun i hi => ?_⟩
  · exact h.1 i j _ _ (wO_at (List.getElem?_eq_getElem hi) μ) (wO_at (List.getElem?_eq_getElem hj) μ) hij
  · exact h.2 i _ (wO_at (List.getElem?_eq_getElem hi) μ)
/-- the cells that a method of this world may touch -/
def AA (g : GG) (Λ : List LE) (sz : Nat) : Nat → Prop := fun q => (∃ i : Nat, i < Λ.length ∧ q = g.1 i) ∨ sz ≤ q
theorem AD_self {g : GG} {Λ : List LE} {A : Nat → Prop} (h : AD g Λ A) (sz : Nat) : AD g Λ (AA g Λ sz) := ⟨h.1, fun i hi => Or.inl ⟨i, hi, rfl⟩⟩
theorem AA_in {g : GG} {Λ : List LE} {A : Nat → Prop} {sz sz2 : Nat} (h : AD g Λ A) (hA : ∀ q, sz ≤ q → A q) (hz : sz ≤ sz2) : ∀ q, AA g Λ sz2 q → A q := by
  rintro q (⟨i, hi, rfl⟩ | hq)
  · exact h.2 i hi
  · exact hA q (Nat.le_trans hz hq)
/-! facts about the machine's state that last -/
def sfS : String := "Ljava/util/function/BiFunction;"
def SF (g : GG) (A : Nat → Prop) (U : State) (H : Heap) : Prop :=
  va_K g.2.1 vwCl [(g.2.2.1, .int), (g.2.2.2.1, .object "LampMural$Scene")] U ∧
  (∀ q ∈ NWF, va_Nw (.fieldLinkNest q.1 q.2.1 q.2.2.1 q.2.2.2.1 q.2.2.2.2.1 q.2.2.2.2.2) U) ∧
  (∀ q ∈ NWM, va_Nw (.methodLinkNest q.1 q.2.1 q.2.2.1 q.2.2.2) U) ∧
  (∀ q ∈ STR, vk_R q.1 q.2.1 q.2.2.1 (g.1 (1000 + q.2.2.2)) U) ∧
  (∀ E ∈ EXC, va_Nw (.castable E E) U) ∧
  vk_S nST lnST byST (fun i => g.1 (1000 + i)) g.2.2.2.2 A U H ∧
  vx_Zq Bundle.tN "UNASSIGNED_STACK" Bundle.steD A U H ∧ vx_Zq Bundle.tN "SUPPRESSED_SENTINEL" Bundle.listD A U H ∧
  va_Z "java/lang/String" "COMPACT_STRINGS" "Z" (.int 1) A U H ∧ va_Zq "jdk/internal/util/Preconditions" "SIOOBE_FORMATTER" sfS A U H
theorem SF.step {g : GG} {A B : Nat → Prop} {s U : State} {H0 H : Heap} (h : SF g A s H0) (hW : s.WarmedH U.vm) (hk : ∀ a : Nat, a < H0.size → ¬ A a → H[a]? = H0[a]?) (hB : ∀ q, B q → A q) : SF g B U H := by
  obtain ⟨h1, h2, h3, h4, h5, h6, h7, h8, h9, h10⟩ := h
  have hv : s.vm.Alike U.vm := hW.alike
  exact ⟨h1.moved hv, fun q hq => va_Nw.warmF hW (h2 q hq), fun q hq => va_Nw.warmM hW (h3 q hq), fun q hq => vk_R.warm hW (h4 q hq), fun E hE => va_Nw.warmC hW (h5 E hE),
    (vk_S.moved hv (h6.kept hk)).narrow hB, (vx_Zq.moved hv (h7.kept hk)).narrow hB, (vx_Zq.moved hv (h8.kept hk)).narrow hB, (va_Z.moved hv (h9.kept hk)).narrow hB, (va_Zq.moved hv (h10.kept hk)).narrow hB⟩
theorem SF.same {g : GG} {A : Nat → Prop} {s U : State} {H : Heap} (h : SF g A s H) (hv : s.vm = U.vm) : SF g A U H :=
  h.step (by rw [← hv]; exact State.WarmedH.refl s) (fun _ _ _ => rfl) (fun _ h => h)
/-! values, results, contracts -/
def cv (ad : Nat → Nat) (v : Value) : Value := match v with
  | .ref q => .ref (ad q)
  | v => v
theorem cv_cat (ad : Nat → Nat) (v : Value) : (cv ad v).category = v.category := by cases v <;> rfl
abbrev lm (ad : Nat → Nat) (ls : List (Nat × Value)) : List (Nat × Value) := ls.map (fun q => (q.1, cv ad q.2))
abbrev Rs : Type := Option Value ⊕ String
def QcN (Λ : List LE) (g : GG) (A : Nat → Prop) (P : Option Value → Mm → Prop) : Array Value → State → Outcome → State → Prop := fun _ st o t =>
  (∃ (r : Option Value) (μ' : Mm), o = .returned (r.map (cv g.1)) ∧ P r μ' ∧ va_P g.2.1 vwCl (wO g Λ μ') t.heap) ∧ va_F A st t
def XcN (Λ : List LE) (g : GG) (A : Nat → Prop) (P : String → Mm → Prop) : String → State → State → Prop := fun E st t =>
  (∃ μ' : Mm, P E μ' ∧ va_P g.2.1 vwCl (wO g Λ μ') t.heap) ∧ va_F A st t
def PcN (Λ : List LE) (g : GG) (sz : Nat) (av : List Value) (μ : Mm) : Array Value → State → Prop :=
  va_Pc (av.map (cv g.1)) (fun U => U.heap.size = sz ∧ va_P g.2.1 vwCl (wO g Λ μ) U.heap ∧ AD g Λ (AA g Λ sz) ∧ SF g (AA g Λ sz) U U.heap)
theorem PcN_blind {Λ : List LE} {g : GG} {sz : Nat} {av : List Value} {μ : Mm} : FrameBlind (PcN Λ g sz av μ) := by
  intro a U gf mk h
  obtain ⟨h0, h1, h2, h3, h4⟩ := h
  exact ⟨h0, h1, h2, h3, SF.same (U := U.calling gf mk a) h4 rfl⟩
/-- the method M on the world μ, called with av, returns so that P -/
def EvN (Λ : List LE) (M : MD) (av : List Value) (μ : Mm) (P : Option Value → Mm → Prop) : Prop := ∀ (l : Launch) (g : GG) (sz : Nat), l.stackTraces = false → Met l (mdY M) (wsM M) (mdG M) (PcN Λ g sz av μ) (QcN Λ g (AA g Λ sz) P) 0 0 (AA g Λ sz)
/-- it throws -/
def EvX (Λ : List LE) (M : MD) (av : List Value) (μ : Mm) (P : String → Mm → Prop) : Prop := ∀ (l : Launch) (g : GG) (sz : Nat), l.stackTraces = false → vx_Met l (mdY M) (wsM M) (mdG M) (PcN Λ g sz av μ) (fun _ _ _ _ => False) (XcN Λ g (AA g Λ sz) P) 1 6 (AA g Λ sz)
def CX (tw : Bool) (Λ : List LE) (M : MD) (g : GG) (A : Nat → Prop) (p : Program) (l : Launch) (s : State) (m : MethodId) (args : Array Value) (meth : Method) (c : Code) : Prop :=
  p.tables.exec = Jvm.exec ∧ c.code = mdB M ∧ c.maxLocals = mdN M ∧ s.vm.findClass (mdO M) = some m.cls ∧ (∀ w ∈ WS, w.before args s = true) ∧ meth.sig.returnType = mdR M ∧ meth.locks = false ∧ (tw = true → ∀ x ∈ c.exceptionTable.toList, False) ∧ l.stackTraces = false ∧ AD g Λ A ∧ (∀ q : Nat, s.heap.size ≤ q → A q) ∧ SF g A s s.heap
def ZZ (tw : Bool) (Λ : List LE) (g : GG) (A : Nat → Prop) (Q : Rs → Mm → Prop) (below : List Frame) (args : Array Value) (s : State) : State → Prop := match tw with
  | false => MQ below (QcN Λ g A fun r => Q (.inl r)) args s 0 0 A
  | true => vx_MQ below (fun _ _ _ _ => False) (XcN Λ g A fun E => Q (.inr E)) args s 1 6 A
/-- inside the method M: from pc, with these locals, this stack, this memory, it comes to an end so that Q -/
def X (tw : Bool) (Λ : List LE) (M : MD) (Q : Rs → Mm → Prop) (pc : Nat) (ls : List (Nat × Value)) (st : List Value) (μ : Mm) : Prop :=
  ∀ (p : Program) (l : Launch) (e : Env) (s : State) (m : MethodId) (args : Array Value) (below : List Frame) (meth : Method) (c : Code) (H : Heap) (locs : List Loc) (g : GG) (A : Nat → Prop) (lsA : Array Slot),
    CX tw Λ M g A p l s m args meth c → va_P g.2.1 vwCl (wO g Λ μ) H → va_S A s.heap H locs → lv_has lsA (mdN M) (lm g.1 ls) →
    W p l e (mdG M) s m args below meth c H locs 0 0 (ZZ tw Λ g A Q below args s) (F0 m pc lsA (st.map (cv g.1)))
theorem EvN_of {Λ : List LE} {M : MD} {av : List Value} {μ : Mm} {P : Option Value → Mm → Prop} {ls : List (Nat × Value)} (hy : plainName (mdY M).cls = true) (ho : (mdY M).cls = mdO M) (hl : ∀ ad : Nat → Nat, lv_args 0 (av.map (cv ad)) = lm ad ls) (hn : ∀ ad : Nat → Nat, (lg_sl (av.map (cv ad))).length ≤ mdN M)
    (k : X false Λ M (fun r μ' => ∃ v, r = .inl v ∧ P v μ') 0 ls [] μ) : EvN Λ M av μ P := by
  intro l g sz hst
  refine Met.ofW (cc := mdB M) (maxL := mdN M) (ret := mdR M) hy rfl ?_
  intro p e s m args below meth c s₁ B hml hv
  obtain ⟨rfl, hsz, hP, hD, hF⟩ := hv
  subst hsz
  have hts : ∀ w ∈ wsM M, w.before (av.map (cv g.1)).toArray s = true := atoms_spec (ws := wsM M) B.pre
  have hown : s.vm.findClass (mdY M).cls = some m.cls := findClass_of_methodNamed B.named
  have hle := lv_entry (av.map (cv g.1)) (n := mdN M) (hn g.1)
  rw [lg_entry_eq]
  rw [hl g.1] at hle
  have h := k p l e s m _ below meth c s.heap [] g (AA g Λ s.heap.size) _ ⟨B.exec, B.bytes, hml, by rw [← ho]; exact hown, fun w hw => hts w (List.mem_cons_of_mem _ hw), B.returns, B.notSynchronized, fun q => by simp at q, hst, hD, fun q hq => Or.inr hq, hF⟩ hP va_S.rf hle
  have e1 : (fun (r : Option Value) => (fun r μ' => ∃ v, r = Sum.inl v ∧ P v μ' : Rs → Mm → Prop) (.inl r)) = P := by
    funext r μ'
    apply propext
    constructor
    · rintro ⟨v, hv, h⟩; cases hv; exact h
    · intro h; exact ⟨r, rfl, h⟩
  unfold ZZ at h
  rw [e1] at h
  exact h
theorem EvX_of {Λ : List LE} {M : MD} {av : List Value} {μ : Mm} {P : String → Mm → Prop} {ls : List (Nat × Value)} (hy : plainName (mdY M).cls = true) (ho : (mdY M).cls = mdO M) (hl : ∀ ad : Nat → Nat, lv_args 0 (av.map (cv ad)) = lm ad ls) (hn : ∀ ad : Nat → Nat, (lg_sl (av.map (cv ad))).length ≤ mdN M)
    (k : X true Λ M (fun r μ' => ∃ v, r = .inr v ∧ P v μ') 0 ls [] μ) : EvX Λ M av μ P := by
  intro l g sz hst
  refine vx_ofW (cc := mdB M) (maxL := mdN M) (ret := mdR M) hy rfl ?_
  intro p e s m args below meth c s₁ B hml htab hv
  obtain ⟨rfl, hsz, hP, hD, hF⟩ := hv
  subst hsz
  have hts : ∀ w ∈ wsM M, w.before (av.map (cv g.1)).toArray s = true := atoms_spec (ws := wsM M) B.pre
  have hown : s.vm.findClass (mdY M).cls = some m.cls := findClass_of_methodNamed B.named
  have hle := lv_entry (av.map (cv g.1)) (n := mdN M) (hn g.1)
  rw [lg_entry_eq]
  rw [hl g.1] at hle
  have h := k p l e s m _ below meth c s.heap [] g (AA g Λ s.heap.size) _ ⟨B.exec, B.bytes, hml, by rw [← ho]; exact hown, fun w hw => hts w (List.mem_cons_of_mem _ hw), B.returns, B.notSynchronized, fun _ => htab, hst, hD, fun q hq => Or.inr hq, hF⟩ hP va_S.rf hle
  have e1 : (fun (r : String) => (fun r μ' => ∃ v, r = Sum.inr v ∧ P v μ' : Rs → Mm → Prop) (.inr r)) = P := by
    funext r μ'
    apply propext
    constructor
    · rintro ⟨v, hv, h⟩; cases hv; exact h
    · intro h; exact ⟨r, rfl, h⟩
  unfold ZZ at h
  rw [e1] at h
  exact h
end
section
section XR
variable {tw : Bool} {Λ : List LE} {M : MD} {Q : Rs → Mm → Prop} {ls : List (Nat × Value)} {st : List Value} {μ : Mm} {pc : Nat}
theorem X_iadd (pc : Nat) {x y : Int32} (d : decode (mdB M) pc = .ok (.iadd, 1)) (k : X tw Λ M Q (pc + 1) ls (.int (x + y) :: st) μ) : X tw Λ M Q pc ls (.int y :: .int x :: st) μ := by
  intro p l e s m args below meth c H locs g A lsA C hP hS hl
  exact lv_iadd C.1 C.2.1 d  (k p l e s m args below meth c H locs g A lsA C hP hS hl)
theorem X_isub (pc : Nat) {x y : Int32} (d : decode (mdB M) pc = .ok (.isub, 1)) (k : X tw Λ M Q (pc + 1) ls (.int (x - y) :: st) μ) : X tw Λ M Q pc ls (.int y :: .int x :: st) μ := by
  intro p l e s m args below meth c H locs g A lsA C hP hS hl
  exact lv_isub C.1 C.2.1 d  (k p l e s m args below meth c H locs g A lsA C hP hS hl)
theorem X_imul (pc : Nat) {x y : Int32} (d : decode (mdB M) pc = .ok (.imul, 1)) (k : X tw Λ M Q (pc + 1) ls (.int (x * y) :: st) μ) : X tw Λ M Q pc ls (.int y :: .int x :: st) μ := by
  intro p l e s m args below meth c H locs g A lsA C hP hS hl
  exact lv_imul C.1 C.2.1 d  (k p l e s m args below meth c H locs g A lsA C hP hS hl)
theorem X_iand (pc : Nat) {x y : Int32} (d : decode (mdB M) pc = .ok (.iand, 1)) (k : X tw Λ M Q (pc + 1) ls (.int (x &&& y) :: st) μ) : X tw Λ M Q pc ls (.int y :: .int x :: st) μ := by
  intro p l e s m args below meth c H locs g A lsA C hP hS hl
  exact lv_iand C.1 C.2.1 d  (k p l e s m args below meth c H locs g A lsA C hP hS hl)
theorem X_ior (pc : Nat) {x y : Int32} (d : decode (mdB M) pc = .ok (.ior, 1)) (k : X tw Λ M Q (pc + 1) ls (.int (x ||| y) :: st) μ) : X tw Λ M Q pc ls (.int y :: .int x :: st) μ := by
  intro p l e s m args below meth c H locs g A lsA C hP hS hl
  exact lv_ior C.1 C.2.1 d  (k p l e s m args below meth c H locs g A lsA C hP hS hl)
theorem X_ixor (pc : Nat) {x y : Int32} (d : decode (mdB M) pc = .ok (.ixor, 1)) (k : X tw Λ M Q (pc + 1) ls (.int (x ^^^ y) :: st) μ) : X tw Λ M Q pc ls (.int y :: .int x :: st) μ := by
  intro p l e s m args below meth c H locs g A lsA C hP hS hl
  exact lv_ixor C.1 C.2.1 d  (k p l e s m args below meth c H locs g A lsA C hP hS hl)
theorem X_idiv (pc : Nat) {x y : Int32} (d : decode (mdB M) pc = .ok (.idiv, 1)) (h : ¬ y = 0) (k : X tw Λ M Q (pc + 1) ls (.int (x / y) :: st) μ) : X tw Λ M Q pc ls (.int y :: .int x :: st) μ := by
  intro p l e s m args below meth c H locs g A lsA C hP hS hl
  exact lv_idiv C.1 C.2.1 d h (k p l e s m args below meth c H locs g A lsA C hP hS hl)
theorem X_irem (pc : Nat) {x y : Int32} (d : decode (mdB M) pc = .ok (.irem, 1)) (h : ¬ y = 0) (k : X tw Λ M Q (pc + 1) ls (.int (x - x / y * y) :: st) μ) : X tw Λ M Q pc ls (.int y :: .int x :: st) μ := by
  intro p l e s m args below meth c H locs g A lsA C hP hS hl
  exact lv_irem C.1 C.2.1 d h (k p l e s m args below meth c H locs g A lsA C hP hS hl)
theorem X_ineg (pc : Nat) {x : Int32} (d : decode (mdB M) pc = .ok (.ineg, 1)) (k : X tw Λ M Q (pc + 1) ls (.int (-x) :: st) μ) : X tw Λ M Q pc ls (.int x :: st) μ := by
  intro p l e s m args below meth c H locs g A lsA C hP hS hl
  exact lv_ineg C.1 C.2.1 d  (k p l e s m args below meth c H locs g A lsA C hP hS hl)
theorem X_ishl (pc : Nat) {x y : Int32} (d : decode (mdB M) pc = .ok (.ishl, 1)) (k : X tw Λ M Q (pc + 1) ls (.int (x <<< (y &&& 31)) :: st) μ) : X tw Λ M Q pc ls (.int y :: .int x :: st) μ := by
  intro p l e s m args below meth c H locs g A lsA C hP hS hl
  exact lv_ishl C.1 C.2.1 d  (k p l e s m args below meth c H locs g A lsA C hP hS hl)
theorem X_ishr (pc : Nat) {x y : Int32} (d : decode (mdB M) pc = .ok (.ishr, 1)) (k : X tw Λ M Q (pc + 1) ls (.int (x >>> (y &&& 31)) :: st) μ) : X tw Λ M Q pc ls (.int y :: .int x :: st) μ := by
  intro p l e s m args below meth c H locs g A lsA C hP hS hl
  exact lv_ishr C.1 C.2.1 d  (k p l e s m args below meth c H locs g A lsA C hP hS hl)
theorem X_iushr (pc : Nat) {x y : Int32} (d : decode (mdB M) pc = .ok (.iushr, 1)) (k : X tw Λ M Q (pc + 1) ls (.int ((x.toUInt32 >>> (y.toUInt32 &&& Int32.toUInt32 31)).toInt32) :: st) μ) : X tw Λ M Q pc ls (.int y :: .int x :: st) μ := by
  intro p l e s m args below meth c H locs g A lsA C hP hS hl
  exact lv_iushr C.1 C.2.1 d rfl (k p l e s m args below meth c H locs g A lsA C hP hS hl)
theorem X_ladd (pc : Nat) {x y : Int64} (d : decode (mdB M) pc = .ok (.ladd, 1)) (k : X tw Λ M Q (pc + 1) ls (.long (x + y) :: st) μ) : X tw Λ M Q pc ls (.long y :: .long x :: st) μ := by
  intro p l e s m args below meth c H locs g A lsA C hP hS hl
  exact lv_ladd C.1 C.2.1 d  (k p l e s m args below meth c H locs g A lsA C hP hS hl)
theorem X_lmul (pc : Nat) {x y : Int64} (d : decode (mdB M) pc = .ok (.lmul, 1)) (k : X tw Λ M Q (pc + 1) ls (.long (x * y) :: st) μ) : X tw Λ M Q pc ls (.long y :: .long x :: st) μ := by
  intro p l e s m args below meth c H locs g A lsA C hP hS hl
  exact lv_lmul C.1 C.2.1 d  (k p l e s m args below meth c H locs g A lsA C hP hS hl)
theorem X_i2l (pc : Nat) {x : Int32} (d : decode (mdB M) pc = .ok (.i2l, 1)) (k : X tw Λ M Q (pc + 1) ls (.long (x.toInt64) :: st) μ) : X tw Λ M Q pc ls (.int x :: st) μ := by
  intro p l e s m args below meth c H locs g A lsA C hP hS hl
  exact lv_i2l C.1 C.2.1 d rfl (k p l e s m args below meth c H locs g A lsA C hP hS hl)
theorem X_iconst (pc : Nat) (v : Int32) {n : Int} (d : decode (mdB M) pc = .ok (.iconst n, 1)) (hv : Int32.ofInt n = v) (k : X tw Λ M Q (pc + 1) ls (.int v :: st) μ) : X tw Λ M Q pc ls (st) μ := by
  intro p l e s m args below meth c H locs g A lsA C hP hS hl
  exact lv_iconst C.1 C.2.1 d hv (k p l e s m args below meth c H locs g A lsA C hP hS hl)
theorem X_bipush (pc : Nat) (v : Int32) {n : Int} (d : decode (mdB M) pc = .ok (.bipush n, 2)) (hv : (Int8.ofInt n).toInt32 = v) (k : X tw Λ M Q (pc + 2) ls (.int v :: st) μ) : X tw Λ M Q pc ls (st) μ := by
  intro p l e s m args below meth c H locs g A lsA C hP hS hl
  exact lv_bipush C.1 C.2.1 d hv (k p l e s m args below meth c H locs g A lsA C hP hS hl)
theorem X_sipush (pc : Nat) (v : Int32) {n : Int} (d : decode (mdB M) pc = .ok (.sipush n, 3)) (hv : (Int16.ofInt n).toInt32 = v) (k : X tw Λ M Q (pc + 3) ls (.int v :: st) μ) : X tw Λ M Q pc ls (st) μ := by
  intro p l e s m args below meth c H locs g A lsA C hP hS hl
  exact lv_sipush C.1 C.2.1 d hv (k p l e s m args below meth c H locs g A lsA C hP hS hl)
theorem X_popi (pc : Nat) {v : Int32} (d : decode (mdB M) pc = .ok (.pop, 1)) (k : X tw Λ M Q (pc + 1) ls (st) μ) : X tw Λ M Q pc ls (.int v :: st) μ := by
  intro p l e s m args below meth c H locs g A lsA C hP hS hl
  exact lv_pop C.1 C.2.1 d rfl (k p l e s m args below meth c H locs g A lsA C hP hS hl)
theorem X_dupi (pc : Nat) {v : Int32} (d : decode (mdB M) pc = .ok (.dup, 1)) (k : X tw Λ M Q (pc + 1) ls (.int v :: .int v :: st) μ) : X tw Λ M Q pc ls (.int v :: st) μ := by
  intro p l e s m args below meth c H locs g A lsA C hP hS hl
  exact lv_dup C.1 C.2.1 d rfl (k p l e s m args below meth c H locs g A lsA C hP hS hl)
theorem X_dupr (pc : Nat) {v : Nat} (d : decode (mdB M) pc = .ok (.dup, 1)) (k : X tw Λ M Q (pc + 1) ls (.ref v :: .ref v :: st) μ) : X tw Λ M Q pc ls (.ref v :: st) μ := by
  intro p l e s m args below meth c H locs g A lsA C hP hS hl
  exact lv_dup C.1 C.2.1 d rfl (k p l e s m args below meth c H locs g A lsA C hP hS hl)
theorem X_dup2 (pc : Nat) {i : Int32} {a : Nat} (d : decode (mdB M) pc = .ok (.dup2, 1)) (k : X tw Λ M Q (pc + 1) ls (.int i :: .ref a :: .int i :: .ref a :: st) μ) : X tw Λ M Q pc ls (.int i :: .ref a :: st) μ := by
  intro p l e s m args below meth c H locs g A lsA C hP hS hl
  exact lv_dup2_11 C.1 C.2.1 d rfl rfl (k p l e s m args below meth c H locs g A lsA C hP hS hl)
theorem lm_at {ad : Nat → Nat} {ls : List (Nat × Value)} {k i : Nat} {v : Value} (h : ls[k]? = some (i, v)) : (lm ad ls)[k]? = some (i, cv ad v) := by simp [lm, h]
theorem X_iload_n (pc k0 : Nat) {kf : Fin 4} {i : Nat} {x : Int32} (d : decode (mdB M) pc = .ok (.iload_n kf, 1)) (hk : ls[k0]? = some (i, .int x)) (hi : (kf : Nat) = i) (k : X tw Λ M Q (pc + 1) ls (.int x :: st) μ) : X tw Λ M Q pc ls st μ := by
  intro p l e s m args below meth c H locs g A lsA C hP hS hl
  exact lv_iload_n C.1 C.2.1 d hi (lv_at hl k0 (lm_at hk)) (k p l e s m args below meth c H locs g A lsA C hP hS hl)
theorem X_iload (pc k0 : Nat) {i : Nat} {x : Int32} (d : decode (mdB M) pc = .ok (.iload i, 2)) (hk : ls[k0]? = some (i, .int x)) (k : X tw Λ M Q (pc + 2) ls (.int x :: st) μ) : X tw Λ M Q pc ls st μ := by
  intro p l e s m args below meth c H locs g A lsA C hP hS hl
  exact lv_iload C.1 C.2.1 d (lv_at hl k0 (lm_at hk)) (k p l e s m args below meth c H locs g A lsA C hP hS hl)
theorem X_lload_n (pc k0 : Nat) {kf : Fin 4} {i : Nat} {x : Int64} (d : decode (mdB M) pc = .ok (.lload_n kf, 1)) (hk : ls[k0]? = some (i, .long x)) (hi : (kf : Nat) = i) (k : X tw Λ M Q (pc + 1) ls (.long x :: st) μ) : X tw Λ M Q pc ls st μ := by
  intro p l e s m args below meth c H locs g A lsA C hP hS hl
  exact lv_lload_n C.1 C.2.1 d hi (lv_at hl k0 (lm_at hk)) (k p l e s m args below meth c H locs g A lsA C hP hS hl)
theorem X_lload (pc k0 : Nat) {i : Nat} {x : Int64} (d : decode (mdB M) pc = .ok (.lload i, 2)) (hk : ls[k0]? = some (i, .long x)) (k : X tw Λ M Q (pc + 2) ls (.long x :: st) μ) : X tw Λ M Q pc ls st μ := by
  intro p l e s m args below meth c H locs g A lsA C hP hS hl
  exact lv_lload C.1 C.2.1 d (lv_at hl k0 (lm_at hk)) (k p l e s m args below meth c H locs g A lsA C hP hS hl)
theorem X_aload_n (pc k0 : Nat) {kf : Fin 4} {i : Nat} {x : Nat} (d : decode (mdB M) pc = .ok (.aload_n kf, 1)) (hk : ls[k0]? = some (i, .ref x)) (hi : (kf : Nat) = i) (k : X tw Λ M Q (pc + 1) ls (.ref x :: st) μ) : X tw Λ M Q pc ls st μ := by
  intro p l e s m args below meth c H locs g A lsA C hP hS hl
  exact lv_aload_n C.1 C.2.1 d hi (lv_at hl k0 (lm_at hk)) (k p l e s m args below meth c H locs g A lsA C hP hS hl)
theorem X_aload (pc k0 : Nat) {i : Nat} {x : Nat} (d : decode (mdB M) pc = .ok (.aload i, 2)) (hk : ls[k0]? = some (i, .ref x)) (k : X tw Λ M Q (pc + 2) ls (.ref x :: st) μ) : X tw Λ M Q pc ls st μ := by
  intro p l e s m args below meth c H locs g A lsA C hP hS hl
  exact lv_aload C.1 C.2.1 d (lv_at hl k0 (lm_at hk)) (k p l e s m args below meth c H locs g A lsA C hP hS hl)
def stL (i : Nat) (v : Value) (ls : List (Nat × Value)) : List (Nat × Value) := (i, v) :: ls.filter (fun q => !(q.1 == i) && !(q.1 + 1 == i && q.2.category == 2))
def stL2 (i : Nat) (v : Value) (ls : List (Nat × Value)) : List (Nat × Value) := (i, v) :: ls.filter (fun q => !(q.1 == i) && (!(q.1 == i + 1) && !(q.1 + 1 == i && q.2.category == 2)))
theorem lm_filter {ad : Nat → Nat} {F : Nat × Value → Bool} (hF : ∀ q : Nat × Value, F (q.1, cv ad q.2) = F q) (ls : List (Nat × Value)) : (lm ad ls).filter F = lm ad (ls.filter F) := by
  unfold lm
  rw [List.filter_map]
  congr 1
  congr 1
  funext q
  exact hF q
theorem lm_stL (ad : Nat → Nat) (i : Nat) (v : Value) (ls : List (Nat × Value)) : (i, cv ad v) :: (lm ad ls).filter (fun q => !(q.1 == i) && !(q.1 + 1 == i && q.2.category == 2)) = lm ad (stL i v ls) := by
  rw [lm_filter (fun q => by simp only [cv_cat])]
  rfl
theorem lm_stL2 (ad : Nat → Nat) (i : Nat) (v : Value) (ls : List (Nat × Value)) : (i, cv ad v) :: (lm ad ls).filter (fun q => !(q.1 == i) && (!(q.1 == i + 1) && !(q.1 + 1 == i && q.2.category == 2))) = lm ad (stL2 i v ls) := by
  rw [lm_filter (fun q => by simp only [cv_cat])]
  rfl
theorem X_istore_n (pc : Nat) {kf : Fin 4} {i : Nat} {x : Int32} (ls2 : List (Nat × Value)) (d : decode (mdB M) pc = .ok (.istore_n kf, 1)) (hi : (kf : Nat) = i) (hn : i < mdN M) (h2 : stL i (.int x) ls = ls2) (k : X tw Λ M Q (pc + 1) ls2 st μ) : X tw Λ M Q pc ls (.int x :: st) μ := by
  subst h2
  intro p l e s m args below meth c H locs g A lsA C hP hS hl
  exact lv_istore_n C.1 C.2.1 d hi hl hn (lm_stL g.1 i (.int x) ls) (fun lsB hl2 => k p l e s m args below meth c H locs g A lsB C hP hS hl2)
theorem X_istore (pc : Nat) {i : Nat} {x : Int32} (ls2 : List (Nat × Value)) (d : decode (mdB M) pc = .ok (.istore i, 2)) (hn : i < mdN M) (h2 : stL i (.int x) ls = ls2) (k : X tw Λ M Q (pc + 2) ls2 st μ) : X tw Λ M Q pc ls (.int x :: st) μ := by
  subst h2
  intro p l e s m args below meth c H locs g A lsA C hP hS hl
  exact lv_istore C.1 C.2.1 d hl hn (lm_stL g.1 i (.int x) ls) (fun lsB hl2 => k p l e s m args below meth c H locs g A lsB C hP hS hl2)
theorem X_lstore_n (pc : Nat) {kf : Fin 4} {i : Nat} {x : Int64} (ls2 : List (Nat × Value)) (d : decode (mdB M) pc = .ok (.lstore_n kf, 1)) (hi : (kf : Nat) = i) (hn : i + 1 < mdN M) (h2 : stL2 i (.long x) ls = ls2) (k : X tw Λ M Q (pc + 1) ls2 st μ) : X tw Λ M Q pc ls (.long x :: st) μ := by
  subst h2
  intro p l e s m args below meth c H locs g A lsA C hP hS hl
  exact lv_lstore_n C.1 C.2.1 d hi hl hn (lm_stL2 g.1 i (.long x) ls) (fun lsB hl2 => k p l e s m args below meth c H locs g A lsB C hP hS hl2)
theorem X_lstore (pc : Nat) {i : Nat} {x : Int64} (ls2 : List (Nat × Value)) (d : decode (mdB M) pc = .ok (.lstore i, 2)) (hn : i + 1 < mdN M) (h2 : stL2 i (.long x) ls = ls2) (k : X tw Λ M Q (pc + 2) ls2 st μ) : X tw Λ M Q pc ls (.long x :: st) μ := by
  subst h2
  intro p l e s m args below meth c H locs g A lsA C hP hS hl
  exact lv_lstore C.1 C.2.1 d hl hn (lm_stL2 g.1 i (.long x) ls) (fun lsB hl2 => k p l e s m args below meth c H locs g A lsB C hP hS hl2)
theorem X_astore_n (pc : Nat) {kf : Fin 4} {i : Nat} {x : Nat} (ls2 : List (Nat × Value)) (d : decode (mdB M) pc = .ok (.astore_n kf, 1)) (hi : (kf : Nat) = i) (hn : i < mdN M) (h2 : stL i (.ref x) ls = ls2) (k : X tw Λ M Q (pc + 1) ls2 st μ) : X tw Λ M Q pc ls (.ref x :: st) μ := by
  subst h2
  intro p l e s m args below meth c H locs g A lsA C hP hS hl
  exact lv_astore_n C.1 C.2.1 d hi hl hn (lm_stL g.1 i (.ref x) ls) (fun lsB hl2 => k p l e s m args below meth c H locs g A lsB C hP hS hl2)
theorem X_astore (pc : Nat) {i : Nat} {x : Nat} (ls2 : List (Nat × Value)) (d : decode (mdB M) pc = .ok (.astore i, 2)) (hn : i < mdN M) (h2 : stL i (.ref x) ls = ls2) (k : X tw Λ M Q (pc + 2) ls2 st μ) : X tw Λ M Q pc ls (.ref x :: st) μ := by
  subst h2
  intro p l e s m args below meth c H locs g A lsA C hP hS hl
  exact lv_astore C.1 C.2.1 d hl hn (lm_stL g.1 i (.ref x) ls) (fun lsB hl2 => k p l e s m args below meth c H locs g A lsB C hP hS hl2)
theorem X_iinc (pc k0 : Nat) {i : Nat} {n : Int} {x : Int32} (v : Int32) (ls2 : List (Nat × Value)) (d : decode (mdB M) pc = .ok (.iinc i n, 3)) (hk : ls[k0]? = some (i, .int x)) (hv : x + Int32.ofInt n = v) (hn : i < mdN M) (h2 : stL i (.int v) ls = ls2) (k : X tw Λ M Q (pc + 3) ls2 st μ) : X tw Λ M Q pc ls st μ := by
  subst h2
  intro p l e s m args below meth c H locs g A lsA C hP hS hl
  exact lv_iinc C.1 C.2.1 d hl (lm_at hk) hv hn (lm_stL g.1 i (.int v) ls) (fun lsB hl2 => k p l e s m args below meth c H locs g A lsB C hP hS hl2)
theorem X_sub (ks : List Nat) (ls2 : List (Nat × Value)) (h : lv_pick ls ks = ls2) (k : X tw Λ M Q pc ls2 st μ) : X tw Λ M Q pc ls st μ := by
  intro p l e s m args below meth c H locs g A lsA C hP hS hl
  refine k p l e s m args below meth c H locs g A lsA C hP hS (lv_sub hl ks ?_)
  subst h
  unfold lv_pick lm
  rw [List.map_filterMap]
  congr 1
  funext i
  rw [List.getElem?_map]
theorem X_eq {pc2 : Nat} {ls2 : List (Nat × Value)} {st2 : List Value} {μ2 : Mm} (k : X tw Λ M Q pc2 ls2 st2 μ2) (h0 : pc = pc2) (h1 : ls = ls2) (h2 : st = st2) (h3 : μ = μ2) : X tw Λ M Q pc ls st μ := by subst h0 h1 h2 h3; exact k
theorem X_goto (pc tgt : Nat) {off : Int} (d : decode (mdB M) pc = .ok (.goto off, 3)) (ht : (pc : Int) + off = (tgt : Int)) (k : X tw Λ M Q tgt ls st μ) : X tw Λ M Q pc ls st μ := by
  intro p l e s m args below meth c H locs g A lsA C hP hS hl
  exact lv_goto C.1 C.2.1 d ht (k p l e s m args below meth c H locs g A lsA C hP hS hl)
theorem X_if_eq (pc tgt : Nat) {x : Int32} {off : Int} (d : decode (mdB M) pc = .ok (.ifCond .eq off, 3)) (ht : (pc : Int) + off = (tgt : Int)) (kt : x = 0 → X tw Λ M Q tgt ls st μ) (kf : ¬ x = 0 → X tw Λ M Q (pc + 3) ls st μ) : X tw Λ M Q pc ls (.int x :: st) μ := by
  intro p l e s m args below meth c H locs g A lsA C hP hS hl
  exact lv_if_eq C.1 C.2.1 d ht (fun q => kt q p l e s m args below meth c H locs g A lsA C hP hS hl) (fun q => kf q p l e s m args below meth c H locs g A lsA C hP hS hl)
theorem X_if_ne (pc tgt : Nat) {x : Int32} {off : Int} (d : decode (mdB M) pc = .ok (.ifCond .ne off, 3)) (ht : (pc : Int) + off = (tgt : Int)) (kt : ¬ x = 0 → X tw Λ M Q tgt ls st μ) (kf : x = 0 → X tw Λ M Q (pc + 3) ls st μ) : X tw Λ M Q pc ls (.int x :: st) μ := by
  intro p l e s m args below meth c H locs g A lsA C hP hS hl
  exact lv_if_ne C.1 C.2.1 d ht (fun q => kt q p l e s m args below meth c H locs g A lsA C hP hS hl) (fun q => kf q p l e s m args below meth c H locs g A lsA C hP hS hl)
theorem X_if_lt (pc tgt : Nat) {x : Int32} {off : Int} (d : decode (mdB M) pc = .ok (.ifCond .lt off, 3)) (ht : (pc : Int) + off = (tgt : Int)) (kt : x < 0 → X tw Λ M Q tgt ls st μ) (kf : ¬ x < 0 → X tw Λ M Q (pc + 3) ls st μ) : X tw Λ M Q pc ls (.int x :: st) μ := by
  intro p l e s m args below meth c H locs g A lsA C hP hS hl
  exact lv_if_lt C.1 C.2.1 d ht (fun q => kt q p l e s m args below meth c H locs g A lsA C hP hS hl) (fun q => kf q p l e s m args below meth c H locs g A lsA C hP hS hl)
theorem X_if_ge (pc tgt : Nat) {x : Int32} {off : Int} (d : decode (mdB M) pc = .ok (.ifCond .ge off, 3)) (ht : (pc : Int) + off = (tgt : Int)) (kt : 0 ≤ x → X tw Λ M Q tgt ls st μ) (kf : ¬ 0 ≤ x → X tw Λ M Q (pc + 3) ls st μ) : X tw Λ M Q pc ls (.int x :: st) μ := by
  intro p l e s m args below meth c H locs g A lsA C hP hS hl
  exact lv_if_ge C.1 C.2.1 d ht (fun q => kt q p l e s m args below meth c H locs g A lsA C hP hS hl) (fun q => kf q p l e s m args below meth c H locs g A lsA C hP hS hl)
theorem X_if_gt (pc tgt : Nat) {x : Int32} {off : Int} (d : decode (mdB M) pc = .ok (.ifCond .gt off, 3)) (ht : (pc : Int) + off = (tgt : Int)) (kt : 0 < x → X tw Λ M Q tgt ls st μ) (kf : ¬ 0 < x → X tw Λ M Q (pc + 3) ls st μ) : X tw Λ M Q pc ls (.int x :: st) μ := by
  intro p l e s m args below meth c H locs g A lsA C hP hS hl
  exact lv_if_gt C.1 C.2.1 d ht (fun q => kt q p l e s m args below meth c H locs g A lsA C hP hS hl) (fun q => kf q p l e s m args below meth c H locs g A lsA C hP hS hl)
theorem X_if_le (pc tgt : Nat) {x : Int32} {off : Int} (d : decode (mdB M) pc = .ok (.ifCond .le off, 3)) (ht : (pc : Int) + off = (tgt : Int)) (kt : x ≤ 0 → X tw Λ M Q tgt ls st μ) (kf : ¬ x ≤ 0 → X tw Λ M Q (pc + 3) ls st μ) : X tw Λ M Q pc ls (.int x :: st) μ := by
  intro p l e s m args below meth c H locs g A lsA C hP hS hl
  exact lv_if_le C.1 C.2.1 d ht (fun q => kt q p l e s m args below meth c H locs g A lsA C hP hS hl) (fun q => kf q p l e s m args below meth c H locs g A lsA C hP hS hl)
theorem X_icmp_eq (pc tgt : Nat) {x y : Int32} {off : Int} (d : decode (mdB M) pc = .ok (.if_icmp .eq off, 3)) (ht : (pc : Int) + off = (tgt : Int)) (kt : x = y → X tw Λ M Q tgt ls st μ) (kf : ¬ x = y → X tw Λ M Q (pc + 3) ls st μ) : X tw Λ M Q pc ls (.int y :: .int x :: st) μ := by
  intro p l e s m args below meth c H locs g A lsA C hP hS hl
  exact lv_icmp_eq C.1 C.2.1 d ht (fun q => kt q p l e s m args below meth c H locs g A lsA C hP hS hl) (fun q => kf q p l e s m args below meth c H locs g A lsA C hP hS hl)
theorem X_icmp_ne (pc tgt : Nat) {x y : Int32} {off : Int} (d : decode (mdB M) pc = .ok (.if_icmp .ne off, 3)) (ht : (pc : Int) + off = (tgt : Int)) (kt : ¬ x = y → X tw Λ M Q tgt ls st μ) (kf : x = y → X tw Λ M Q (pc + 3) ls st μ) : X tw Λ M Q pc ls (.int y :: .int x :: st) μ := by
  intro p l e s m args below meth c H locs g A lsA C hP hS hl
  exact lv_icmp_ne C.1 C.2.1 d ht (fun q => kt q p l e s m args below meth c H locs g A lsA C hP hS hl) (fun q => kf q p l e s m args below meth c H locs g A lsA C hP hS hl)
theorem X_icmp_lt (pc tgt : Nat) {x y : Int32} {off : Int} (d : decode (mdB M) pc = .ok (.if_icmp .lt off, 3)) (ht : (pc : Int) + off = (tgt : Int)) (kt : x < y → X tw Λ M Q tgt ls st μ) (kf : ¬ x < y → X tw Λ M Q (pc + 3) ls st μ) : X tw Λ M Q pc ls (.int y :: .int x :: st) μ := by
  intro p l e s m args below meth c H locs g A lsA C hP hS hl
  exact lv_icmp_lt C.1 C.2.1 d ht (fun q => kt q p l e s m args below meth c H locs g A lsA C hP hS hl) (fun q => kf q p l e s m args below meth c H locs g A lsA C hP hS hl)
theorem X_icmp_ge (pc tgt : Nat) {x y : Int32} {off : Int} (d : decode (mdB M) pc = .ok (.if_icmp .ge off, 3)) (ht : (pc : Int) + off = (tgt : Int)) (kt : y ≤ x → X tw Λ M Q tgt ls st μ) (kf : ¬ y ≤ x → X tw Λ M Q (pc + 3) ls st μ) : X tw Λ M Q pc ls (.int y :: .int x :: st) μ := by
  intro p l e s m args below meth c H locs g A lsA C hP hS hl
  exact lv_icmp_ge C.1 C.2.1 d ht (fun q => kt q p l e s m args below meth c H locs g A lsA C hP hS hl) (fun q => kf q p l e s m args below meth c H locs g A lsA C hP hS hl)
theorem X_icmp_gt (pc tgt : Nat) {x y : Int32} {off : Int} (d : decode (mdB M) pc = .ok (.if_icmp .gt off, 3)) (ht : (pc : Int) + off = (tgt : Int)) (kt : y < x → X tw Λ M Q tgt ls st μ) (kf : ¬ y < x → X tw Λ M Q (pc + 3) ls st μ) : X tw Λ M Q pc ls (.int y :: .int x :: st) μ := by
  intro p l e s m args below meth c H locs g A lsA C hP hS hl
  exact lv_icmp_gt C.1 C.2.1 d ht (fun q => kt q p l e s m args below meth c H locs g A lsA C hP hS hl) (fun q => kf q p l e s m args below meth c H locs g A lsA C hP hS hl)
theorem X_icmp_le (pc tgt : Nat) {x y : Int32} {off : Int} (d : decode (mdB M) pc = .ok (.if_icmp .le off, 3)) (ht : (pc : Int) + off = (tgt : Int)) (kt : x ≤ y → X tw Λ M Q tgt ls st μ) (kf : ¬ x ≤ y → X tw Λ M Q (pc + 3) ls st μ) : X tw Λ M Q pc ls (.int y :: .int x :: st) μ := by
  intro p l e s m args below meth c H locs g A lsA C hP hS hl
  exact lv_icmp_le C.1 C.2.1 d ht (fun q => kt q p l e s m args below meth c H locs g A lsA C hP hS hl) (fun q => kf q p l e s m args below meth c H locs g A lsA C hP hS hl)
theorem X_ifnull (pc : Nat) {x : Nat} {off : Int} (d : decode (mdB M) pc = .ok (.ifnull off, 3)) (k : X tw Λ M Q (pc + 3) ls st μ) : X tw Λ M Q pc ls (.ref x :: st) μ := by
  intro p l e s m args below meth c H locs g A lsA C hP hS hl
  exact lv_ifnull C.1 C.2.1 d (k p l e s m args below meth c H locs g A lsA C hP hS hl)
theorem X_ifnonnull (pc tgt : Nat) {x : Nat} {off : Int} (d : decode (mdB M) pc = .ok (.ifnonnull off, 3)) (ht : (pc : Int) + off = (tgt : Int)) (k : X tw Λ M Q tgt ls st μ) : X tw Λ M Q pc ls (.ref x :: st) μ := by
  intro p l e s m args below meth c H locs g A lsA C hP hS hl
  exact lv_ifnonnull C.1 C.2.1 d ht (k p l e s m args below meth c H locs g A lsA C hP hS hl)
theorem X_tabIn (pc tgt : Nat) {dflt lo hi : Int} {offs : Array Int} {len : Nat} {x : Int32} {off : Int} (d : decode (mdB M) pc = .ok (.tableswitch dflt lo hi offs, len)) (h1 : ¬ x.toInt < lo) (h2 : ¬ hi < x.toInt) (ho : offs[(x.toInt - lo).toNat]? = some off) (ht : (pc : Int) + off = (tgt : Int)) (k : X tw Λ M Q tgt ls st μ) : X tw Λ M Q pc ls (.int x :: st) μ := by
  intro p l e s m args below meth c H locs g A lsA C hP hS hl
  exact lv_tableIn C.1 C.2.1 d h1 h2 ho ht (k p l e s m args below meth c H locs g A lsA C hP hS hl)
theorem X_tabOut (pc tgt : Nat) {dflt lo hi : Int} {offs : Array Int} {len : Nat} {x : Int32} (d : decode (mdB M) pc = .ok (.tableswitch dflt lo hi offs, len)) (h : x.toInt < lo ∨ hi < x.toInt) (ht : (pc : Int) + dflt = (tgt : Int)) (k : X tw Λ M Q tgt ls st μ) : X tw Λ M Q pc ls (.int x :: st) μ := by
  intro p l e s m args below meth c H locs g A lsA C hP hS hl
  exact lv_tableOut C.1 C.2.1 d h ht (k p l e s m args below meth c H locs g A lsA C hP hS hl)
theorem X_lookup (pc tgt : Nat) {dflt : Int} {ps : Array (Int × Int)} {len : Nat} {x : Int32} {off : Int} (d : decode (mdB M) pc = .ok (.lookupswitch dflt ps, len)) (hp : (ps.toList.zip (ps.toList.drop 1)).all (fun (a, next) => a.1 < next.1) = true) (ho : Op.lookupswitch.offset ps.toList dflt x.toInt = off) (ht : (pc : Int) + off = (tgt : Int)) (k : X tw Λ M Q tgt ls st μ) : X tw Λ M Q pc ls (.int x :: st) μ := by
  intro p l e s m args below meth c H locs g A lsA C hP hS hl
  exact lv_lookup C.1 C.2.1 d hp ho ht (k p l e s m args below meth c H locs g A lsA C hP hS hl)
theorem X_ldc2 (pc : Nat) {index : Nat} {v : Int64} (d : decode (mdB M) pc = .ok (.ldc2_w index, 3)) (hw : Cond.constantLong (mdO M) index v ∈ WS) (k : X tw Λ M Q (pc + 3) ls (.long v :: st) μ) : X tw Λ M Q pc ls st μ := by
  intro p l e s m args below meth c H locs g A lsA C hP hS hl
  exact lv_ldc2 C.1 C.2.1 C.2.2.2.1 (C.2.2.2.2.1 _ hw) d (k p l e s m args below meth c H locs g A lsA C hP hS hl)
theorem X_ldcw (pc : Nat) {index : Nat} {v : Int32} (d : decode (mdB M) pc = .ok (.ldc_w index, 3)) (hw : Cond.constant (mdO M) index v ∈ WS) (k : X tw Λ M Q (pc + 3) ls (.int v :: st) μ) : X tw Λ M Q pc ls st μ := by
  intro p l e s m args below meth c H locs g A lsA C hP hS hl
  exact lv_ldcw C.1 C.2.1 C.2.2.2.1 (C.2.2.2.2.1 _ hw) d (k p l e s m args below meth c H locs g A lsA C hP hS hl)
def LKF (own : String) (index : Nat) (C n d : String) : Prop := Cond.fieldLink own index C n d ∈ WS ∨ ∃ host : String, (own, index, C, n, d, host) ∈ NWF
def LKM (own : String) (index : Nat) (y : MethodName) : Prop := Cond.methodLink own index y ∈ WS ∨ ∃ host : String, (own, index, y, host) ∈ NWM
/-- a field's facts: class number ci with its table, the place f -/
theorem X_get {q ci f index N : Nat} {fs : List FE} {C : String} {T : u_T} (pc : Nat) (d : decode (mdB M) pc = .ok (.getfield index, 3)) (hL : LKF (mdO M) index (T f).1 (T f).2.1 (T f).2.2.1) (hin : ∀ w ∈ u_ws C T N, w ∈ WS) (hc : vwCl[ci]? = some (C, T, N)) (hN : f < N) (hq : Λ[q]? = some (.inl (ci, fs))) {fe : FE} (hf : fs[f]? = some fe)
    (k : ∀ (p : Program) (l : Launch) (e : Env) (s : State) (m : MethodId) (args : Array Value) (below : List Frame) (meth : Method) (c : Code) (H : Heap) (locs : List Loc) (g : GG) (A : Nat → Prop) (lsA : Array Slot),
    CX tw Λ M g A p l s m args meth c → va_P g.2.1 vwCl (wO g Λ μ) H → va_S A s.heap H locs → lv_has lsA (mdN M) (lm g.1 ls) →
    W p l e (mdG M) s m args below meth c H locs 0 0 (ZZ tw Λ g A Q below args s) (F0 m (pc + 3) lsA (fv g.1 μ q f fe :: st.map (cv g.1)))) : X tw Λ M Q pc ls (.ref q :: st) μ := by
  intro p l e s m args below meth c H locs g A lsA C0 hP hS hl
  have hfe : (fs.mapIdx (fun f e => fv g.1 μ q f e))[f]? = some (fv g.1 μ q f fe) := by simp [hf]
  rcases hL with hL | ⟨host, hL⟩
  · exact va_get C0.1 C0.2.1 C0.2.2.2.2.1 hin C0.2.2.2.1 C0.2.2.2.2.2.2.2.2.2.2.2.1 hP q (wO_at hq μ) hc f hN (C0.2.2.2.2.1 _ hL) (fun _ h => h) hfe d (k p l e s m args below meth c H locs g A lsA C0 hP hS hl)
  · exact va_getN C0.1 C0.2.1 C0.2.2.2.2.1 hin C0.2.2.2.1 C0.2.2.2.2.2.2.2.2.2.2.2.1 hP q (wO_at hq μ) hc f hN (va_Nw.use rfl (C0.2.2.2.2.2.2.2.2.2.2.2.2.1 _ hL)) (fun _ h => h) hfe d (k p l e s m args below meth c H locs g A lsA C0 hP hS hl)
theorem X_getI {q ci f index N : Nat} {fs : List FE} {C : String} {T : u_T} (pc : Nat) (d : decode (mdB M) pc = .ok (.getfield index, 3)) (hL : LKF (mdO M) index (T f).1 (T f).2.1 (T f).2.2.1) (hin : ∀ w ∈ u_ws C T N, w ∈ WS) (hc : vwCl[ci]? = some (C, T, N)) (hN : f < N) (hq : Λ[q]? = some (.inl (ci, fs))) (hf : fs[f]? = some (.inl 0))
    (k : X tw Λ M Q (pc + 3) ls (.int (μ q f) :: st) μ) : X tw Λ M Q pc ls (.ref q :: st) μ := X_get pc d hL hin hc hN hq hf k
theorem X_getR {q ci f index N q2 : Nat} {fs : List FE} {C : String} {T : u_T} (pc : Nat) (d : decode (mdB M) pc = .ok (.getfield index, 3)) (hL : LKF (mdO M) index (T f).1 (T f).2.1 (T f).2.2.1) (hin : ∀ w ∈ u_ws C T N, w ∈ WS) (hc : vwCl[ci]? = some (C, T, N)) (hN : f < N) (hq : Λ[q]? = some (.inl (ci, fs))) (hf : fs[f]? = some (.inr q2))
    (k : X tw Λ M Q (pc + 3) ls (.ref q2 :: st) μ) : X tw Λ M Q pc ls (.ref q :: st) μ := X_get pc d hL hin hc hN hq hf k
theorem X_getL {q ci f index N m : Nat} {fs : List FE} {C : String} {T : u_T} (pc : Nat) (d : decode (mdB M) pc = .ok (.getfield index, 3)) (hL : LKF (mdO M) index (T f).1 (T f).2.1 (T f).2.2.1) (hin : ∀ w ∈ u_ws C T N, w ∈ WS) (hc : vwCl[ci]? = some (C, T, N)) (hN : f < N) (hq : Λ[q]? = some (.inl (ci, fs))) (hf : fs[f]? = some (.inl (m + 1)))
    (k : X tw Λ M Q (pc + 3) ls (.long (jL (μ q f) (μ q (f + 1000))) :: st) μ) : X tw Λ M Q pc ls (.ref q :: st) μ := X_get pc d hL hin hc hN hq hf k
theorem X_put {q ci f index N : Nat} {fs : List FE} {C : String} {T : u_T} (pc : Nat) {v : Value} {μ2 : Mm} {ty : FieldType} {ty0 : Nat → FieldType} (d : decode (mdB M) pc = .ok (.putfield index, 3)) (hL : LKF (mdO M) index (T f).1 (T f).2.1 (T f).2.2.1) (hin : ∀ w ∈ u_ws C T N, w ∈ WS) (hc : vwCl[ci]? = some (C, T, N)) (hN : f < N) (hq : Λ[q]? = some (.inl (ci, fs)))
    (hty : ∀ k, k < N → parseFieldDescriptor (T k).2.2.1 = some (ty0 k)) (hnm : ∀ a, a < N → ∀ b, b < N → a ≠ b → (T a).2.1 ≠ (T b).2.1) (hfin : (T f).2.2.2 = false) (hd : ty0 f = ty) (hlen : f < fs.length) (hn : narrow ty v = v) (hfit : fits ty v = true) (hcv : ∀ ad, cv ad v = v)
    (hset : ∀ g : GG, (wO g Λ μ).set q (g.1 q, .inr (ci, (fs.mapIdx (fun f e => fv g.1 μ q f e)).set f v)) = wO g Λ μ2)
    (k : X tw Λ M Q (pc + 3) ls st μ2) : X tw Λ M Q pc ls (v :: .ref q :: st) μ := by
  intro p l e s m args below meth c H locs g A lsA C0 hP hS hl
  have hD : va_D A (wO g Λ μ) := AD_D C0.2.2.2.2.2.2.2.2.2.1 μ
  have hpd : parseFieldDescriptor (T f).2.2.1 = some ty := by rw [hty f hN, hd]
  show W p l e (mdG M) s m args below meth c H locs 0 0 (ZZ tw Λ g A Q below args s) (F0 m pc lsA (cv g.1 v :: .ref (g.1 q) :: st.map (cv g.1)))
  rw [hcv]
  have kk : ∀ (H1 : Heap) (locs1 : List Loc), va_P g.2.1 vwCl ((wO g Λ μ).set q (g.1 q, .inr (ci, (fs.mapIdx (fun f e => fv g.1 μ q f e)).set f v))) H1 → va_D A ((wO g Λ μ).set q (g.1 q, .inr (ci, (fs.mapIdx (fun f e => fv g.1 μ q f e)).set f v))) → va_S A s.heap H1 locs1 → W p l e (mdG M) s m args below meth c H1 locs1 0 0 (ZZ tw Λ g A Q below args s) (F0 m (pc + 3) lsA (st.map (cv g.1))) := by
    intro H1 locs1 hP1 _ hS1
    rw [hset g] at hP1
    exact k p l e s m args below meth c H1 locs1 g A lsA C0 hP1 hS1 hl
  rcases hL with hL | ⟨host, hL⟩
  · exact va_put C0.1 C0.2.1 C0.2.2.2.2.1 hin ty0 hty hnm C0.2.2.2.1 C0.2.2.2.2.2.2.2.2.2.2.2.1 hP hD hS q (wO_at hq μ) hc f hN (C0.2.2.2.2.1 _ hL) (fun _ h => h) hfin hpd hn hfit (by simpa using hlen) d kk
  · exact va_putN C0.1 C0.2.1 C0.2.2.2.2.1 hin ty0 hty hnm C0.2.2.2.1 C0.2.2.2.2.2.2.2.2.2.2.2.1 hP hD hS q (wO_at hq μ) hc f hN (va_Nw.use rfl (C0.2.2.2.2.2.2.2.2.2.2.2.2.1 _ hL)) (fun _ h => h) hfin hpd hn hfit (by simpa using hlen) d kk
theorem X_putI {q ci f index N : Nat} {fs : List FE} {C : String} {T : u_T} (pc : Nat) {x : Int32} {ty : FieldType} {ty0 : Nat → FieldType} (d : decode (mdB M) pc = .ok (.putfield index, 3)) (hL : LKF (mdO M) index (T f).1 (T f).2.1 (T f).2.2.1) (hin : ∀ w ∈ u_ws C T N, w ∈ WS) (hc : vwCl[ci]? = some (C, T, N)) (hN : f < N) (hq : Λ[q]? = some (.inl (ci, fs)))
    (hty : ∀ k, k < N → parseFieldDescriptor (T k).2.2.1 = some (ty0 k)) (hnm : ∀ a, a < N → ∀ b, b < N → a ≠ b → (T a).2.1 ≠ (T b).2.1) (hfin : (T f).2.2.2 = false) (hd : ty0 f = ty) (hf : fs[f]? = some (.inl 0)) (hl9 : f < 1000) (hn : narrow ty (.int x) = .int x) (hfit : fits ty (.int x) = true)
    (k : X tw Λ M Q (pc + 3) ls st (uM μ q f x)) : X tw Λ M Q pc ls (.int x :: .ref q :: st) μ :=
  X_put pc d hL hin hc hN hq hty hnm hfin hd (List.getElem?_eq_some_iff.mp hf).1 hn hfit (fun _ => rfl) (fun g => wO_set hq (ce_setI hf hl9)) k
theorem X_putL {q ci f index N m : Nat} {fs : List FE} {C : String} {T : u_T} (pc : Nat) {x : Int64} {ty : FieldType} {ty0 : Nat → FieldType} (d : decode (mdB M) pc = .ok (.putfield index, 3)) (hL : LKF (mdO M) index (T f).1 (T f).2.1 (T f).2.2.1) (hin : ∀ w ∈ u_ws C T N, w ∈ WS) (hc : vwCl[ci]? = some (C, T, N)) (hN : f < N) (hq : Λ[q]? = some (.inl (ci, fs)))
    (hty : ∀ k, k < N → parseFieldDescriptor (T k).2.2.1 = some (ty0 k)) (hnm : ∀ a, a < N → ∀ b, b < N → a ≠ b → (T a).2.1 ≠ (T b).2.1) (hfin : (T f).2.2.2 = false) (hd : ty0 f = ty) (hf : fs[f]? = some (.inl (m + 1))) (hl9 : fs.length < 1000) (hn : narrow ty (.long x) = .long x) (hfit : fits ty (.long x) = true)
    (k : X tw Λ M Q (pc + 3) ls st (uL μ q f x)) : X tw Λ M Q pc ls (.long x :: .ref q :: st) μ :=
  X_put pc d hL hin hc hN hq hty hnm hfin hd (List.getElem?_eq_some_iff.mp hf).1 hn hfit (fun _ => rfl) (fun g => wO_setL hq hf hl9) k
/-! arrays -/
theorem X_iald {a n : Nat} {i : Int32} (pc : Nat) (d : decode (mdB M) pc = .ok (.iaload, 1)) (ha : Λ[a]? = some (.inr (.inl n))) (hin : vp_in i n) (k : X tw Λ M Q (pc + 1) ls (.int (μ a i.toNatClampNeg) :: st) μ) : X tw Λ M Q pc ls (.int i :: .ref a :: st) μ := by
  intro p l e s m args below meth c H locs g A lsA C0 hP hS hl
  exact va_iald C0.1 C0.2.1 C0.2.2.2.2.2.2.2.2.2.2.2.1 hP a 0 (wO_at ha μ) rfl hin d (k p l e s m args below meth c H locs g A lsA C0 hP hS hl)
theorem X_iast {a n : Nat} {i x : Int32} (pc : Nat) (d : decode (mdB M) pc = .ok (.iastore, 1)) (ha : Λ[a]? = some (.inr (.inl n))) (hin : vp_in i n) (k : X tw Λ M Q (pc + 1) ls st (uM μ a i.toNatClampNeg x)) : X tw Λ M Q pc ls (.int x :: .int i :: .ref a :: st) μ := by
  intro p l e s m args below meth c H locs g A lsA C0 hP hS hl
  have hD : va_D A (wO g Λ μ) := AD_D C0.2.2.2.2.2.2.2.2.2.1 μ
  refine va_iast C0.1 C0.2.1 C0.2.2.2.2.2.2.2.2.2.2.2.1 hP hD hS a 0 (wO_at ha μ) rfl hin d (fun H1 locs1 hP1 _ hS1 => ?_)
  have hset : (wO g Λ μ).set a (g.1 a, .inl (g.2.2.1, n, .inl (upd (μ a) i.toNatClampNeg x))) = wO g Λ (uM μ a i.toNatClampNeg x) := by
    refine wO_set ha ?_
    show Sum.inl _ = Sum.inl _
    have : upd (μ a) i.toNatClampNeg x = uM μ a i.toNatClampNeg x a := by
      funext j
      simp [upd, uM]
    rw [this]
  rw [hset] at hP1
  exact k p l e s m args below meth c H1 locs1 g A lsA C0 hP1 hS1 hl
theorem X_aald {a q : Nat} {qs : List Nat} {i : Int32} (pc : Nat) (d : decode (mdB M) pc = .ok (.aaload, 1)) (ha : Λ[a]? = some (.inr (.inr qs))) (hin : vp_in i qs.length) (hq : qs[i.toNatClampNeg]? = some q) (k : X tw Λ M Q (pc + 1) ls (.ref q :: st) μ) : X tw Λ M Q pc ls (.int i :: .ref a :: st) μ := by
  intro p l e s m args below meth c H locs g A lsA C0 hP hS hl
  refine va_aldq C0.1 C0.2.1 C0.2.2.2.2.2.2.2.2.2.2.2.1 hP a 1 (wO_at ha μ) rfl hin d ?_
  rw [hq]
  exact k p l e s m args below meth c H locs g A lsA C0 hP hS hl
theorem X_alen {a n : Nat} {v : Int32} (pc : Nat) (d : decode (mdB M) pc = .ok (.arraylength, 1)) (ha : Λ[a]? = some (.inr (.inl n))) (hv : Int32.ofNat n = v) (k : X tw Λ M Q (pc + 1) ls (.int v :: st) μ) : X tw Λ M Q pc ls (.ref a :: st) μ := by
  intro p l e s m args below meth c H locs g A lsA C0 hP hS hl
  exact va_alen C0.1 C0.2.1 C0.2.2.2.2.2.2.2.2.2.2.2.1 hP a 0 (wO_at ha μ) rfl hv d (k p l e s m args below meth c H locs g A lsA C0 hP hS hl)
theorem X_alenq {a : Nat} {qs : List Nat} {v : Int32} (pc : Nat) (d : decode (mdB M) pc = .ok (.arraylength, 1)) (ha : Λ[a]? = some (.inr (.inr qs))) (hv : Int32.ofNat qs.length = v) (k : X tw Λ M Q (pc + 1) ls (.int v :: st) μ) : X tw Λ M Q pc ls (.ref a :: st) μ := by
  intro p l e s m args below meth c H locs g A lsA C0 hP hS hl
  exact va_alen C0.1 C0.2.1 C0.2.2.2.2.2.2.2.2.2.2.2.1 hP a 1 (wO_at ha μ) rfl hv d (k p l e s m args below meth c H locs g A lsA C0 hP hS hl)
/-! Math -/
theorem lv_size {ls : Array Slot} {n : Nat} {l : List (Nat × Value)} (h : lv_has ls n l) : ls.size = n := h.1
theorem cat_map (ad : Nat → Nat) (st : List Value) : (st.map (cv ad)).map (fun v => v.category) = st.map (fun v => v.category) := by
  rw [List.map_map]
  exact List.map_congr_left fun v _ => cv_cat ad v
theorem X_mmax (pc : Nat) {index : Nat} {x y : Int32} (d : decode (mdB M) pc = .ok (.invokestatic index, 3)) (h1 : Cond.methodLink (mdO M) index Lib.Math.max.name ∈ WS) (h2 : Cond.static Lib.Math.max.name ∈ WS) (h3 : Cond.initialized "java/lang/Math" ∈ WS) (h4 : Cond.code Lib.Math.max.name Lib.Math.max.code 2 (some .int) ∈ WS) (hR : 1 ≤ (mdG M).frames ∧ (st.map fun v => v.category).sum + 13 ≤ (mdG M).locals) (k : X tw Λ M Q (pc + 3) ls (.int (if x < y then y else x) :: st) μ) : X tw Λ M Q pc ls (.int y :: .int x :: st) μ := by
  intro p l e s m args below meth c H locs g A lsA C0 hP hS hl
  exact va_mmax C0.1 C0.2.1 (by rw [C0.2.2.1, lv_size hl]) C0.2.2.2.1 (C0.2.2.2.2.1 _ h1) (C0.2.2.2.2.1 _ h2) (C0.2.2.2.2.1 _ h3) (C0.2.2.2.2.1 _ h4) hR.1 (by rw [cat_map]; exact hR.2) (Nat.zero_le _) (Nat.zero_le _) d (k p l e s m args below meth c H locs g A lsA C0 hP hS hl)
theorem X_mmin (pc : Nat) {index : Nat} {x y : Int32} (d : decode (mdB M) pc = .ok (.invokestatic index, 3)) (h1 : Cond.methodLink (mdO M) index Lib.Math.min.name ∈ WS) (h2 : Cond.static Lib.Math.min.name ∈ WS) (h3 : Cond.initialized "java/lang/Math" ∈ WS) (h4 : Cond.code Lib.Math.min.name Lib.Math.min.code 2 (some .int) ∈ WS) (hR : 1 ≤ (mdG M).frames ∧ (st.map fun v => v.category).sum + 13 ≤ (mdG M).locals) (k : X tw Λ M Q (pc + 3) ls (.int (if y < x then y else x) :: st) μ) : X tw Λ M Q pc ls (.int y :: .int x :: st) μ := by
  intro p l e s m args below meth c H locs g A lsA C0 hP hS hl
  exact va_mmin C0.1 C0.2.1 (by rw [C0.2.2.1, lv_size hl]) C0.2.2.2.1 (C0.2.2.2.2.1 _ h1) (C0.2.2.2.2.1 _ h2) (C0.2.2.2.2.1 _ h3) (C0.2.2.2.2.1 _ h4) hR.1 (by rw [cat_map]; exact hR.2) (Nat.zero_le _) (Nat.zero_le _) d (k p l e s m args below meth c H locs g A lsA C0 hP hS hl)
theorem X_mabs (pc : Nat) {index : Nat} {x : Int32} (d : decode (mdB M) pc = .ok (.invokestatic index, 3)) (h1 : Cond.methodLink (mdO M) index Lib.Math.abs.name ∈ WS) (h2 : Cond.static Lib.Math.abs.name ∈ WS) (h3 : Cond.initialized "java/lang/Math" ∈ WS) (h4 : Cond.code Lib.Math.abs.name Lib.Math.abs.code 1 (some .int) ∈ WS) (hR : 1 ≤ (mdG M).frames ∧ (st.map fun v => v.category).sum + 13 ≤ (mdG M).locals) (k : X tw Λ M Q (pc + 3) ls (.int (if 0 ≤ x then x else 0 - x) :: st) μ) : X tw Λ M Q pc ls (.int x :: st) μ := by
  intro p l e s m args below meth c H locs g A lsA C0 hP hS hl
  exact va_mabs C0.1 C0.2.1 (by rw [C0.2.2.1, lv_size hl]) C0.2.2.2.1 (C0.2.2.2.2.1 _ h1) (C0.2.2.2.2.1 _ h2) (C0.2.2.2.2.1 _ h3) (C0.2.2.2.2.1 _ h4) hR.1 (by rw [cat_map]; exact hR.2) (Nat.zero_le _) (Nat.zero_le _) d (k p l e s m args below meth c H locs g A lsA C0 hP hS hl)
/-! ends -/
theorem X_iret {v : Int32} {ty : FieldType} (pc : Nat) (d : decode (mdB M) pc = .ok (.ireturn, 1)) (hr : mdR M = some ty) (hn : narrow ty (.int v) = .int v) (hQ : Q (.inl (some (.int v))) μ) : X false Λ M Q pc ls [.int v] μ := by
  intro p l e s m args below meth c H locs g A lsA C0 hP hS hl
  have hlk : meth.locks = false := C0.2.2.2.2.2.2.1
  exact W.zret (Qc := QcN Λ g A fun r => Q (.inl r)) C0.1 C0.2.1 (C0.2.2.2.2.2.1.trans hr) hn (fun t ht _ => ⟨⟨some (.int v), μ, rfl, hQ, by rw [ht]; exact hP⟩, hS.F ht⟩) hS.2.2 d hlk
theorem X_lret {v : Int64} (pc : Nat) (d : decode (mdB M) pc = .ok (.lreturn, 1)) (hr : mdR M = some .long) (hQ : Q (.inl (some (.long v))) μ) : X false Λ M Q pc ls [.long v] μ := by
  intro p l e s m args below meth c H locs g A lsA C0 hP hS hl
  have hlk : meth.locks = false := C0.2.2.2.2.2.2.1
  exact W.lret (Qc := QcN Λ g A fun r => Q (.inl r)) C0.1 C0.2.1 (C0.2.2.2.2.2.1.trans hr) (fun t ht _ => ⟨⟨some (.long v), μ, rfl, hQ, by rw [ht]; exact hP⟩, hS.F ht⟩) hS.2.2 d hlk
theorem X_vret (pc : Nat) (d : decode (mdB M) pc = .ok (.return_, 1)) (hr : mdR M = none) (hQ : Q (.inl none) μ) : X false Λ M Q pc ls [] μ := by
  intro p l e s m args below meth c H locs g A lsA C0 hP hS hl
  have hlk : meth.locks = false := C0.2.2.2.2.2.2.1
  exact W.vret (Qc := QcN Λ g A fun r => Q (.inl r)) C0.1 C0.2.1 (C0.2.2.2.2.2.1.trans hr) (fun t ht _ => ⟨⟨none, μ, rfl, hQ, by rw [ht]; exact hP⟩, hS.F ht⟩) hS.2.2 d hlk
theorem X_aret {q : Nat} {C : String} (pc : Nat) (d : decode (mdB M) pc = .ok (.areturn, 1)) (hr : mdR M = some (.object C)) (hQ : Q (.inl (some (.ref q))) μ) : X false Λ M Q pc ls [.ref q] μ := by
  intro p l e s m args below meth c H locs g A lsA C0 hP hS hl
  have hlk : meth.locks = false := C0.2.2.2.2.2.2.1
  exact W.aret (Qc := QcN Λ g A fun r => Q (.inl r)) C0.1 C0.2.1 (C0.2.2.2.2.2.1.trans hr) (Or.inl ⟨C, rfl⟩) (Or.inr ⟨_, rfl⟩) (fun t ht _ => ⟨⟨some (.ref q), μ, rfl, hQ, by rw [ht]; exact hP⟩, hS.F ht⟩) hS.2.2 d hlk
/-! calls -/
def WMC (M2 : MD) : Prop := Cond.initialized (mdY M2).cls ∈ WS ∧ Cond.code (mdY M2) (mdB M2) (mdN M2) (mdR M2) ∈ WS ∧ ((mdY M2).cls ≠ "java/lang/invoke/MethodHandle" ∧ (mdY M2).cls ≠ "java/lang/invoke/VarHandle")
def WMV (M2 : MD) : Prop := WMC M2 ∧ Cond.instanceMethod (mdY M2) ∈ WS ∧ Cond.selects (mdY M2).cls (mdY M2) (mdY M2) ∈ WS
def WMS (M2 : MD) : Prop := WMC M2 ∧ Cond.static (mdY M2) ∈ WS
def ROK (M M2 : MD) : Prop := (mdG M2).frames + 1 ≤ (mdG M).frames ∧ 8 + (mdN M2 + 11) + (mdG M2).locals ≤ (mdG M).locals
theorem XPc {g : GG} {A : Nat → Prop} {p : Program} {l : Launch} {s : State} {m : MethodId} {args : Array Value} {meth : Method} {c : Code} {H : Heap} {locs : List Loc} (C0 : CX tw Λ M g A p l s m args meth c) (hP : va_P g.2.1 vwCl (wO g Λ μ) H) (hS : va_S A s.heap H locs) (av : List Value) :
    ∀ U : State, U.heap = H → s.WarmedH U.vm → PcN Λ g H.size av μ (av.map (cv g.1)).toArray U := by
  intro U hU hW
  have hD : AD g Λ A := C0.2.2.2.2.2.2.2.2.2.1
  refine ⟨rfl, by rw [hU], by rw [hU]; exact hP, AD_self hD _, ?_⟩
  rw [hU]
  exact SF.step C0.2.2.2.2.2.2.2.2.2.2.2 hW hS.2.1 (AA_in hD C0.2.2.2.2.2.2.2.2.2.2.1 hS.1)
/-- behind a call that returns -/
theorem X_after {g : GG} {A : Nat → Prop} {p : Program} {l : Launch} {e : Env} {s : State} {m : MethodId} {args a2 : Array Value} {below : List Frame} {meth : Method} {c : Code} {H : Heap} {locs : List Loc} {lsA : Array Slot} {st0 rest : List Value} {P : Option Value → Mm → Prop} (C0 : CX tw Λ M g A p l s m args meth c) (hS : va_S A s.heap H locs) (hl : lv_has lsA (mdN M) (lm g.1 ls))
    (run : va_Run p l e (mdG M) s m args below meth c H locs 0 0 0 0 (F0 m pc lsA st0) (rest.map (cv g.1)) (QcN Λ g (AA g Λ H.size) P a2) (AA g Λ H.size))
    (k : ∀ r μ', P r μ' → X tw Λ M Q (pc + 3) ls (r.toList ++ rest) μ') : W p l e (mdG M) s m args below meth c H locs 0 0 (ZZ tw Λ g A Q below args s) (F0 m pc lsA st0) := by
  intro T hT X0
  obtain ⟨v, st₀, t, T', L, h0, X', hL, e1, e2, ⟨⟨r, μ', hv, hp, hw⟩, hF⟩, stp⟩ := run T hT X0
  have hA := AA_in C0.2.2.2.2.2.2.2.2.2.1 C0.2.2.2.2.2.2.2.2.2.2.1 hS.1
  obtain ⟨-, -, hS1⟩ := vx_keep h0 e1 hS (fun q _ h => hA q h) hA hL hF
  have hvr : v = r.map (cv g.1) := by cases hv; rfl
  have hk := k r μ' hp p l e s m args below meth c T'.heap (locs ++ L) g A lsA C0 (by rw [e1]; exact hw) hS1 hl
  have hm : (r.toList ++ rest).map (cv g.1) = (r.map (cv g.1)).toList ++ rest.map (cv g.1) := by cases r <;> rfl
  rw [hm] at hk
  subst hvr
  obtain ⟨t2, a1, b1⟩ := hk T' rfl X'
  exact ⟨t2, stp t2 a1, b1⟩
theorem X_callV {M2 : MD} {q ci index : Nat} {fs : List FE} {C : String} {T : u_T} {N : Nat} {rest : List Value} {P : Option Value → Mm → Prop} (pc : Nat) (As : List Value) (hE : EvN Λ M2 (.ref q :: As) μ P) (d : decode (mdB M) pc = .ok (.invokevirtual index, 3)) (hL : LKM (mdO M) index (mdY M2)) (hm : WMV M2) (hn : (parseMethodDescriptor (mdY M2).desc).map (fun d => d.parameters.length) = some As.length) (hR : ROK M M2) (h0 : (mdG M2).cells = 0 ∧ (mdG M2).slots = 0) (hq : Λ[q]? = some (.inl (ci, fs))) (hc : vwCl[ci]? = some (C, T, N)) (hyc : (mdY M2).cls = C) (hst : st = As.reverse ++ .ref q :: rest) (hcat : (rest.map fun v => v.category).sum ≤ 8)
    (k : ∀ r μ', P r μ' → X tw Λ M Q (pc + 3) ls (r.toList ++ rest) μ') : X tw Λ M Q pc ls st μ := by
  subst hst
  intro p l e s m args below meth c H locs g A lsA C0 hP hS hl
  have hts := C0.2.2.2.2.1
  have hown := C0.2.2.2.1
  have hK := C0.2.2.2.2.2.2.2.2.2.2.2.1
  have hsz : lsA.size = mdN M := lv_size hl
  have hpre : PreV s H C (g.1 q) (PcN Λ g H.size (.ref q :: As) μ) (As.map (cv g.1)) := ⟨PcN_blind, va_recv hK hP hc (wO_at hq μ), XPc C0 hP hS (.ref q :: As)⟩
  have hcat2 : 2 * (F0 m pc lsA ((As.reverse ++ .ref q :: rest).map (cv g.1))).monitorRoom + ((rest.map (cv g.1)).map fun v => v.category).sum ≤ 8 := by
    rw [cat_map]; exact lv_room hcat
  have hstk : (As.reverse ++ .ref q :: rest).map (cv g.1) = (As.map (cv g.1)).reverse ++ .ref (g.1 q) :: rest.map (cv g.1) := by
    rw [List.map_append, List.map_reverse]; rfl
  subst hyc
  refine X_after (a2 := (Value.ref (g.1 q) :: As.map (cv g.1)).toArray) C0 hS hl (rest := rest) (P := P) ?_ k
  rcases hL with hL | ⟨host, hL⟩
  · exact va_runV (As := As.map (cv g.1)) ⟨C0.1, C0.2.1, C0.2.2.1, hown, hts⟩ (hE l g H.size C0.2.2.2.2.2.2.2.2.1) ⟨callB_of As.length hts (good_wsM hm.1.2.1) rfl h0.1 h0.2 (hts _ hm.1.1) (hts _ hL) ⟨hm.1.2.2.1, hm.1.2.2.2, hn⟩ hR, hts _ hm.2.1, hts _ hm.2.2⟩ hpre rfl (by simp) hsz hstk hcat2 d ⟨Nat.zero_le _, Nat.zero_le _⟩
  · exact va_runVN (As := As.map (cv g.1)) ⟨C0.1, C0.2.1, C0.2.2.1, hown, hts⟩ (hE l g H.size C0.2.2.2.2.2.2.2.2.1) ⟨va_cnB As.length hts (good_wsM hm.1.2.1) rfl h0.1 h0.2 (C0.2.2.2.2.2.2.2.2.2.2.2.2.2.1 _ hL) (hts _ hm.1.1) ⟨hm.1.2.2.1, hm.1.2.2.2, hn⟩ hR, hts _ hm.2.1, hts _ hm.2.2⟩ hpre rfl (by simp) hsz hstk hcat2 d ⟨Nat.zero_le _, Nat.zero_le _⟩
theorem X_callS {M2 : MD} {index : Nat} {rest : List Value} {P : Option Value → Mm → Prop} (pc : Nat) (As : List Value) (hE : EvN Λ M2 As μ P) (d : decode (mdB M) pc = .ok (.invokestatic index, 3)) (hL : LKM (mdO M) index (mdY M2)) (hm : WMS M2) (hn : (parseMethodDescriptor (mdY M2).desc).map (fun d => d.parameters.length) = some As.length) (hR : ROK M M2) (h0 : (mdG M2).cells = 0 ∧ (mdG M2).slots = 0) (hst : st = As.reverse ++ rest) (hcat : (rest.map fun v => v.category).sum ≤ 8)
    (k : ∀ r μ', P r μ' → X tw Λ M Q (pc + 3) ls (r.toList ++ rest) μ') : X tw Λ M Q pc ls st μ := by
  subst hst
  intro p l e s m args below meth c H locs g A lsA C0 hP hS hl
  have hts := C0.2.2.2.2.1
  have hown := C0.2.2.2.1
  have hsz : lsA.size = mdN M := lv_size hl
  have hpre : PreS s H (PcN Λ g H.size As μ) (As.map (cv g.1)) := ⟨PcN_blind, XPc C0 hP hS As⟩
  have hcat2 : 2 * (F0 m pc lsA ((As.reverse ++ rest).map (cv g.1))).monitorRoom + ((rest.map (cv g.1)).map fun v => v.category).sum ≤ 8 := by
    rw [cat_map]; exact lv_room hcat
  have hstk : (As.reverse ++ rest).map (cv g.1) = (As.map (cv g.1)).reverse ++ rest.map (cv g.1) := by
    rw [List.map_append, List.map_reverse]
  refine X_after (a2 := (As.map (cv g.1)).toArray) C0 hS hl (rest := rest) (P := P) ?_ k
  rcases hL with hL | ⟨host, hL⟩
  · exact va_runS (As := As.map (cv g.1)) ⟨C0.1, C0.2.1, C0.2.2.1, hown, hts⟩ (hE l g H.size C0.2.2.2.2.2.2.2.2.1) ⟨callB_of As.length hts (good_wsM hm.1.2.1) rfl h0.1 h0.2 (hts _ hm.1.1) (hts _ hL) ⟨hm.1.2.2.1, hm.1.2.2.2, hn⟩ hR, hts _ hm.2⟩ hpre rfl (by simp) hsz hstk hcat2 d ⟨Nat.zero_le _, Nat.zero_le _⟩
  · exact va_runSN (As := As.map (cv g.1)) ⟨C0.1, C0.2.1, C0.2.2.1, hown, hts⟩ (hE l g H.size C0.2.2.2.2.2.2.2.2.1) ⟨va_cnB As.length hts (good_wsM hm.1.2.1) rfl h0.1 h0.2 (C0.2.2.2.2.2.2.2.2.2.2.2.2.2.1 _ hL) (hts _ hm.1.1) ⟨hm.1.2.2.1, hm.1.2.2.2, hn⟩ hR, hts _ hm.2, trivial⟩ hpre rfl (by simp) hsz hstk hcat2 d ⟨Nat.zero_le _, Nat.zero_le _⟩
/-- a static callee of the same class that throws: it goes on to the caller -/
theorem X_callX {M2 : MD} {index : Nat} {rest : List Value} {P : String → Mm → Prop} (pc : Nat) (As : List Value) (hE : EvX Λ M2 As μ P) (d : decode (mdB M) pc = .ok (.invokestatic index, 3)) (hL : Cond.methodLink (mdO M) index (mdY M2) ∈ WS) (hm : WMS M2) (hn : (parseMethodDescriptor (mdY M2).desc).map (fun d => d.parameters.length) = some As.length) (hR : ROK M M2) (h0 : (mdG M2).cells = 1 ∧ (mdG M2).slots = 6) (h1 : 1 ≤ (mdG M).cells ∧ 6 ≤ (mdG M).slots) (hst : st = As.reverse ++ rest) (hcat : (rest.map fun v => v.category).sum ≤ 8)
    (k : ∀ E μ', P E μ' → Q (.inr E) μ') : X true Λ M Q pc ls st μ := by
  subst hst
  intro p l e s m args below meth c H locs g A lsA C0 hP hS hl
  have hts := C0.2.2.2.2.1
  have hown := C0.2.2.2.1
  have hsz : lsA.size = mdN M := lv_size hl
  have hpre : PreS s H (PcN Λ g H.size As μ) (As.map (cv g.1)) := ⟨PcN_blind, XPc C0 hP hS As⟩
  have hcat2 : 2 * (F0 m pc lsA ((As.reverse ++ rest).map (cv g.1))).monitorRoom + ((rest.map (cv g.1)).map fun v => v.category).sum ≤ 8 := by
    rw [cat_map]; exact lv_room hcat
  have hstk : (As.reverse ++ rest).map (cv g.1) = (As.map (cv g.1)).reverse ++ rest.map (cv g.1) := by
    rw [List.map_append, List.map_reverse]
  have run := vx_runS (As := As.map (cv g.1)) (rest := rest.map (cv g.1)) (below := below) (e := e) (meth := meth) (locs := locs) (cells := 0) (slots := 0) (R := mdG M) ⟨C0.1, C0.2.1, C0.2.2.1, hown, hts⟩ (hE l g H.size C0.2.2.2.2.2.2.2.2.1) ⟨callB_of As.length hts (good_wsM hm.1.2.1) rfl h0.1 h0.2 (hts _ hm.1.1) (hts _ hL) ⟨hm.1.2.2.1, hm.1.2.2.2, hn⟩ hR, hts _ hm.2⟩ hpre (g := F0 m pc lsA ((As.reverse ++ rest).map (cv g.1))) rfl (by simp) hsz hstk hcat2 d ⟨by omega, by omega⟩
  have hA := AA_in C0.2.2.2.2.2.2.2.2.2.1 C0.2.2.2.2.2.2.2.2.2.2.1 hS.1
  intro T hT X0
  rcases run T hT X0 with ⟨v, st₀, t, T', L, h0, X', hL, e1, e2, hF, -⟩ | ⟨q, st₀, t, T', L, E, ce, h0, X', hL, e1, e2, ⟨⟨μ', hp, hw⟩, hF⟩, hce, hcv, hcl, stp⟩
  · exact hF.elim
  · obtain ⟨-, -, hS1⟩ := vx_keep h0 e1 hS (fun q _ h => hA q h) hA hL hF
    have ho := vx_out (p := p) (l := l) (e := e) (R := mdG M) (below := below) (Qc := fun _ _ _ _ => False) (XC := XcN Λ g A fun E => Q (.inr E)) (pc := pc) (ls := lsA) (rest := rest.map (cv g.1)) (H := T'.heap) (locs := locs ++ L) (cells := 0 + 1) (slots := 0 + 6) (mc := 1) (ms := 6) (free := A) (q := q) (E := E) (ce := ce) (s := s) (m := m) (args := args) (meth := meth) (c := c)
      (fun x hx => ((C0.2.2.2.2.2.2.2.1 rfl) x hx).elim) C0.2.2.2.2.2.2.1 (by rw [e1]; exact hce) hcv hcl (fun t2 ht2 _ => ⟨⟨μ', k E μ' hp, by rw [ht2, e1]; exact hw⟩, hS1.F ht2⟩) hS1.2.2 (Nat.le_refl _) (Nat.le_refl _)
    obtain ⟨t2, a1, b1⟩ := ho T' rfl X'
    exact ⟨t2, stp.trans a1, b1⟩
end XR
end
