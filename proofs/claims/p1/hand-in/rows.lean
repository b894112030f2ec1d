section
-- ===== PART A: goes FIRST, ahead of the names: the tables' words, and 'selects' of the private methods out of them =====
/-- a private method of a class that the tables say can be made, by its rows of tables_1 -/
def lw_okq (q : MethodName × Nat) : Prop := (q.1.cls ≠ "java/lang/invoke/MethodHandle" ∧ q.1.cls ≠ "java/lang/invoke/VarHandle") ∧ Cond.instantiable q.1.cls q.2 ∈ tables_1 ∧ Cond.privateMethod q.1 ∈ tables_1 ∧ Cond.instanceMethod q.1 ∈ tables_1
theorem lw_p0 : lw_okq (⟨"WheelTown", "putBytes", "(I)V"⟩, 16) := ⟨⟨by decide +kernel, by decide +kernel⟩, List.mem_of_getElem? (i := 23) (by decide +kernel), List.mem_of_getElem? (i := 521) (by decide +kernel), List.mem_of_getElem? (i := 522) (by decide +kernel)⟩
theorem lw_p1 : lw_okq (⟨"WheelTown", "lookAnew", "()V"⟩, 16) := ⟨⟨by decide +kernel, by decide +kernel⟩, List.mem_of_getElem? (i := 23) (by decide +kernel), List.mem_of_getElem? (i := 706) (by decide +kernel), List.mem_of_getElem? (i := 707) (by decide +kernel)⟩
theorem lw_p2 : lw_okq (⟨"WheelTown", "isMeter", "(I)Z"⟩, 16) := ⟨⟨by decide +kernel, by decide +kernel⟩, List.mem_of_getElem? (i := 23) (by decide +kernel), List.mem_of_getElem? (i := 771) (by decide +kernel), List.mem_of_getElem? (i := 772) (by decide +kernel)⟩
theorem lw_p3 : lw_okq (⟨"WheelTown", "turnsOn", "(II)I"⟩, 16) := ⟨⟨by decide +kernel, by decide +kernel⟩, List.mem_of_getElem? (i := 23) (by decide +kernel), List.mem_of_getElem? (i := 786) (by decide +kernel), List.mem_of_getElem? (i := 787) (by decide +kernel)⟩
theorem lw_p4 : lw_okq (⟨"WheelTown", "throughOn", "(II)I"⟩, 16) := ⟨⟨by decide +kernel, by decide +kernel⟩, List.mem_of_getElem? (i := 23) (by decide +kernel), List.mem_of_getElem? (i := 790) (by decide +kernel), List.mem_of_getElem? (i := 791) (by decide +kernel)⟩
theorem lw_p5 : lw_okq (⟨"WheelTown", "tallyBy", "(II)V"⟩, 16) := ⟨⟨by decide +kernel, by decide +kernel⟩, List.mem_of_getElem? (i := 23) (by decide +kernel), List.mem_of_getElem? (i := 804) (by decide +kernel), List.mem_of_getElem? (i := 805) (by decide +kernel)⟩
theorem lw_p6 : lw_okq (⟨"WheelTown", "talliedWheel", "(II)I"⟩, 16) := ⟨⟨by decide +kernel, by decide +kernel⟩, List.mem_of_getElem? (i := 23) (by decide +kernel), List.mem_of_getElem? (i := 814) (by decide +kernel), List.mem_of_getElem? (i := 815) (by decide +kernel)⟩
theorem lw_p7 : lw_okq (⟨"WheelTown", "tell", "(IIII)I"⟩, 16) := ⟨⟨by decide +kernel, by decide +kernel⟩, List.mem_of_getElem? (i := 23) (by decide +kernel), List.mem_of_getElem? (i := 833) (by decide +kernel), List.mem_of_getElem? (i := 834) (by decide +kernel)⟩
theorem lw_p8 : lw_okq (⟨"WheelTown", "forgetReadings", "()V"⟩, 16) := ⟨⟨by decide +kernel, by decide +kernel⟩, List.mem_of_getElem? (i := 23) (by decide +kernel), List.mem_of_getElem? (i := 841) (by decide +kernel), List.mem_of_getElem? (i := 842) (by decide +kernel)⟩
theorem lw_p9 : lw_okq (⟨"WheelTown", "countedFrom", "(III)I"⟩, 16) := ⟨⟨by decide +kernel, by decide +kernel⟩, List.mem_of_getElem? (i := 23) (by decide +kernel), List.mem_of_getElem? (i := 881) (by decide +kernel), List.mem_of_getElem? (i := 882) (by decide +kernel)⟩
theorem lw_p10 : lw_okq (⟨"WheelTown", "leastBalance", "(III)I"⟩, 16) := ⟨⟨by decide +kernel, by decide +kernel⟩, List.mem_of_getElem? (i := 23) (by decide +kernel), List.mem_of_getElem? (i := 896) (by decide +kernel), List.mem_of_getElem? (i := 897) (by decide +kernel)⟩
theorem lw_p11 : lw_okq (⟨"WheelTown", "countedAlong", "(III)I"⟩, 16) := ⟨⟨by decide +kernel, by decide +kernel⟩, List.mem_of_getElem? (i := 23) (by decide +kernel), List.mem_of_getElem? (i := 908) (by decide +kernel), List.mem_of_getElem? (i := 909) (by decide +kernel)⟩
theorem lw_p12 : lw_okq (⟨"WheelTown", "greatestBalance", "(III)I"⟩, 16) := ⟨⟨by decide +kernel, by decide +kernel⟩, List.mem_of_getElem? (i := 23) (by decide +kernel), List.mem_of_getElem? (i := 913) (by decide +kernel), List.mem_of_getElem? (i := 914) (by decide +kernel)⟩
theorem lw_p13 : lw_okq (⟨"WheelTown", "fittingFaults", "(I)I"⟩, 16) := ⟨⟨by decide +kernel, by decide +kernel⟩, List.mem_of_getElem? (i := 23) (by decide +kernel), List.mem_of_getElem? (i := 931) (by decide +kernel), List.mem_of_getElem? (i := 932) (by decide +kernel)⟩
theorem lw_p14 : lw_okq (⟨"WheelTown", "talliedFits", "(I)Z"⟩, 16) := ⟨⟨by decide +kernel, by decide +kernel⟩, List.mem_of_getElem? (i := 23) (by decide +kernel), List.mem_of_getElem? (i := 935) (by decide +kernel), List.mem_of_getElem? (i := 936) (by decide +kernel)⟩
theorem lw_p15 : lw_okq (⟨"WheelTown", "unlikeWheels", "(II)I"⟩, 16) := ⟨⟨by decide +kernel, by decide +kernel⟩, List.mem_of_getElem? (i := 23) (by decide +kernel), List.mem_of_getElem? (i := 1021) (by decide +kernel), List.mem_of_getElem? (i := 1022) (by decide +kernel)⟩
def lw_privs_1 : List (MethodName × Nat) := [(⟨"WheelTown", "putBytes", "(I)V"⟩, 16), (⟨"WheelTown", "lookAnew", "()V"⟩, 16), (⟨"WheelTown", "isMeter", "(I)Z"⟩, 16), (⟨"WheelTown", "turnsOn", "(II)I"⟩, 16), (⟨"WheelTown", "throughOn", "(II)I"⟩, 16), (⟨"WheelTown", "tallyBy", "(II)V"⟩, 16), (⟨"WheelTown", "talliedWheel", "(II)I"⟩, 16), (⟨"WheelTown", "tell", "(IIII)I"⟩, 16), (⟨"WheelTown", "forgetReadings", "()V"⟩, 16), (⟨"WheelTown", "countedFrom", "(III)I"⟩, 16), (⟨"WheelTown", "leastBalance", "(III)I"⟩, 16), (⟨"WheelTown", "countedAlong", "(III)I"⟩, 16), (⟨"WheelTown", "greatestBalance", "(III)I"⟩, 16), (⟨"WheelTown", "fittingFaults", "(I)I"⟩, 16), (⟨"WheelTown", "talliedFits", "(I)Z"⟩, 16), (⟨"WheelTown", "unlikeWheels", "(II)I"⟩, 16)]
theorem lw_r1 : ∀ q ∈ lw_privs_1, lw_okq q := List.forall_mem_cons.mpr ⟨lw_p0, List.forall_mem_cons.mpr ⟨lw_p1, List.forall_mem_cons.mpr ⟨lw_p2, List.forall_mem_cons.mpr ⟨lw_p3, List.forall_mem_cons.mpr ⟨lw_p4, List.forall_mem_cons.mpr ⟨lw_p5, List.forall_mem_cons.mpr ⟨lw_p6, List.forall_mem_cons.mpr ⟨lw_p7, List.forall_mem_cons.mpr ⟨lw_p8, List.forall_mem_cons.mpr ⟨lw_p9, List.forall_mem_cons.mpr ⟨lw_p10, List.forall_mem_cons.mpr ⟨lw_p11, List.forall_mem_cons.mpr ⟨lw_p12, List.forall_mem_cons.mpr ⟨lw_p13, List.forall_mem_cons.mpr ⟨lw_p14, List.forall_mem_cons.mpr ⟨lw_p15, fun _ h => absurd h List.not_mem_nil⟩⟩⟩⟩⟩⟩⟩⟩⟩⟩⟩⟩⟩⟩⟩⟩
theorem lw_p16 : lw_okq (⟨"WheelTown", "isAmongShown", "(II)Z"⟩, 16) := ⟨⟨by decide +kernel, by decide +kernel⟩, List.mem_of_getElem? (i := 23) (by decide +kernel), List.mem_of_getElem? (i := 1025) (by decide +kernel), List.mem_of_getElem? (i := 1026) (by decide +kernel)⟩
theorem lw_p17 : lw_okq (⟨"WheelTown", "isWalkable", "(I)Z"⟩, 16) := ⟨⟨by decide +kernel, by decide +kernel⟩, List.mem_of_getElem? (i := 23) (by decide +kernel), List.mem_of_getElem? (i := 1037) (by decide +kernel), List.mem_of_getElem? (i := 1038) (by decide +kernel)⟩
theorem lw_p18 : lw_okq (⟨"WheelTown", "walkedPast", "(I)LWheelTown$Walks;"⟩, 16) := ⟨⟨by decide +kernel, by decide +kernel⟩, List.mem_of_getElem? (i := 23) (by decide +kernel), List.mem_of_getElem? (i := 1041) (by decide +kernel), List.mem_of_getElem? (i := 1042) (by decide +kernel)⟩
theorem lw_p19 : lw_okq (⟨"WheelTown", "wonBy", "(II)I"⟩, 16) := ⟨⟨by decide +kernel, by decide +kernel⟩, List.mem_of_getElem? (i := 23) (by decide +kernel), List.mem_of_getElem? (i := 1149) (by decide +kernel), List.mem_of_getElem? (i := 1150) (by decide +kernel)⟩
theorem lw_p20 : lw_okq (⟨"WheelTown", "nightFlow", "(II)I"⟩, 16) := ⟨⟨by decide +kernel, by decide +kernel⟩, List.mem_of_getElem? (i := 23) (by decide +kernel), List.mem_of_getElem? (i := 1166) (by decide +kernel), List.mem_of_getElem? (i := 1167) (by decide +kernel)⟩
theorem lw_p21 : lw_okq (⟨"WheelTown", "loudness", "(II)I"⟩, 16) := ⟨⟨by decide +kernel, by decide +kernel⟩, List.mem_of_getElem? (i := 23) (by decide +kernel), List.mem_of_getElem? (i := 1179) (by decide +kernel), List.mem_of_getElem? (i := 1180) (by decide +kernel)⟩
theorem lw_p22 : lw_okq (⟨"WheelTown", "burstBehind", "(II)I"⟩, 16) := ⟨⟨by decide +kernel, by decide +kernel⟩, List.mem_of_getElem? (i := 23) (by decide +kernel), List.mem_of_getElem? (i := 1196) (by decide +kernel), List.mem_of_getElem? (i := 1197) (by decide +kernel)⟩
theorem lw_p23 : lw_okq (⟨"WheelTown", "usedUnder", "(II)I"⟩, 16) := ⟨⟨by decide +kernel, by decide +kernel⟩, List.mem_of_getElem? (i := 23) (by decide +kernel), List.mem_of_getElem? (i := 1210) (by decide +kernel), List.mem_of_getElem? (i := 1211) (by decide +kernel)⟩
theorem lw_p24 : lw_okq (⟨"WheelTown", "vacantDays", "(III)I"⟩, 16) := ⟨⟨by decide +kernel, by decide +kernel⟩, List.mem_of_getElem? (i := 23) (by decide +kernel), List.mem_of_getElem? (i := 1218) (by decide +kernel), List.mem_of_getElem? (i := 1219) (by decide +kernel)⟩
theorem lw_p25 : lw_okq (⟨"WheelTown", "errorOf", "(I)I"⟩, 16) := ⟨⟨by decide +kernel, by decide +kernel⟩, List.mem_of_getElem? (i := 23) (by decide +kernel), List.mem_of_getElem? (i := 1231) (by decide +kernel), List.mem_of_getElem? (i := 1232) (by decide +kernel)⟩
theorem lw_p26 : lw_okq (⟨"WheelTown", "offBy", "(II)I"⟩, 16) := ⟨⟨by decide +kernel, by decide +kernel⟩, List.mem_of_getElem? (i := 23) (by decide +kernel), List.mem_of_getElem? (i := 1239) (by decide +kernel), List.mem_of_getElem? (i := 1240) (by decide +kernel)⟩
theorem lw_p27 : lw_okq (⟨"WheelTown", "offEitherWay", "(II)I"⟩, 16) := ⟨⟨by decide +kernel, by decide +kernel⟩, List.mem_of_getElem? (i := 23) (by decide +kernel), List.mem_of_getElem? (i := 1247) (by decide +kernel), List.mem_of_getElem? (i := 1248) (by decide +kernel)⟩
theorem lw_p28 : lw_okq (⟨"WheelTown", "rowsHeld", "()I"⟩, 16) := ⟨⟨by decide +kernel, by decide +kernel⟩, List.mem_of_getElem? (i := 23) (by decide +kernel), List.mem_of_getElem? (i := 1276) (by decide +kernel), List.mem_of_getElem? (i := 1277) (by decide +kernel)⟩
theorem lw_p29 : lw_okq (⟨"WheelTownModel", "four", "(I)V"⟩, 70) := ⟨⟨by decide +kernel, by decide +kernel⟩, List.mem_of_getElem? (i := 1339) (by decide +kernel), List.mem_of_getElem? (i := 1584) (by decide +kernel), List.mem_of_getElem? (i := 1585) (by decide +kernel)⟩
theorem lw_p30 : lw_okq (⟨"WheelTownModel", "begins", "()V"⟩, 70) := ⟨⟨by decide +kernel, by decide +kernel⟩, List.mem_of_getElem? (i := 1339) (by decide +kernel), List.mem_of_getElem? (i := 1600) (by decide +kernel), List.mem_of_getElem? (i := 1601) (by decide +kernel)⟩
theorem lw_p31 : lw_okq (⟨"WheelTownModel", "next", "()V"⟩, 70) := ⟨⟨by decide +kernel, by decide +kernel⟩, List.mem_of_getElem? (i := 1339) (by decide +kernel), List.mem_of_getElem? (i := 1604) (by decide +kernel), List.mem_of_getElem? (i := 1605) (by decide +kernel)⟩
def lw_privs_2 : List (MethodName × Nat) := [(⟨"WheelTown", "isAmongShown", "(II)Z"⟩, 16), (⟨"WheelTown", "isWalkable", "(I)Z"⟩, 16), (⟨"WheelTown", "walkedPast", "(I)LWheelTown$Walks;"⟩, 16), (⟨"WheelTown", "wonBy", "(II)I"⟩, 16), (⟨"WheelTown", "nightFlow", "(II)I"⟩, 16), (⟨"WheelTown", "loudness", "(II)I"⟩, 16), (⟨"WheelTown", "burstBehind", "(II)I"⟩, 16), (⟨"WheelTown", "usedUnder", "(II)I"⟩, 16), (⟨"WheelTown", "vacantDays", "(III)I"⟩, 16), (⟨"WheelTown", "errorOf", "(I)I"⟩, 16), (⟨"WheelTown", "offBy", "(II)I"⟩, 16), (⟨"WheelTown", "offEitherWay", "(II)I"⟩, 16), (⟨"WheelTown", "rowsHeld", "()I"⟩, 16), (⟨"WheelTownModel", "four", "(I)V"⟩, 70), (⟨"WheelTownModel", "begins", "()V"⟩, 70), (⟨"WheelTownModel", "next", "()V"⟩, 70)]
theorem lw_r2 : ∀ q ∈ lw_privs_2, lw_okq q := List.forall_mem_cons.mpr ⟨lw_p16, List.forall_mem_cons.mpr ⟨lw_p17, List.forall_mem_cons.mpr ⟨lw_p18, List.forall_mem_cons.mpr ⟨lw_p19, List.forall_mem_cons.mpr ⟨lw_p20, List.forall_mem_cons.mpr ⟨lw_p21, List.forall_mem_cons.mpr ⟨lw_p22, List.forall_mem_cons.mpr ⟨lw_p23, List.forall_mem_cons.mpr ⟨lw_p24, List.forall_mem_cons.mpr ⟨lw_p25, List.forall_mem_cons.mpr ⟨lw_p26, List.forall_mem_cons.mpr ⟨lw_p27, List.forall_mem_cons.mpr ⟨lw_p28, List.forall_mem_cons.mpr ⟨lw_p29, List.forall_mem_cons.mpr ⟨lw_p30, List.forall_mem_cons.mpr ⟨lw_p31, fun _ h => absurd h List.not_mem_nil⟩⟩⟩⟩⟩⟩⟩⟩⟩⟩⟩⟩⟩⟩⟩⟩
theorem lw_p32 : lw_okq (⟨"WheelTownModel", "isByte", "(III)Z"⟩, 70) := ⟨⟨by decide +kernel, by decide +kernel⟩, List.mem_of_getElem? (i := 1339) (by decide +kernel), List.mem_of_getElem? (i := 1608) (by decide +kernel), List.mem_of_getElem? (i := 1609) (by decide +kernel)⟩
theorem lw_p33 : lw_okq (⟨"WheelTownModel", "isGood", "()Z"⟩, 70) := ⟨⟨by decide +kernel, by decide +kernel⟩, List.mem_of_getElem? (i := 1339) (by decide +kernel), List.mem_of_getElem? (i := 1617) (by decide +kernel), List.mem_of_getElem? (i := 1618) (by decide +kernel)⟩
theorem lw_p34 : lw_okq (⟨"WheelTownModel", "line", "()V"⟩, 70) := ⟨⟨by decide +kernel, by decide +kernel⟩, List.mem_of_getElem? (i := 1339) (by decide +kernel), List.mem_of_getElem? (i := 1621) (by decide +kernel), List.mem_of_getElem? (i := 1622) (by decide +kernel)⟩
theorem lw_p35 : lw_okq (⟨"WheelTownModel", "is", "(J)Z"⟩, 70) := ⟨⟨by decide +kernel, by decide +kernel⟩, List.mem_of_getElem? (i := 1339) (by decide +kernel), List.mem_of_getElem? (i := 1626) (by decide +kernel), List.mem_of_getElem? (i := 1627) (by decide +kernel)⟩
theorem lw_p36 : lw_okq (⟨"WheelTownModel", "fails", "(I)V"⟩, 70) := ⟨⟨by decide +kernel, by decide +kernel⟩, List.mem_of_getElem? (i := 1339) (by decide +kernel), List.mem_of_getElem? (i := 1635) (by decide +kernel), List.mem_of_getElem? (i := 1636) (by decide +kernel)⟩
theorem lw_p37 : lw_okq (⟨"WheelTownModel", "meterLine", "()V"⟩, 70) := ⟨⟨by decide +kernel, by decide +kernel⟩, List.mem_of_getElem? (i := 1339) (by decide +kernel), List.mem_of_getElem? (i := 1639) (by decide +kernel), List.mem_of_getElem? (i := 1640) (by decide +kernel)⟩
theorem lw_p38 : lw_okq (⟨"WheelTownModel", "number", "(JII)I"⟩, 70) := ⟨⟨by decide +kernel, by decide +kernel⟩, List.mem_of_getElem? (i := 1339) (by decide +kernel), List.mem_of_getElem? (i := 1644) (by decide +kernel), List.mem_of_getElem? (i := 1645) (by decide +kernel)⟩
theorem lw_p39 : lw_okq (⟨"WheelTownModel", "asks", "(J)V"⟩, 70) := ⟨⟨by decide +kernel, by decide +kernel⟩, List.mem_of_getElem? (i := 1339) (by decide +kernel), List.mem_of_getElem? (i := 1648) (by decide +kernel), List.mem_of_getElem? (i := 1649) (by decide +kernel)⟩
theorem lw_p40 : lw_okq (⟨"WheelTownModel", "takes", "(J)Z"⟩, 70) := ⟨⟨by decide +kernel, by decide +kernel⟩, List.mem_of_getElem? (i := 1339) (by decide +kernel), List.mem_of_getElem? (i := 1652) (by decide +kernel), List.mem_of_getElem? (i := 1653) (by decide +kernel)⟩
theorem lw_p41 : lw_okq (⟨"WheelTownModel", "number", "(II)I"⟩, 70) := ⟨⟨by decide +kernel, by decide +kernel⟩, List.mem_of_getElem? (i := 1339) (by decide +kernel), List.mem_of_getElem? (i := 1656) (by decide +kernel), List.mem_of_getElem? (i := 1657) (by decide +kernel)⟩
theorem lw_p42 : lw_okq (⟨"WheelTownModel", "kindTold", "()I"⟩, 70) := ⟨⟨by decide +kernel, by decide +kernel⟩, List.mem_of_getElem? (i := 1339) (by decide +kernel), List.mem_of_getElem? (i := 1667) (by decide +kernel), List.mem_of_getElem? (i := 1668) (by decide +kernel)⟩
theorem lw_p43 : lw_okq (⟨"WheelTownModel", "leakLine", "()V"⟩, 70) := ⟨⟨by decide +kernel, by decide +kernel⟩, List.mem_of_getElem? (i := 1339) (by decide +kernel), List.mem_of_getElem? (i := 1677) (by decide +kernel), List.mem_of_getElem? (i := 1678) (by decide +kernel)⟩
theorem lw_p44 : lw_okq (⟨"WheelTownModel", "hanging", "()I"⟩, 70) := ⟨⟨by decide +kernel, by decide +kernel⟩, List.mem_of_getElem? (i := 1339) (by decide +kernel), List.mem_of_getElem? (i := 1681) (by decide +kernel), List.mem_of_getElem? (i := 1682) (by decide +kernel)⟩
theorem lw_p45 : lw_okq (⟨"WheelTownModel", "flushLine", "()V"⟩, 70) := ⟨⟨by decide +kernel, by decide +kernel⟩, List.mem_of_getElem? (i := 1339) (by decide +kernel), List.mem_of_getElem? (i := 1687) (by decide +kernel), List.mem_of_getElem? (i := 1688) (by decide +kernel)⟩
theorem lw_p46 : lw_okq (⟨"WheelTownModel", "emptyLine", "()V"⟩, 70) := ⟨⟨by decide +kernel, by decide +kernel⟩, List.mem_of_getElem? (i := 1339) (by decide +kernel), List.mem_of_getElem? (i := 1693) (by decide +kernel), List.mem_of_getElem? (i := 1694) (by decide +kernel)⟩
theorem lw_p47 : lw_okq (⟨"WheelTownModel", "courtLine", "()V"⟩, 70) := ⟨⟨by decide +kernel, by decide +kernel⟩, List.mem_of_getElem? (i := 1339) (by decide +kernel), List.mem_of_getElem? (i := 1699) (by decide +kernel), List.mem_of_getElem? (i := 1700) (by decide +kernel)⟩
def lw_privs_3 : List (MethodName × Nat) := [(⟨"WheelTownModel", "isByte", "(III)Z"⟩, 70), (⟨"WheelTownModel", "isGood", "()Z"⟩, 70), (⟨"WheelTownModel", "line", "()V"⟩, 70), (⟨"WheelTownModel", "is", "(J)Z"⟩, 70), (⟨"WheelTownModel", "fails", "(I)V"⟩, 70), (⟨"WheelTownModel", "meterLine", "()V"⟩, 70), (⟨"WheelTownModel", "number", "(JII)I"⟩, 70), (⟨"WheelTownModel", "asks", "(J)V"⟩, 70), (⟨"WheelTownModel", "takes", "(J)Z"⟩, 70), (⟨"WheelTownModel", "number", "(II)I"⟩, 70), (⟨"WheelTownModel", "kindTold", "()I"⟩, 70), (⟨"WheelTownModel", "leakLine", "()V"⟩, 70), (⟨"WheelTownModel", "hanging", "()I"⟩, 70), (⟨"WheelTownModel", "flushLine", "()V"⟩, 70), (⟨"WheelTownModel", "emptyLine", "()V"⟩, 70), (⟨"WheelTownModel", "courtLine", "()V"⟩, 70)]
theorem lw_r3 : ∀ q ∈ lw_privs_3, lw_okq q := List.forall_mem_cons.mpr ⟨lw_p32, List.forall_mem_cons.mpr ⟨lw_p33, List.forall_mem_cons.mpr ⟨lw_p34, List.forall_mem_cons.mpr ⟨lw_p35, List.forall_mem_cons.mpr ⟨lw_p36, List.forall_mem_cons.mpr ⟨lw_p37, List.forall_mem_cons.mpr ⟨lw_p38, List.forall_mem_cons.mpr ⟨lw_p39, List.forall_mem_cons.mpr ⟨lw_p40, List.forall_mem_cons.mpr ⟨lw_p41, List.forall_mem_cons.mpr ⟨lw_p42, List.forall_mem_cons.mpr ⟨lw_p43, List.forall_mem_cons.mpr ⟨lw_p44, List.forall_mem_cons.mpr ⟨lw_p45, List.forall_mem_cons.mpr ⟨lw_p46, List.forall_mem_cons.mpr ⟨lw_p47, fun _ h => absurd h List.not_mem_nil⟩⟩⟩⟩⟩⟩⟩⟩⟩⟩⟩⟩⟩⟩⟩⟩
theorem lw_p48 : lw_okq (⟨"WheelTownModel", "tariffLine", "()V"⟩, 70) := ⟨⟨by decide +kernel, by decide +kernel⟩, List.mem_of_getElem? (i := 1339) (by decide +kernel), List.mem_of_getElem? (i := 1705) (by decide +kernel), List.mem_of_getElem? (i := 1706) (by decide +kernel)⟩
theorem lw_p49 : lw_okq (⟨"WheelTownModel", "ends", "()V"⟩, 70) := ⟨⟨by decide +kernel, by decide +kernel⟩, List.mem_of_getElem? (i := 1339) (by decide +kernel), List.mem_of_getElem? (i := 1713) (by decide +kernel), List.mem_of_getElem? (i := 1714) (by decide +kernel)⟩
theorem lw_p50 : lw_okq (⟨"WheelTownModel", "isOver", "()V"⟩, 70) := ⟨⟨by decide +kernel, by decide +kernel⟩, List.mem_of_getElem? (i := 1339) (by decide +kernel), List.mem_of_getElem? (i := 1717) (by decide +kernel), List.mem_of_getElem? (i := 1718) (by decide +kernel)⟩
theorem lw_p51 : lw_okq (⟨"WheelTownModel", "copyTown", "(II)V"⟩, 70) := ⟨⟨by decide +kernel, by decide +kernel⟩, List.mem_of_getElem? (i := 1339) (by decide +kernel), List.mem_of_getElem? (i := 1721) (by decide +kernel), List.mem_of_getElem? (i := 1722) (by decide +kernel)⟩
theorem lw_p52 : lw_okq (⟨"WheelTownModel", "isMeter", "(I)Z"⟩, 70) := ⟨⟨by decide +kernel, by decide +kernel⟩, List.mem_of_getElem? (i := 1339) (by decide +kernel), List.mem_of_getElem? (i := 1729) (by decide +kernel), List.mem_of_getElem? (i := 1730) (by decide +kernel)⟩
theorem lw_p53 : lw_okq (⟨"WheelTownModel", "flows", "(IZ)V"⟩, 70) := ⟨⟨by decide +kernel, by decide +kernel⟩, List.mem_of_getElem? (i := 1339) (by decide +kernel), List.mem_of_getElem? (i := 1737) (by decide +kernel), List.mem_of_getElem? (i := 1738) (by decide +kernel)⟩
theorem lw_p54 : lw_okq (⟨"WheelTownModel", "ownOf", "(II)I"⟩, 70) := ⟨⟨by decide +kernel, by decide +kernel⟩, List.mem_of_getElem? (i := 1339) (by decide +kernel), List.mem_of_getElem? (i := 1741) (by decide +kernel), List.mem_of_getElem? (i := 1742) (by decide +kernel)⟩
theorem lw_p55 : lw_okq (⟨"WheelTownModel", "isEmptyOn", "(II)Z"⟩, 70) := ⟨⟨by decide +kernel, by decide +kernel⟩, List.mem_of_getElem? (i := 1339) (by decide +kernel), List.mem_of_getElem? (i := 1745) (by decide +kernel), List.mem_of_getElem? (i := 1746) (by decide +kernel)⟩
theorem lw_p56 : lw_okq (⟨"WheelTownModel", "leaksAt", "(IIZ)I"⟩, 70) := ⟨⟨by decide +kernel, by decide +kernel⟩, List.mem_of_getElem? (i := 1339) (by decide +kernel), List.mem_of_getElem? (i := 1754) (by decide +kernel), List.mem_of_getElem? (i := 1755) (by decide +kernel)⟩
theorem lw_p57 : lw_okq (⟨"WheelTownModel", "turnedBy", "(IIII)I"⟩, 70) := ⟨⟨by decide +kernel, by decide +kernel⟩, List.mem_of_getElem? (i := 1339) (by decide +kernel), List.mem_of_getElem? (i := 1763) (by decide +kernel), List.mem_of_getElem? (i := 1764) (by decide +kernel)⟩
theorem lw_p58 : lw_okq (⟨"WheelTownModel", "wheelOf", "(II)I"⟩, 70) := ⟨⟨by decide +kernel, by decide +kernel⟩, List.mem_of_getElem? (i := 1339) (by decide +kernel), List.mem_of_getElem? (i := 1771) (by decide +kernel), List.mem_of_getElem? (i := 1772) (by decide +kernel)⟩
theorem lw_p59 : lw_okq (⟨"WheelTownModel", "goesTo", "(I)V"⟩, 70) := ⟨⟨by decide +kernel, by decide +kernel⟩, List.mem_of_getElem? (i := 1339) (by decide +kernel), List.mem_of_getElem? (i := 1775) (by decide +kernel), List.mem_of_getElem? (i := 1776) (by decide +kernel)⟩
theorem lw_p60 : lw_okq (⟨"WheelTownModel", "begins0", "()V"⟩, 70) := ⟨⟨by decide +kernel, by decide +kernel⟩, List.mem_of_getElem? (i := 1339) (by decide +kernel), List.mem_of_getElem? (i := 1779) (by decide +kernel), List.mem_of_getElem? (i := 1780) (by decide +kernel)⟩
theorem lw_p61 : lw_okq (⟨"WheelTownModel", "turnsAll", "(I)V"⟩, 70) := ⟨⟨by decide +kernel, by decide +kernel⟩, List.mem_of_getElem? (i := 1339) (by decide +kernel), List.mem_of_getElem? (i := 1783) (by decide +kernel), List.mem_of_getElem? (i := 1784) (by decide +kernel)⟩
theorem lw_p62 : lw_okq (⟨"WheelTownModel", "wheelNow", "(II)I"⟩, 70) := ⟨⟨by decide +kernel, by decide +kernel⟩, List.mem_of_getElem? (i := 1339) (by decide +kernel), List.mem_of_getElem? (i := 1787) (by decide +kernel), List.mem_of_getElem? (i := 1788) (by decide +kernel)⟩
theorem lw_p63 : lw_okq (⟨"WheelTownModel", "ring", "(I)I"⟩, 70) := ⟨⟨by decide +kernel, by decide +kernel⟩, List.mem_of_getElem? (i := 1339) (by decide +kernel), List.mem_of_getElem? (i := 1791) (by decide +kernel), List.mem_of_getElem? (i := 1792) (by decide +kernel)⟩
def lw_privs_4 : List (MethodName × Nat) := [(⟨"WheelTownModel", "tariffLine", "()V"⟩, 70), (⟨"WheelTownModel", "ends", "()V"⟩, 70), (⟨"WheelTownModel", "isOver", "()V"⟩, 70), (⟨"WheelTownModel", "copyTown", "(II)V"⟩, 70), (⟨"WheelTownModel", "isMeter", "(I)Z"⟩, 70), (⟨"WheelTownModel", "flows", "(IZ)V"⟩, 70), (⟨"WheelTownModel", "ownOf", "(II)I"⟩, 70), (⟨"WheelTownModel", "isEmptyOn", "(II)Z"⟩, 70), (⟨"WheelTownModel", "leaksAt", "(IIZ)I"⟩, 70), (⟨"WheelTownModel", "turnedBy", "(IIII)I"⟩, 70), (⟨"WheelTownModel", "wheelOf", "(II)I"⟩, 70), (⟨"WheelTownModel", "goesTo", "(I)V"⟩, 70), (⟨"WheelTownModel", "begins0", "()V"⟩, 70), (⟨"WheelTownModel", "turnsAll", "(I)V"⟩, 70), (⟨"WheelTownModel", "wheelNow", "(II)I"⟩, 70), (⟨"WheelTownModel", "ring", "(I)I"⟩, 70)]
theorem lw_r4 : ∀ q ∈ lw_privs_4, lw_okq q := List.forall_mem_cons.mpr ⟨lw_p48, List.forall_mem_cons.mpr ⟨lw_p49, List.forall_mem_cons.mpr ⟨lw_p50, List.forall_mem_cons.mpr ⟨lw_p51, List.forall_mem_cons.mpr ⟨lw_p52, List.forall_mem_cons.mpr ⟨lw_p53, List.forall_mem_cons.mpr ⟨lw_p54, List.forall_mem_cons.mpr ⟨lw_p55, List.forall_mem_cons.mpr ⟨lw_p56, List.forall_mem_cons.mpr ⟨lw_p57, List.forall_mem_cons.mpr ⟨lw_p58, List.forall_mem_cons.mpr ⟨lw_p59, List.forall_mem_cons.mpr ⟨lw_p60, List.forall_mem_cons.mpr ⟨lw_p61, List.forall_mem_cons.mpr ⟨lw_p62, List.forall_mem_cons.mpr ⟨lw_p63, fun _ h => absurd h List.not_mem_nil⟩⟩⟩⟩⟩⟩⟩⟩⟩⟩⟩⟩⟩⟩⟩⟩
theorem lw_p64 : lw_okq (⟨"WheelTownModel", "tells", "(IIII)I"⟩, 70) := ⟨⟨by decide +kernel, by decide +kernel⟩, List.mem_of_getElem? (i := 1339) (by decide +kernel), List.mem_of_getElem? (i := 1809) (by decide +kernel), List.mem_of_getElem? (i := 1810) (by decide +kernel)⟩
theorem lw_p65 : lw_okq (⟨"WheelTownModel", "isSeen", "(II)Z"⟩, 70) := ⟨⟨by decide +kernel, by decide +kernel⟩, List.mem_of_getElem? (i := 1339) (by decide +kernel), List.mem_of_getElem? (i := 1833) (by decide +kernel), List.mem_of_getElem? (i := 1834) (by decide +kernel)⟩
theorem lw_p66 : lw_okq (⟨"WheelTownModel", "between", "(III)I"⟩, 70) := ⟨⟨by decide +kernel, by decide +kernel⟩, List.mem_of_getElem? (i := 1339) (by decide +kernel), List.mem_of_getElem? (i := 1837) (by decide +kernel), List.mem_of_getElem? (i := 1838) (by decide +kernel)⟩
theorem lw_p67 : lw_okq (⟨"WheelTownModel", "leastOf", "(III)I"⟩, 70) := ⟨⟨by decide +kernel, by decide +kernel⟩, List.mem_of_getElem? (i := 1339) (by decide +kernel), List.mem_of_getElem? (i := 1848) (by decide +kernel), List.mem_of_getElem? (i := 1849) (by decide +kernel)⟩
theorem lw_p68 : lw_okq (⟨"WheelTownModel", "countedFrom", "(III)I"⟩, 70) := ⟨⟨by decide +kernel, by decide +kernel⟩, List.mem_of_getElem? (i := 1339) (by decide +kernel), List.mem_of_getElem? (i := 1852) (by decide +kernel), List.mem_of_getElem? (i := 1853) (by decide +kernel)⟩
theorem lw_p69 : lw_okq (⟨"WheelTownModel", "greatestOf", "(III)I"⟩, 70) := ⟨⟨by decide +kernel, by decide +kernel⟩, List.mem_of_getElem? (i := 1339) (by decide +kernel), List.mem_of_getElem? (i := 1856) (by decide +kernel), List.mem_of_getElem? (i := 1857) (by decide +kernel)⟩
theorem lw_p70 : lw_okq (⟨"WheelTownModel", "ownIn", "(III)I"⟩, 70) := ⟨⟨by decide +kernel, by decide +kernel⟩, List.mem_of_getElem? (i := 1339) (by decide +kernel), List.mem_of_getElem? (i := 1864) (by decide +kernel), List.mem_of_getElem? (i := 1865) (by decide +kernel)⟩
theorem lw_p71 : lw_okq (⟨"WheelTownModel", "fitsAll", "()V"⟩, 70) := ⟨⟨by decide +kernel, by decide +kernel⟩, List.mem_of_getElem? (i := 1339) (by decide +kernel), List.mem_of_getElem? (i := 1872) (by decide +kernel), List.mem_of_getElem? (i := 1873) (by decide +kernel)⟩
theorem lw_p72 : lw_okq (⟨"WheelTownModel", "canFit", "()Z"⟩, 70) := ⟨⟨by decide +kernel, by decide +kernel⟩, List.mem_of_getElem? (i := 1339) (by decide +kernel), List.mem_of_getElem? (i := 1880) (by decide +kernel), List.mem_of_getElem? (i := 1881) (by decide +kernel)⟩
theorem lw_p73 : lw_okq (⟨"WheelTownModel", "unlikesAt", "(I)V"⟩, 70) := ⟨⟨by decide +kernel, by decide +kernel⟩, List.mem_of_getElem? (i := 1339) (by decide +kernel), List.mem_of_getElem? (i := 1904) (by decide +kernel), List.mem_of_getElem? (i := 1905) (by decide +kernel)⟩
theorem lw_p74 : lw_okq (⟨"WheelTownModel", "supposes", "(I)V"⟩, 70) := ⟨⟨by decide +kernel, by decide +kernel⟩, List.mem_of_getElem? (i := 1339) (by decide +kernel), List.mem_of_getElem? (i := 1916) (by decide +kernel), List.mem_of_getElem? (i := 1917) (by decide +kernel)⟩
theorem lw_p75 : lw_okq (⟨"WheelTownModel", "plains", "()V"⟩, 70) := ⟨⟨by decide +kernel, by decide +kernel⟩, List.mem_of_getElem? (i := 1339) (by decide +kernel), List.mem_of_getElem? (i := 1920) (by decide +kernel), List.mem_of_getElem? (i := 1921) (by decide +kernel)⟩
theorem lw_p76 : lw_okq (⟨"WheelTownModel", "fitsWith", "(IZ)Z"⟩, 70) := ⟨⟨by decide +kernel, by decide +kernel⟩, List.mem_of_getElem? (i := 1339) (by decide +kernel), List.mem_of_getElem? (i := 1924) (by decide +kernel), List.mem_of_getElem? (i := 1925) (by decide +kernel)⟩
theorem lw_p77 : lw_okq (⟨"WheelTownModel", "supposedFits", "()Z"⟩, 70) := ⟨⟨by decide +kernel, by decide +kernel⟩, List.mem_of_getElem? (i := 1339) (by decide +kernel), List.mem_of_getElem? (i := 1928) (by decide +kernel), List.mem_of_getElem? (i := 1929) (by decide +kernel)⟩
theorem lw_p78 : lw_okq (⟨"WheelTownModel", "isAbove", "(II)Z"⟩, 70) := ⟨⟨by decide +kernel, by decide +kernel⟩, List.mem_of_getElem? (i := 1339) (by decide +kernel), List.mem_of_getElem? (i := 1932) (by decide +kernel), List.mem_of_getElem? (i := 1933) (by decide +kernel)⟩
theorem lw_p79 : lw_okq (⟨"WheelTownModel", "notes", "()V"⟩, 70) := ⟨⟨by decide +kernel, by decide +kernel⟩, List.mem_of_getElem? (i := 1339) (by decide +kernel), List.mem_of_getElem? (i := 1936) (by decide +kernel), List.mem_of_getElem? (i := 1937) (by decide +kernel)⟩
def lw_privs_5 : List (MethodName × Nat) := [(⟨"WheelTownModel", "tells", "(IIII)I"⟩, 70), (⟨"WheelTownModel", "isSeen", "(II)Z"⟩, 70), (⟨"WheelTownModel", "between", "(III)I"⟩, 70), (⟨"WheelTownModel", "leastOf", "(III)I"⟩, 70), (⟨"WheelTownModel", "countedFrom", "(III)I"⟩, 70), (⟨"WheelTownModel", "greatestOf", "(III)I"⟩, 70), (⟨"WheelTownModel", "ownIn", "(III)I"⟩, 70), (⟨"WheelTownModel", "fitsAll", "()V"⟩, 70), (⟨"WheelTownModel", "canFit", "()Z"⟩, 70), (⟨"WheelTownModel", "unlikesAt", "(I)V"⟩, 70), (⟨"WheelTownModel", "supposes", "(I)V"⟩, 70), (⟨"WheelTownModel", "plains", "()V"⟩, 70), (⟨"WheelTownModel", "fitsWith", "(IZ)Z"⟩, 70), (⟨"WheelTownModel", "supposedFits", "()Z"⟩, 70), (⟨"WheelTownModel", "isAbove", "(II)Z"⟩, 70), (⟨"WheelTownModel", "notes", "()V"⟩, 70)]
theorem lw_r5 : ∀ q ∈ lw_privs_5, lw_okq q := List.forall_mem_cons.mpr ⟨lw_p64, List.forall_mem_cons.mpr ⟨lw_p65, List.forall_mem_cons.mpr ⟨lw_p66, List.forall_mem_cons.mpr ⟨lw_p67, List.forall_mem_cons.mpr ⟨lw_p68, List.forall_mem_cons.mpr ⟨lw_p69, List.forall_mem_cons.mpr ⟨lw_p70, List.forall_mem_cons.mpr ⟨lw_p71, List.forall_mem_cons.mpr ⟨lw_p72, List.forall_mem_cons.mpr ⟨lw_p73, List.forall_mem_cons.mpr ⟨lw_p74, List.forall_mem_cons.mpr ⟨lw_p75, List.forall_mem_cons.mpr ⟨lw_p76, List.forall_mem_cons.mpr ⟨lw_p77, List.forall_mem_cons.mpr ⟨lw_p78, List.forall_mem_cons.mpr ⟨lw_p79, fun _ h => absurd h List.not_mem_nil⟩⟩⟩⟩⟩⟩⟩⟩⟩⟩⟩⟩⟩⟩⟩⟩
theorem lw_p80 : lw_okq (⟨"WheelTownModel", "isSet", "(I)Z"⟩, 70) := ⟨⟨by decide +kernel, by decide +kernel⟩, List.mem_of_getElem? (i := 1339) (by decide +kernel), List.mem_of_getElem? (i := 1948) (by decide +kernel), List.mem_of_getElem? (i := 1949) (by decide +kernel)⟩
theorem lw_p81 : lw_okq (⟨"WheelTownModel", "walks", "()V"⟩, 70) := ⟨⟨by decide +kernel, by decide +kernel⟩, List.mem_of_getElem? (i := 1339) (by decide +kernel), List.mem_of_getElem? (i := 1952) (by decide +kernel), List.mem_of_getElem? (i := 1953) (by decide +kernel)⟩
theorem lw_p82 : lw_okq (⟨"WheelTownModel", "minutes", "(II)I"⟩, 70) := ⟨⟨by decide +kernel, by decide +kernel⟩, List.mem_of_getElem? (i := 1339) (by decide +kernel), List.mem_of_getElem? (i := 1956) (by decide +kernel), List.mem_of_getElem? (i := 1957) (by decide +kernel)⟩
theorem lw_p83 : lw_okq (⟨"WheelTownModel", "backs", "()V"⟩, 70) := ⟨⟨by decide +kernel, by decide +kernel⟩, List.mem_of_getElem? (i := 1339) (by decide +kernel), List.mem_of_getElem? (i := 1964) (by decide +kernel), List.mem_of_getElem? (i := 1965) (by decide +kernel)⟩
theorem lw_p84 : lw_okq (⟨"WheelTownModel", "onFrom", "(II)I"⟩, 70) := ⟨⟨by decide +kernel, by decide +kernel⟩, List.mem_of_getElem? (i := 1339) (by decide +kernel), List.mem_of_getElem? (i := 1968) (by decide +kernel), List.mem_of_getElem? (i := 1969) (by decide +kernel)⟩
theorem lw_p85 : lw_okq (⟨"WheelTownModel", "billOf", "(JI)I"⟩, 70) := ⟨⟨by decide +kernel, by decide +kernel⟩, List.mem_of_getElem? (i := 1339) (by decide +kernel), List.mem_of_getElem? (i := 1981) (by decide +kernel), List.mem_of_getElem? (i := 1982) (by decide +kernel)⟩
theorem lw_p86 : lw_okq (⟨"WheelTownModel", "billedOf", "(III)I"⟩, 70) := ⟨⟨by decide +kernel, by decide +kernel⟩, List.mem_of_getElem? (i := 1339) (by decide +kernel), List.mem_of_getElem? (i := 1990) (by decide +kernel), List.mem_of_getElem? (i := 1991) (by decide +kernel)⟩
theorem lw_p87 : lw_okq (⟨"WheelTownModel", "readingAt", "(II)I"⟩, 70) := ⟨⟨by decide +kernel, by decide +kernel⟩, List.mem_of_getElem? (i := 1339) (by decide +kernel), List.mem_of_getElem? (i := 1994) (by decide +kernel), List.mem_of_getElem? (i := 1995) (by decide +kernel)⟩
theorem lw_p88 : lw_okq (⟨"WheelTownModel", "wonBy", "(II)I"⟩, 70) := ⟨⟨by decide +kernel, by decide +kernel⟩, List.mem_of_getElem? (i := 1339) (by decide +kernel), List.mem_of_getElem? (i := 2006) (by decide +kernel), List.mem_of_getElem? (i := 2007) (by decide +kernel)⟩
theorem lw_p89 : lw_okq (⟨"WheelTownModel", "nightOf", "(II)I"⟩, 70) := ⟨⟨by decide +kernel, by decide +kernel⟩, List.mem_of_getElem? (i := 1339) (by decide +kernel), List.mem_of_getElem? (i := 2019) (by decide +kernel), List.mem_of_getElem? (i := 2020) (by decide +kernel)⟩
theorem lw_p90 : lw_okq (⟨"WheelTownModel", "burstOf", "(II)I"⟩, 70) := ⟨⟨by decide +kernel, by decide +kernel⟩, List.mem_of_getElem? (i := 1339) (by decide +kernel), List.mem_of_getElem? (i := 2027) (by decide +kernel), List.mem_of_getElem? (i := 2028) (by decide +kernel)⟩
theorem lw_p91 : lw_okq (⟨"WheelTownModel", "offOf", "(II)I"⟩, 70) := ⟨⟨by decide +kernel, by decide +kernel⟩, List.mem_of_getElem? (i := 1339) (by decide +kernel), List.mem_of_getElem? (i := 2043) (by decide +kernel), List.mem_of_getElem? (i := 2044) (by decide +kernel)⟩
theorem lw_p92 : lw_okq (⟨"WheelTownModel", "loudAt", "(II)I"⟩, 70) := ⟨⟨by decide +kernel, by decide +kernel⟩, List.mem_of_getElem? (i := 1339) (by decide +kernel), List.mem_of_getElem? (i := 2092) (by decide +kernel), List.mem_of_getElem? (i := 2093) (by decide +kernel)⟩
theorem lw_p93 : lw_okq (⟨"WheelTownModel", "copyReadings", "(II)V"⟩, 70) := ⟨⟨by decide +kernel, by decide +kernel⟩, List.mem_of_getElem? (i := 1339) (by decide +kernel), List.mem_of_getElem? (i := 2117) (by decide +kernel), List.mem_of_getElem? (i := 2118) (by decide +kernel)⟩
def lw_privs_6 : List (MethodName × Nat) := [(⟨"WheelTownModel", "isSet", "(I)Z"⟩, 70), (⟨"WheelTownModel", "walks", "()V"⟩, 70), (⟨"WheelTownModel", "minutes", "(II)I"⟩, 70), (⟨"WheelTownModel", "backs", "()V"⟩, 70), (⟨"WheelTownModel", "onFrom", "(II)I"⟩, 70), (⟨"WheelTownModel", "billOf", "(JI)I"⟩, 70), (⟨"WheelTownModel", "billedOf", "(III)I"⟩, 70), (⟨"WheelTownModel", "readingAt", "(II)I"⟩, 70), (⟨"WheelTownModel", "wonBy", "(II)I"⟩, 70), (⟨"WheelTownModel", "nightOf", "(II)I"⟩, 70), (⟨"WheelTownModel", "burstOf", "(II)I"⟩, 70), (⟨"WheelTownModel", "offOf", "(II)I"⟩, 70), (⟨"WheelTownModel", "loudAt", "(II)I"⟩, 70), (⟨"WheelTownModel", "copyReadings", "(II)V"⟩, 70)]
theorem lw_r6 : ∀ q ∈ lw_privs_6, lw_okq q := List.forall_mem_cons.mpr ⟨lw_p80, List.forall_mem_cons.mpr ⟨lw_p81, List.forall_mem_cons.mpr ⟨lw_p82, List.forall_mem_cons.mpr ⟨lw_p83, List.forall_mem_cons.mpr ⟨lw_p84, List.forall_mem_cons.mpr ⟨lw_p85, List.forall_mem_cons.mpr ⟨lw_p86, List.forall_mem_cons.mpr ⟨lw_p87, List.forall_mem_cons.mpr ⟨lw_p88, List.forall_mem_cons.mpr ⟨lw_p89, List.forall_mem_cons.mpr ⟨lw_p90, List.forall_mem_cons.mpr ⟨lw_p91, List.forall_mem_cons.mpr ⟨lw_p92, List.forall_mem_cons.mpr ⟨lw_p93, fun _ h => absurd h List.not_mem_nil⟩⟩⟩⟩⟩⟩⟩⟩⟩⟩⟩⟩⟩⟩
def lw_privs : List (MethodName × Nat) := lw_privs_1 ++ (lw_privs_2 ++ (lw_privs_3 ++ (lw_privs_4 ++ (lw_privs_5 ++ (lw_privs_6)))))
def lw_tbl : List Cond := k2_sels lw_privs ++ tables_1
theorem lw_privs_ok : ∀ q ∈ lw_privs, lw_okq q := by
  show ∀ q ∈ lw_privs_1 ++ (lw_privs_2 ++ (lw_privs_3 ++ (lw_privs_4 ++ (lw_privs_5 ++ (lw_privs_6))))), lw_okq q
  exact List.forall_mem_append.mpr ⟨lw_r1, List.forall_mem_append.mpr ⟨lw_r2, List.forall_mem_append.mpr ⟨lw_r3, List.forall_mem_append.mpr ⟨lw_r4, List.forall_mem_append.mpr ⟨lw_r5, lw_r6⟩⟩⟩⟩⟩
end
section
def va_AOA (ty : FieldType) (U : State) : Prop := (Cond.arrayOver (.array ty)).before #[] U = true
theorem va_AOA.use {ty : FieldType} {A : Array Value} {U : State} (h : va_AOA ty U) : (Cond.arrayOver (.array ty)).before A U = true := h
/-! ===== BEGIN new T[n][m]: the outer array a place, the inner ones among the pooled ===== -/
/-- f, but v at every address of l -/
def vr_up {α : Type} (f : Nat → α) (l : List Nat) (v : α) : Nat → α := fun a => if a ∈ l then v else f a
theorem vr_up_in {α : Type} {f : Nat → α} {l : List Nat} {v : α} {a : Nat} (h : a ∈ l) : vr_up f l v a = v := if_pos h
theorem vr_up_ne {α : Type} {f : Nat → α} {l : List Nat} {v : α} {a : Nat} (h : a ∉ l) : vr_up f l v a = f a := if_neg h
theorem vr_rows {L l : List Nat} {f : Nat → va_E} {e : va_E} (h : ∀ a, a ∈ l → a ∉ L) : va_pl L f ++ l.map (fun a => (a, e)) = va_pl (L ++ l) (vr_up f l e) := by
  unfold va_pl
  rw [List.map_append]
  congr 1
  · apply List.map_congr_left
    intro a ha
    rw [vr_up_ne (fun q => h a q ha)]
  · apply List.map_congr_left
    intro a ha
    rw [vr_up_in ha]
theorem vr_lay {X rows : va_W} {x : Nat × va_E} {pl : va_W} {D : va_G} {cl : List vw_C} {H : Heap} (hP : va_P D cl (((X ++ pl) ++ [x]) ++ rows) H) : va_P D cl ((X ++ [x]) ++ (pl ++ rows)) H := by
  rw [List.append_assoc (X ++ pl)] at hP
  have h := va_P.swap hP
  rw [← List.append_assoc X] at h
  have h2 := va_P.swap h
  rw [List.append_assoc (X ++ [x])] at h2
  exact h2
theorem vr_layD {X rows : va_W} {x : Nat × va_E} {pl : va_W} {A : Nat → Prop} (hD : va_D A (((X ++ pl) ++ [x]) ++ rows)) : va_D A ((X ++ [x]) ++ (pl ++ rows)) := by
  rw [List.append_assoc (X ++ pl)] at hD
  have h := va_D.swap hD
  rw [← List.append_assoc X] at h
  have h2 := va_D.swap h
  rw [List.append_assoc (X ++ [x])] at h2
  exact h2
theorem vr_outer (c : ClassId) (N h0 : Nat) : ∀ i : Nat, Jvm.Free.Multi.outerC c N h0 i = arrV c N (fun j => va_rf (if j < i then some (h0 + 1 + j) else none))
  | 0 => by
    show ({ cls := c, slots := Array.replicate N .null, vm := .none } : Cell) = _
    rw [arrV_new]
    refine congrArg (arrV c N) (funext fun j => ?_)
    simp [va_rf]
  | i + 1 => by
    show (Jvm.Free.Multi.outerC c N h0 i).setSlot i (.ref (h0 + 1 + i)) = _
    rw [vr_outer c N h0 i, arrV_store]
    refine congrArg (arrV c N) (funext fun j => ?_)
    by_cases e : j = i
    · subst e
      simp [updV, va_rf]
    · by_cases h : j < i
      · simp [updV, e, h, Nat.lt_succ_of_lt h]
      · simp [updV, e, h, show ¬ j < i + 1 by omega]
section VGM
variable {p : Program} {l : Launch} {e : Env} {R : Room} {s : State} {m : MethodId} {args : Array Value} {below : List Frame} {meth : Method} {c : Code} {H : Heap} {locs : List Loc} {cells slots : Nat} {Q : State → Prop}
variable {cc : ByteArray} {pc : Nat} {ls : Array Slot} {rest : List Value} {D : va_G} {cl : List vw_C} {A : Nat → Prop} {a : Nat} {tys : List (ClassId × FieldType)} {ws : va_W} {H0 : Heap}
theorem va_mna {X : va_W} {L : List Nat} {f : Nat → va_E} {cc : ByteArray} (hexec : p.tables.exec = Jvm.exec) (hb : c.code = cc) {own : String} {index : Nat} {ty : FieldType} {cy : ClassId} (hown : s.vm.findClass own = some m.cls) (hclink : (Cond.classLink own index ("[" ++ (FieldType.array ty).toString)).before args s = true) (hover : va_AOA ty s) (harr : (Cond.arrayClass ty).before args s = true) (hcy : s.vm.findClass (FieldType.array ty).toString = some cy)
    (hK : va_K D cl tys s) (hP : va_P D cl (X ++ va_pl L f) H) (hD : va_D A (X ++ va_pl L f)) (hS : va_S A H0 H locs) (hA : ∀ q, H0.size ≤ q → A q) {n k : Int32} {N' K' : Nat} {z : vp_A} (hn : ¬ n < 0) (hk : ¬ k < 0) (hN : n.toNatClampNeg = N') (hM : k.toNatClampNeg = K')
    (hb1 : N' * 4 ≤ 536870912) (hb2 : K' * componentBytes ty ≤ 536870912) (hb3 : K' ≤ 536870912) (hdf : fits ty (defaultValue ty) = true) (hdd : (defaultValue ty).isDefault = true) (hcells : cells + (1 + N') ≤ R.cells) (hslots : slots + (N' + N' * K') ≤ R.slots) (hz : ∀ c : ClassId, Jvm.Free.Multi.innerC c K' (defaultValue ty) = vp_cell c z) (hdg : decode cc pc = .ok (.multianewarray index 2, 4))
    (kk : ∀ (q : Nat) (r : Nat → Nat) (cA : ClassId) (H1 : Heap), (∀ i j : Nat, i < N' → j < N' → r i = r j → i = j) → (∀ i : Nat, i < N' → r i ∉ L) → va_K D cl (tys ++ [(cA, .array ty)]) s →
      va_P D cl ((X ++ [(q, .inl (cA, N', .inr (.inr (.inr (.inr (fun i => if i < N' then some (r i) else none))))))]) ++ va_pl (L ++ (List.range N').map r) (vr_up f ((List.range N').map r) (.inl (cy, z)))) H1 → va_D A ((X ++ [(q, .inl (cA, N', .inr (.inr (.inr (.inr (fun i => if i < N' then some (r i) else none))))))]) ++ va_pl (L ++ (List.range N').map r) (vr_up f ((List.range N').map r) (.inl (cy, z)))) → va_S A H0 H1 locs →
      W p l e R s m args below meth c H1 locs (cells + 1 + N') (slots + N' + N' * K') Q (F0 m (pc + 4) ls (.ref q :: rest))) : W p l e R s m args below meth c H locs cells slots Q (F0 m pc ls (.int k :: .int n :: rest)) := by
  subst hN
  subst hM
  intro T hT Xs
  obtain ⟨vm₁, cA, comp, -, fA, fC, hO, -, X', step⟩ := Xs.multianewarray2F hexec hown hclink (va_AOA.use hover) harr (g := F0 m pc ls (.int k :: .int n :: rest)) rfl (by rw [hb]; exact hdg) rfl hn hk hb1 hb2 hb3 hdf hdd hcells hslots
  have ec : some cy = some comp := hcy.symm.trans fC
  cases ec
  generalize hF : Jvm.Free.Multi.fill (T.setVm vm₁) cA cy n.toNatClampNeg k.toNatClampNeg (defaultValue ty) n.toNatClampNeg = F at X' step
  have hTh : (T.setVm vm₁).heap = H := hT
  obtain ⟨f1, f2, -, -⟩ := Jvm.Free.Multi.fill_facts (T.setVm vm₁) cA cy n.toNatClampNeg k.toNatClampNeg (defaultValue ty) n.toNatClampNeg
  rw [hF, hTh] at f1 f2
  have hold : ∀ x : Nat, x < H.size → F.heap[x]? = H[x]? := fun x hx => by
    have := Jvm.Free.Multi.fill_old (T.setVm vm₁) cA cy n.toNatClampNeg k.toNatClampNeg (defaultValue ty) (a := x) (by rw [hTh]; exact hx) n.toNatClampNeg
    rw [hF, hTh] at this
    exact this
  have hrow : ∀ j : Nat, j < n.toNatClampNeg → F.heap[H.size + 1 + j]? = some (vp_cell cy z) := fun j hj => by
    have := Jvm.Free.Multi.fill_inner (T.setVm vm₁) cA cy n.toNatClampNeg k.toNatClampNeg (defaultValue ty) n.toNatClampNeg j hj
    rw [hF, hTh, hz] at this
    exact this
  have hout : Jvm.Free.Multi.outerC cA n.toNatClampNeg H.size n.toNatClampNeg = vp_cell cA (n.toNatClampNeg, .inr (.inr (.inr (.inr (fun i => if i < n.toNatClampNeg then some (H.size + 1 + i) else none))))) := by
    rw [vp_cell_q]
    exact vr_outer cA n.toNatClampNeg H.size n.toNatClampNeg
  rw [hout] at f2
  have hlt : ∀ a, a ∈ L → a < H.size := fun a ha => by
    obtain ⟨k9, hk9⟩ := va_pl_get (X := X) (f := f) ha
    exact (hP k9 _ hk9).lt
  have hnl : ∀ i : Nat, i < n.toNatClampNeg → H.size + 1 + i ∉ L := fun i _ h => by
    have := hlt _ h
    omega
  have hnm : ∀ a, a ∈ (List.range n.toNatClampNeg).map (fun i => H.size + 1 + i) → a ∉ L := fun a ha h => by
    obtain ⟨i, -, rfl⟩ := List.mem_map.mp ha
    have := hlt _ h
    omega
  have hP0 : va_P D cl (X ++ va_pl L f) F.heap := hP.kept (fun k9 x hx => hold x.1 ((hP k9 x hx).lt))
  have hP1 : va_P D cl ((X ++ va_pl L f) ++ [(H.size, .inl (cA, n.toNatClampNeg, .inr (.inr (.inr (.inr (fun i => if i < n.toNatClampNeg then some (H.size + 1 + i) else none))))))]) F.heap := hP0.app (fun k9 x hx => by
    have h0 : k9 < 1 := (List.getElem?_eq_some_iff.mp hx).1
    rw [show k9 = 0 by omega] at hx
    cases hx
    exact f2)
  have hP2 : va_P D cl (((X ++ va_pl L f) ++ [(H.size, .inl (cA, n.toNatClampNeg, .inr (.inr (.inr (.inr (fun i => if i < n.toNatClampNeg then some (H.size + 1 + i) else none))))))]) ++ ((List.range n.toNatClampNeg).map (fun i => H.size + 1 + i)).map (fun a => (a, .inl (cy, z)))) F.heap := hP1.app (fun k9 x hx => by
    obtain ⟨a, ha, rfl⟩ := List.mem_map.mp (List.mem_of_getElem? hx)
    obtain ⟨i, hi, rfl⟩ := List.mem_map.mp ha
    exact hrow i (List.mem_range.mp hi))
  have hD2 : va_D A (((X ++ va_pl L f) ++ [(H.size, .inl (cA, n.toNatClampNeg, .inr (.inr (.inr (.inr (fun i => if i < n.toNatClampNeg then some (H.size + 1 + i) else none))))))]) ++ ((List.range n.toNatClampNeg).map (fun i => H.size + 1 + i)).map (fun a => (a, .inl (cy, z)))) := by
    have hD1 := hD.push (e := .inl (cA, n.toNatClampNeg, .inr (.inr (.inr (.inr (fun i => if i < n.toNatClampNeg then some (H.size + 1 + i) else none)))))) hP rfl (hA _ hS.1)
    generalize hW1 : (X ++ va_pl L f) ++ [(H.size, .inl (cA, n.toNatClampNeg, .inr (.inr (.inr (.inr (fun i => if i < n.toNatClampNeg then some (H.size + 1 + i) else none))))))] = W1 at hD1 hP1 ⊢
    have hle : ∀ (k9 : Nat) (x : Nat × va_E), W1[k9]? = some x → x.1 ≤ H.size := fun k9 x hx => by
      rw [← hW1] at hx
      by_cases hl : k9 < (X ++ va_pl L f).length
      · rw [List.getElem?_append_left hl] at hx
        exact Nat.le_of_lt ((hP k9 x hx).lt)
      · rw [List.getElem?_append_right (by omega)] at hx
        have h0 : k9 - (X ++ va_pl L f).length < 1 := (List.getElem?_eq_some_iff.mp hx).1
        rw [show k9 - (X ++ va_pl L f).length = 0 by omega] at hx
        cases hx
        exact Nat.le_refl _
    have hr : ∀ (k9 : Nat) (x : Nat × va_E), (((List.range n.toNatClampNeg).map (fun i => H.size + 1 + i)).map (fun a => ((a, .inl (cy, z)) : Nat × va_E)))[k9]? = some x → x.1 = H.size + 1 + k9 := fun k9 x hx => by
      rw [List.getElem?_map, List.getElem?_map] at hx
      by_cases h9 : k9 < n.toNatClampNeg
      · rw [List.getElem?_range h9] at hx
        cases hx
        rfl
      · have hn0 : (List.range n.toNatClampNeg)[k9]? = none := List.getElem?_eq_none (by rw [List.length_range]; omega)
        rw [hn0] at hx
        cases hx
    refine ⟨fun i j x y hi hj hxy => ?_, fun k9 x hx => ?_⟩
    · by_cases h1 : i < W1.length <;> by_cases h2 : j < W1.length
      · rw [List.getElem?_append_left h1] at hi
        rw [List.getElem?_append_left h2] at hj
        exact hD1.1 i j x y hi hj hxy
      · rw [List.getElem?_append_left h1] at hi
        rw [List.getElem?_append_right (by omega)] at hj
        have := hle _ _ hi
        have := hr _ _ hj
        omega
      · rw [List.getElem?_append_right (by omega)] at hi
        rw [List.getElem?_append_left h2] at hj
        have := hle _ _ hj
        have := hr _ _ hi
        omega
      · rw [List.getElem?_append_right (by omega)] at hi hj
        have := hr _ _ hi
        have := hr _ _ hj
        omega
    · by_cases h1 : k9 < W1.length
      · rw [List.getElem?_append_left h1] at hx
        exact hD1.2 k9 x hx
      · rw [List.getElem?_append_right (by omega)] at hx
        have := hr _ _ hx
        exact hA _ (by have := hS.1; omega)
  have hAr : ArrOfT s cA (.array ty) := fun N9 z9 => by
    obtain ⟨-, k9, hk9, cm9, hkk9⟩ := (hO 0 0 0).1
    exact ⟨(fun q hq => by cases hq), k9, hk9, cm9, hkk9⟩
  have hK2 : va_K D cl (tys ++ [(cA, .array ty)]) s := ⟨hK.1, fun k9 x hx => by
    by_cases hl : k9 < tys.length
    · rw [List.getElem?_append_left hl] at hx
      exact hK.2 k9 x hx
    · rw [List.getElem?_append_right (by omega)] at hx
      have h0 : k9 - tys.length < 1 := (List.getElem?_eq_some_iff.mp hx).1
      rw [show k9 - tys.length = 0 by omega] at hx
      cases hx
      exact ⟨hAr, fA⟩⟩
  obtain ⟨t, a1, b1⟩ := kk H.size (fun i => H.size + 1 + i) cA F.heap (fun i j _ _ h => by have h9 : H.size + 1 + i = H.size + 1 + j := h; omega) hnl hK2 (by rw [← vr_rows hnm]; exact vr_lay hP2) (by rw [← vr_rows hnm]; exact vr_layD hD2) ⟨by rw [f1]; have := hS.1; omega, fun x h1 h2 => (hold x (Nat.lt_of_lt_of_le h1 hS.1)).trans (hS.2.1 x h1 h2), hS.2.2⟩ F rfl X'
  refine ⟨t, step t ?_, b1⟩
  have e : T.heap.size = H.size := by rw [hT]
  rw [e]
  exact a1
end VGM
/-! ===== END ===== -/
end
section
/-! ===== a symbolic executor over bytecode: a value is a symbol and an offset, symbols lie within bounds, every cell is known ===== -/
/-- a value: 1 an int, 2 a long, 3 a reference (0 for null, else the number of its cell, from 1 on), 5 the script; the symbol; the offset -/
abbrev kc_V : Type := Nat × Nat × Int
/-- what a field or a component may hold: 1, 2, 3 as above; from; to -/
abbrev kc_F : Type := Nat × Int × Int
/-- a cell: 0 an object, 1 an array of small numbers, 2 of longs, 3 of references; its class; an array's components' type, its length, what its components are, but for the first, told one by one; an object's fields -/
abbrev kc_G : Type := Nat × Nat × FieldType × Nat × kc_F × List kc_F × List kc_V
abbrev kc_E : Type := List (Int × Int)
/-- bounds, locals, stack, cells, cells made, slots made -/
abbrev kc_S : Type := kc_E × List kc_V × List kc_V × List kc_G × Nat × Nat
def kc_lo (E : kc_E) (a : kc_V) : Int := (E.getD a.2.1 (0, 0)).1 + a.2.2
def kc_hi (E : kc_E) (a : kc_V) : Int := (E.getD a.2.1 (0, 0)).2 + a.2.2
/-- a number within bounds: as a constant, if they are one -/
def kc_mk (E : kc_E) (t : Nat) (lo hi : Int) : kc_E × kc_V := if lo = hi then (E, (t, 0, lo)) else (E ++ [(lo, hi)], (t, E.length, 0))
def kc_any (E : kc_E) : kc_E × kc_V := kc_mk E 1 (-2147483648) 2147483647
def kc_anyl (E : kc_E) : kc_E × kc_V := kc_mk E 2 (-9223372036854775808) 9223372036854775807
def kc_iadd (E : kc_E) (a b : kc_V) : kc_E × kc_V :=
  if (-2147483648) ≤ kc_lo E a + kc_lo E b ∧ kc_hi E a + kc_hi E b ≤ 2147483647 then
    (if kc_lo E b = kc_hi E b then (E, (1, a.2.1, a.2.2 + kc_lo E b)) else if kc_lo E a = kc_hi E a then (E, (1, b.2.1, b.2.2 + kc_lo E a)) else kc_mk E 1 (kc_lo E a + kc_lo E b) (kc_hi E a + kc_hi E b))
  else kc_any E
def kc_isub (E : kc_E) (a b : kc_V) : kc_E × kc_V :=
  if (-2147483648) ≤ kc_lo E a - kc_hi E b ∧ kc_hi E a - kc_lo E b ≤ 2147483647 then
    (if kc_lo E b = kc_hi E b then (E, (1, a.2.1, a.2.2 - kc_lo E b)) else if a.2.1 = b.2.1 then (E, (1, 0, a.2.2 - b.2.2)) else kc_mk E 1 (kc_lo E a - kc_hi E b) (kc_hi E a - kc_lo E b))
  else kc_any E
def kc_imul (E : kc_E) (a b : kc_V) : kc_E × kc_V :=
  if 0 ≤ kc_lo E a ∧ 0 ≤ kc_lo E b ∧ kc_hi E a * kc_hi E b ≤ 2147483647 then kc_mk E 1 (kc_lo E a * kc_lo E b) (kc_hi E a * kc_hi E b) else kc_any E
def kc_idiv (E : kc_E) (a b : kc_V) : kc_E × kc_V :=
  if 0 ≤ kc_lo E a ∧ 0 < kc_lo E b then (if kc_lo E b = kc_hi E b then kc_mk E 1 (kc_lo E a / kc_lo E b) (kc_hi E a / kc_lo E b) else kc_mk E 1 0 (kc_hi E a)) else kc_any E
def kc_irem (E : kc_E) (a b : kc_V) : kc_E × kc_V :=
  if 0 ≤ kc_lo E a ∧ 0 < kc_lo E b then kc_mk E 1 0 (if kc_hi E a ≤ kc_hi E b - 1 then kc_hi E a else kc_hi E b - 1) else kc_any E
def kc_iand (E : kc_E) (a b : kc_V) : kc_E × kc_V :=
  if 0 ≤ kc_lo E b then kc_mk E 1 0 (kc_hi E b) else if 0 ≤ kc_lo E a then kc_mk E 1 0 (kc_hi E a) else kc_any E
/-- constants are worked out, all else may be anything -/
def kc_con (f : Int32 → Int32 → Int32) (E : kc_E) (a b : kc_V) : kc_E × kc_V :=
  if kc_lo E a = kc_hi E a ∧ kc_lo E b = kc_hi E b then (E, (1, 0, (f (Int32.ofInt (kc_lo E a)) (Int32.ofInt (kc_lo E b))).toInt)) else kc_any E
/-- two ints on the stack, one comes -/
def kc_b32 (i : Instr) (E : kc_E) (a b : kc_V) : Option (kc_E × kc_V) := match i with
  | .iadd => some (kc_iadd E a b)
  | .isub => some (kc_isub E a b)
  | .imul => some (kc_imul E a b)
  | .idiv => if 0 < kc_lo E b ∨ kc_hi E b < 0 then some (kc_idiv E a b) else none
  | .irem => if 0 < kc_lo E b ∨ kc_hi E b < 0 then some (kc_irem E a b) else none
  | .iand => some (kc_iand E a b)
  | .ior => some (kc_con (· ||| ·) E a b)
  | .ixor => some (kc_con (· ^^^ ·) E a b)
  | .ishl => some (kc_con (fun x y => x <<< (y &&& 31)) E a b)
  | .ishr => some (kc_con (fun x y => x >>> (y &&& 31)) E a b)
  | .iushr => some (kc_con (fun x y => (x.toUInt32 >>> (y.toUInt32 &&& Int32.toUInt32 31)).toInt32) E a b)
  | _ => none
def kc_load (L : List kc_V) (t i : Nat) : Option kc_V := match L[i]? with
  | some a => if a.1 = t then some a else none
  | none => none
def kc_loadr (L : List kc_V) (i : Nat) : Option kc_V := match L[i]? with
  | some a => if a.1 = 3 ∨ a.1 = 5 then some a else none
  | none => none
/-- a local is written; a long that reached into it is gone -/
def kc_st1 (L : List kc_V) (i : Nat) (a : kc_V) : List kc_V := (match i with
  | 0 => L
  | j + 1 => match L[j]? with
    | some b => if b.1 = 2 then L.set j (0, 0, 0) else L
    | none => L).set i a
def kc_len : Instr → Nat
  | .iload _ => 2 | .lload _ => 2 | .aload _ => 2 | .istore _ => 2 | .lstore _ => 2 | .astore _ => 2
  | .bipush _ => 2 | .sipush _ => 3 | .iinc _ _ => 3
  | _ => 1
def kc_nz (E : kc_E) (b : kc_V) : Bool := decide (0 < kc_lo E b ∨ kc_hi E b < 0)
/-- two longs on the stack -/
def kc_isb64 (i : Instr) (E : kc_E) (b : kc_V) : Bool := match i with
  | .ladd => true | .lsub => true | .lmul => true | .land => true | .lor => true | .lxor => true
  | .ldiv => kc_nz E b | .lrem => kc_nz E b
  | _ => false
/-- an instruction that touches no cell -/
def kc_x1 (nL : Nat) (i : Instr) (E : kc_E) (L K : List kc_V) : Option (kc_E × List kc_V × List kc_V) := match i with
  | .iconst n => if -2147483648 ≤ n ∧ n ≤ 2147483647 then some (E, L, (1, 0, n) :: K) else none
  | .bipush n => if -128 ≤ n ∧ n ≤ 127 then some (E, L, (1, 0, n) :: K) else none
  | .sipush n => if -32768 ≤ n ∧ n ≤ 32767 then some (E, L, (1, 0, n) :: K) else none
  | .lconst n => some (E, L, (2, 0, ((n : Nat) : Int)) :: K)
  | .aconst_null => some (E, L, (3, 0, 0) :: K)
  | .iload j => (kc_load L 1 j).map fun a => (E, L, a :: K)
  | .iload_n j => (kc_load L 1 j).map fun a => (E, L, a :: K)
  | .lload j => (kc_load L 2 j).map fun a => (E, L, a :: K)
  | .lload_n j => (kc_load L 2 j).map fun a => (E, L, a :: K)
  | .aload j => (kc_loadr L j).map fun a => (E, L, a :: K)
  | .aload_n j => (kc_loadr L j).map fun a => (E, L, a :: K)
  | .istore j => match K with
    | (1, n, d) :: K' => if j < nL then some (E, kc_st1 L j (1, n, d), K') else none
    | _ => none
  | .istore_n j => match K with
    | (1, n, d) :: K' => if j < nL then some (E, kc_st1 L j (1, n, d), K') else none
    | _ => none
  | .astore j => match K with
    | (3, n, d) :: K' => if j < nL then some (E, kc_st1 L j (3, n, d), K') else none
    | _ => none
  | .astore_n j => match K with
    | (3, n, d) :: K' => if j < nL then some (E, kc_st1 L j (3, n, d), K') else none
    | _ => none
  | .lstore j => match K with
    | (2, n, d) :: K' => if j + 1 < nL then some (E, (kc_st1 L j (2, n, d)).set (j + 1) (0, 0, 0), K') else none
    | _ => none
  | .lstore_n j => match K with
    | (2, n, d) :: K' => if j + 1 < nL then some (E, (kc_st1 L j (2, n, d)).set (j + 1) (0, 0, 0), K') else none
    | _ => none
  | .iinc j n => if j < nL ∧ -2147483648 ≤ n ∧ n ≤ 2147483647 then (kc_load L 1 j).map fun a => ((kc_iadd E a (1, 0, n)).1, kc_st1 L j (kc_iadd E a (1, 0, n)).2, K) else none
  | .pop => match K with
    | a :: K' => if a.1 ≠ 2 then some (E, L, K') else none
    | _ => none
  | .dup => match K with
    | a :: K' => if a.1 ≠ 2 then some (E, L, a :: a :: K') else none
    | _ => none
  | .dup_x1 => match K with
    | a :: b :: K' => if a.1 ≠ 2 ∧ b.1 ≠ 2 then some (E, L, a :: b :: a :: K') else none
    | _ => none
  | .dup_x2 => match K with
    | a :: b :: d :: K' => if a.1 ≠ 2 ∧ b.1 ≠ 2 ∧ d.1 ≠ 2 then some (E, L, a :: b :: d :: a :: K') else none
    | _ => none
  | .dup2 => match K with
    | a :: b :: K' => if a.1 = 2 then some (E, L, a :: a :: b :: K') else if b.1 ≠ 2 then some (E, L, a :: b :: a :: b :: K') else none
    | _ => none
  | .ineg => match K with
    | (1, n, d) :: K' => some ((kc_isub E (1, 0, 0) (1, n, d)).1, L, (kc_isub E (1, 0, 0) (1, n, d)).2 :: K')
    | _ => none
  | .i2l => match K with
    | (1, n, d) :: K' => some (E, L, (2, n, d) :: K')
    | _ => none
  | .l2i => match K with
    | (2, n, d) :: K' => if -2147483648 ≤ kc_lo E (2, n, d) ∧ kc_hi E (2, n, d) ≤ 2147483647 then some (E, L, (1, n, d) :: K') else some ((kc_any E).1, L, (kc_any E).2 :: K')
    | _ => none
  | .i2b => match K with
    | (1, n, d) :: K' => some ((kc_mk E 1 (-128) 127).1, L, (kc_mk E 1 (-128) 127).2 :: K')
    | _ => none
  | .i2s => match K with
    | (1, n, d) :: K' => some ((kc_mk E 1 (-32768) 32767).1, L, (kc_mk E 1 (-32768) 32767).2 :: K')
    | _ => none
  | .lneg => match K with
    | (2, _, _) :: K' => some ((kc_anyl E).1, L, (kc_anyl E).2 :: K')
    | _ => none
  | .lshl => match K with
    | (1, _, _) :: (2, _, _) :: K' => some ((kc_anyl E).1, L, (kc_anyl E).2 :: K')
    | _ => none
  | .lshr => match K with
    | (1, _, _) :: (2, _, _) :: K' => some ((kc_anyl E).1, L, (kc_anyl E).2 :: K')
    | _ => none
  | .lushr => match K with
    | (1, _, _) :: (2, _, _) :: K' => some ((kc_anyl E).1, L, (kc_anyl E).2 :: K')
    | _ => none
  | i => match K with
    | (1, n2, d2) :: (1, n1, d1) :: K' => (kc_b32 i E (1, n1, d1) (1, n2, d2)).map fun r => (r.1, L, r.2 :: K')
    | (2, n2, d2) :: (2, _, _) :: K' => if kc_isb64 i E (2, n2, d2) = true then some ((kc_anyl E).1, L, (kc_anyl E).2 :: K') else none
    | _ => none
/-- a symbol's bounds, narrowed -/
def kc_ref (E : kc_E) (a : kc_V) (lo hi : Int) : kc_E := E.set a.2.1 (if (E.getD a.2.1 (0, 0)).1 ≤ lo - a.2.2 then lo - a.2.2 else (E.getD a.2.1 (0, 0)).1, if hi - a.2.2 ≤ (E.getD a.2.1 (0, 0)).2 then hi - a.2.2 else (E.getD a.2.1 (0, 0)).2)
def kc_emp (E : kc_E) (a : kc_V) : Bool := decide ((E.getD a.2.1 (0, 0)).2 < (E.getD a.2.1 (0, 0)).1)
def kc_dead (r : Nat) (a b : kc_V) : Bool := decide (a.2.1 = b.2.1) && match r with
  | 0 => decide (a.2.2 ≠ b.2.2) | 2 => decide (b.2.2 ≤ a.2.2) | 3 => decide (a.2.2 < b.2.2) | 4 => decide (a.2.2 ≤ b.2.2) | _ => decide (b.2.2 < a.2.2)
def kc_cn (r : Nat) (E : kc_E) (a b : kc_V) : kc_E := match r with
  | 0 => kc_ref (kc_ref E a (kc_lo E b) (kc_hi E b)) b (kc_lo E a) (kc_hi E a)
  | 2 => kc_ref (kc_ref E a (kc_lo E a) (kc_hi E b - 1)) b (kc_lo E a + 1) (kc_hi E b)
  | 3 => kc_ref (kc_ref E a (kc_lo E b) (kc_hi E a)) b (kc_lo E b) (kc_hi E a)
  | 4 => kc_ref (kc_ref E a (kc_lo E b + 1) (kc_hi E a)) b (kc_lo E b) (kc_hi E a - 1)
  | _ => kc_ref (kc_ref E a (kc_lo E a) (kc_hi E b)) b (kc_lo E a) (kc_hi E b)
abbrev kc_N : Type := Nat × kc_E × List kc_V
/-- where a comparison leads, if it can -/
def kc_s1 (r tgt : Nat) (E : kc_E) (a b : kc_V) (K : List kc_V) : List kc_N := if (kc_emp (kc_cn r E a b) a || kc_emp (kc_cn r E a b) b || kc_dead r a b) = true then [] else [(tgt, kc_cn r E a b, K)]
def kc_sc (r tgt : Nat) (E : kc_E) (a b : kc_V) (K : List kc_V) : List kc_N := if r = 1 then kc_s1 2 tgt E a b K ++ kc_s1 4 tgt E a b K else kc_s1 r tgt E a b K
def kc_neg (r : Nat) : Nat := match r with
  | 0 => 1 | 1 => 0 | 2 => 3 | 3 => 2 | 4 => 5 | _ => 4
def kc_code (q : Jvm.ClassFile.Cond) : Nat := match q with
  | .eq => 0 | .ne => 1 | .lt => 2 | .ge => 3 | .gt => 4 | .le => 5
/-- a switch's cases from k on -/
def kc_tab (pc : Nat) (E : kc_E) (a : kc_V) (K : List kc_V) : Int → List Int → List kc_N
  | _, [] => []
  | k, o :: os => kc_s1 0 ((pc : Int) + o).toNat E a (1, 0, k) K ++ kc_tab pc E a K (k + 1) os
def kc_lks (pc : Nat) (E : kc_E) (a : kc_V) (K : List kc_V) : List (Int × Int) → List kc_N
  | [] => []
  | o :: os => kc_s1 0 ((pc : Int) + o.2).toNat E a (1, 0, o.1) K ++ kc_lks pc E a K os
def kc_up (pc : Nat) (o : Int) : Bool := decide (0 ≤ (pc : Int) + o)
/-- .. and none of them -/
def kc_lkn (tgt : Nat) (E : kc_E) (a : kc_V) (K : List kc_V) : List (Int × Int) → List kc_N
  | [] => [(tgt, E, K)]
  | o :: os => (kc_sc 1 tgt E a (1, 0, o.1) K).flatMap (fun q => kc_lkn tgt q.2.1 a K os)
/-- an instruction that goes elsewhere -/
def kc_x2 (i : Instr) (pc : Nat) (E : kc_E) (K : List kc_V) : Option (List kc_N) := match i with
  | .goto o => if kc_up pc o = true then some [(((pc : Int) + o).toNat, E, K)] else none
  | .ifCond q o => match K with
    | (1, n, d) :: K' => if kc_up pc o = true then some (kc_sc (kc_code q) ((pc : Int) + o).toNat E (1, n, d) (1, 0, 0) K' ++ kc_sc (kc_neg (kc_code q)) (pc + 3) E (1, n, d) (1, 0, 0) K') else none
    | _ => none
  | .if_icmp q o => match K with
    | (1, n2, d2) :: (1, n1, d1) :: K' => if kc_up pc o = true then some (kc_sc (kc_code q) ((pc : Int) + o).toNat E (1, n1, d1) (1, n2, d2) K' ++ kc_sc (kc_neg (kc_code q)) (pc + 3) E (1, n1, d1) (1, n2, d2) K') else none
    | _ => none
  | .ifnull o => match K with
    | (3, n, d) :: K' => if kc_up pc o = true then some (kc_s1 0 ((pc : Int) + o).toNat E (3, n, d) (3, 0, 0) K' ++ kc_s1 4 (pc + 3) E (3, n, d) (3, 0, 0) K') else none
    | _ => none
  | .ifnonnull o => match K with
    | (3, n, d) :: K' => if kc_up pc o = true then some (kc_s1 4 ((pc : Int) + o).toNat E (3, n, d) (3, 0, 0) K' ++ kc_s1 0 (pc + 3) E (3, n, d) (3, 0, 0) K') else none
    | _ => none
  | .tableswitch o lo hi os => match K with
    | (1, n, d) :: K' => if (kc_up pc o && os.toList.all (kc_up pc) && decide ((os.size : Int) = hi - lo + 1)) = true then some (kc_tab pc E (1, n, d) K' lo os.toList ++ (kc_s1 2 ((pc : Int) + o).toNat E (1, n, d) (1, 0, lo) K' ++ kc_s1 4 ((pc : Int) + o).toNat E (1, n, d) (1, 0, hi) K')) else none
    | _ => none
  | .lookupswitch o ps => match K with
    | (1, n, d) :: K' => if (kc_up pc o && ps.toList.all (fun q => kc_up pc q.2) && (ps.toList.zip (ps.toList.drop 1)).all (fun (a, next) => a.1 < next.1)) = true then some (kc_lks pc E (1, n, d) K' ps.toList ++ kc_lkn ((pc : Int) + o).toNat E (1, n, d) K' ps.toList) else none
    | _ => none
  | _ => none
/-- two longs compared, and a jump by it -/
def kc_x3 (j : Instr) (pc : Nat) (E : kc_E) (K : List kc_V) : Option (List kc_N) := match j with
  | .ifCond q o => match K with
    | (2, n2, d2) :: (2, n1, d1) :: K' => if kc_up (pc + 1) o = true then some (kc_sc (kc_code q) (((pc + 1 : Nat) : Int) + o).toNat E (2, n1, d1) (2, n2, d2) K' ++ kc_sc (kc_neg (kc_code q)) (pc + 4) E (2, n1, d1) (2, n2, d2) K') else none
    | _ => none
  | _ => none
/-- the number of a cell that a value names, if it is known (from 0 on), and the cell -/
def kc_cell (Hs : List kc_G) (E : kc_E) (a : kc_V) : Option (Nat × kc_G) := if kc_lo E a = kc_hi E a ∧ 1 ≤ kc_lo E a then (Hs[(kc_lo E a - 1).toNat]?).map fun g => ((kc_lo E a - 1).toNat, g) else none
/-- what is read of f -/
def kc_rd (E : kc_E) (f : kc_F) : kc_E × kc_V := kc_mk E f.1 f.2.1 f.2.2
def kc_fit (ty : FieldType) (f : kc_F) : Bool := match ty with
  | .int => decide (f.1 = 1)
  | .boolean => decide (f.1 = 1 ∧ 0 ≤ f.2.1 ∧ f.2.2 ≤ 1)
  | .long => decide (f.1 = 2)
  | .object _ => decide (f.1 = 3)
  | .array _ => decide (f.1 = 3)
  | _ => false
def kc_fv (E : kc_E) (a : kc_V) : kc_F := (a.1, kc_lo E a, kc_hi E a)
def kc_join (f g : kc_F) : kc_F := (f.1, if f.2.1 ≤ g.2.1 then f.2.1 else g.2.1, if g.2.2 ≤ f.2.2 then f.2.2 else g.2.2)
def kc_joins (f : kc_F) (fs : List kc_F) : kc_F := fs.foldl kc_join f
/-- is f within g? -/
def kc_sub (f g : kc_F) : Bool := decide (f.1 = g.1 ∧ g.2.1 ≤ f.2.1 ∧ f.2.2 ≤ g.2.2)
def kc_dft (ty : FieldType) : kc_V := match ty with
  | .long => (2, 0, 0)
  | .object _ => (3, 0, 0) | .array _ => (3, 0, 0)
  | _ => (1, 0, 0)
def kc_get (fl : Nat → Option (Nat × Nat)) (ix : Nat) (E : kc_E) (K : List kc_V) (Hs : List kc_G) : Option (List kc_V) := match K with
  | (3, n, d) :: K' => match kc_cell Hs E (3, n, d), fl ix with
    | some (_, (0, ci, _, _, _, _, vs)), some (ci', k) => match vs[k]? with
      | some a => if ci = ci' then some (a :: K') else none
      | none => none
    | _, _ => none
  | _ => none
def kc_put (fl : Nat → Option (Nat × Nat)) (fd : Nat → List (FieldType × Bool)) (ini : Bool) (oci ix : Nat) (E : kc_E) (K : List kc_V) (Hs : List kc_G) : Option (List kc_V × List kc_G) := match K with
  | a :: (3, n, d) :: K' => match kc_cell Hs E (3, n, d), fl ix with
    | some (r, (0, ci, ty, len, f0, fs, vs)), some (ci', k) => match (fd ci)[k]? with
      | some z => if (decide (ci = ci') && kc_fit z.1 (kc_fv E a) && decide (k < vs.length) && (!z.2 || (ini && decide (ci = oci)))) = true then some (K', Hs.set r (0, ci, ty, len, f0, fs, vs.set k a)) else none
      | none => none
    | _, _ => none
  | _ => none
def kc_ix (E : kc_E) (i : kc_V) (n : Nat) : Bool := decide (0 ≤ kc_lo E i ∧ kc_hi E i < (n : Int))
def kc_alk (ins : Instr) (kd : Nat) (ty : FieldType) : Bool := match ins with
  | .iaload => decide (kd = 1 ∧ ty = .int)
  | .baload => decide (kd = 1 ∧ (ty = .byte ∨ ty = .boolean))
  | .saload => decide (kd = 1 ∧ ty = .short)
  | .laload => decide (kd = 2)
  | .aaload => decide (kd = 3 ∧ ty.isReference = true)
  | _ => false
/-- what is read at i -/
def kc_at (E : kc_E) (i : kc_V) (d : kc_F) (fs : List kc_F) : kc_F := if kc_lo E i = kc_hi E i then fs.getD (kc_lo E i).toNat d else kc_joins d fs
def kc_ald (ins : Instr) (E : kc_E) (K : List kc_V) (Hs : List kc_G) : Option (kc_E × List kc_V) := match K with
  | (1, ni, di) :: (3, n, d) :: K' => match kc_cell Hs E (3, n, d) with
    | some (_, (kd, _, ty, len, f0, fs, _)) => if (kc_alk ins kd ty && kc_ix E (1, ni, di) len && decide (f0.1 = kd)) = true then some ((kc_rd E (kc_at E (1, ni, di) f0 fs)).1, (kc_rd E (kc_at E (1, ni, di) f0 fs)).2 :: K') else none
    | none => none
  | (1, ni, di) :: (5, _, _) :: K' => match ins with
    | .iaload => if kc_lo E (1, ni, di) = kc_hi E (1, ni, di) ∧ 0 ≤ kc_lo E (1, ni, di) ∧ kc_lo E (1, ni, di) < kc_lo E (1, 1, 0) then some (E, (1, 2 + (kc_lo E (1, ni, di)).toNat, 0) :: K') else none
    | _ => none
  | _ => none
def kc_aln (E : kc_E) (K : List kc_V) (Hs : List kc_G) : Option (kc_E × List kc_V) := match K with
  | (3, n, d) :: K' => match kc_cell Hs E (3, n, d) with
    | some (_, (kd, _, _, len, _)) => if kd ≠ 0 ∧ len ≤ 2147483647 then some (E, (1, 0, (len : Int)) :: K') else none
    | none => none
  | (5, _, _) :: K' => some (E, (1, 1, 0) :: K')
  | _ => none
def kc_ask (ins : Instr) (kd : Nat) (ty : FieldType) (f : kc_F) : Bool := match ins with
  | .iastore => decide (kd = 1 ∧ ty = .int ∧ f.1 = 1)
  | .bastore => decide (kd = 1 ∧ ((ty = .byte ∧ f.1 = 1 ∧ -128 ≤ f.2.1 ∧ f.2.2 ≤ 127) ∨ (ty = .boolean ∧ f.1 = 1 ∧ 0 ≤ f.2.1 ∧ f.2.2 ≤ 1)))
  | .sastore => decide (kd = 1 ∧ ty = .short ∧ f.1 = 1 ∧ -32768 ≤ f.2.1 ∧ f.2.2 ≤ 32767)
  | .lastore => decide (kd = 2 ∧ f.1 = 2)
  | _ => false
/-- what is there behind a write at i -/
def kc_wr (E : kc_E) (i : kc_V) (d : kc_F) (fs : List kc_F) (f : kc_F) : kc_F × List kc_F :=
  if kc_lo E i = kc_hi E i then
    (if (kc_lo E i).toNat < fs.length then (d, fs.set (kc_lo E i).toNat f) else if kc_sub f d = true then (d, fs) else if (kc_lo E i).toNat ≤ 40 then (d, fs ++ List.replicate ((kc_lo E i).toNat - fs.length) d ++ [f]) else (kc_join d f, fs))
  else (if kc_sub f d = true ∧ fs = [] then (d, fs) else (kc_join (kc_joins d fs) f, []))
def kc_ast (ins : Instr) (E : kc_E) (K : List kc_V) (Hs : List kc_G) : Option (List kc_V × List kc_G) := match K with
  | a :: (1, ni, di) :: (3, n, d) :: K' => match kc_cell Hs E (3, n, d) with
    | some (r, (kd, ci, ty, len, f0, fs, vs)) => if (kc_ask ins kd ty (kc_fv E a) && kc_ix E (1, ni, di) len && decide (f0.1 = kd)) = true then some (K', Hs.set r (kd, ci, ty, len, (kc_wr E (1, ni, di) f0 fs (kc_fv E a)).1, (kc_wr E (1, ni, di) f0 fs (kc_fv E a)).2, vs)) else none
    | none => none
  | _ => none
/-- a reference put into an array: its cell's class is the component's -/
def kc_aas (cn : Nat → FieldType) (E : kc_E) (K : List kc_V) (Hs : List kc_G) : Option (List kc_V × List kc_G) := match K with
  | (3, na, da) :: (1, ni, di) :: (3, n, d) :: K' => match kc_cell Hs E (3, n, d), kc_cell Hs E (3, na, da) with
    | some (r, (3, ci, ty, len, f0, fs, vs)), some (_, (0, ca, _)) => if (decide (ty = cn ca) && kc_ix E (1, ni, di) len && decide (f0.1 = 3)) = true then some (K', Hs.set r (3, ci, ty, len, (kc_wr E (1, ni, di) f0 fs (kc_fv E (3, na, da))).1, (kc_wr E (1, ni, di) f0 fs (kc_fv E (3, na, da))).2, vs)) else none
    | _, _ => none
  | _ => none
def kc_new (nw : Nat → Option Nat) (fd : Nat → List (FieldType × Bool)) (RC RS ix : Nat) (E : kc_E) (K : List kc_V) (Hs : List kc_G) (cs ss : Nat) : Option (List kc_V × List kc_G × Nat × Nat) := match nw ix with
  | some ci => if cs + 1 ≤ RC ∧ ss + (fd ci).length ≤ RS then some ((3, 0, ((Hs.length + 1 : Nat) : Int)) :: K, Hs ++ [(0, ci, .int, 0, (0, 0, 0), [], (fd ci).map (fun z => kc_dft z.1))], cs + 1, ss + (fd ci).length) else none
  | none => none
def kc_nar (RC RS : Nat) (at0 : ArrayType) (E : kc_E) (K : List kc_V) (Hs : List kc_G) (cs ss : Nat) : Option (List kc_V × List kc_G × Nat × Nat) := match K with
  | (1, n, d) :: K' => if kc_lo E (1, n, d) = kc_hi E (1, n, d) ∧ 0 ≤ kc_lo E (1, n, d) ∧ kc_lo E (1, n, d) ≤ 60000000 ∧ cs + 1 ≤ RC ∧ ss + (kc_lo E (1, n, d)).toNat ≤ RS then
      (match at0 with
      | .int => some ((3, 0, ((Hs.length + 1 : Nat) : Int)) :: K', Hs ++ [(1, 0, .int, (kc_lo E (1, n, d)).toNat, (1, 0, 0), [], [])], cs + 1, ss + (kc_lo E (1, n, d)).toNat)
      | .byte => some ((3, 0, ((Hs.length + 1 : Nat) : Int)) :: K', Hs ++ [(1, 0, .byte, (kc_lo E (1, n, d)).toNat, (1, 0, 0), [], [])], cs + 1, ss + (kc_lo E (1, n, d)).toNat)
      | .short => some ((3, 0, ((Hs.length + 1 : Nat) : Int)) :: K', Hs ++ [(1, 0, .short, (kc_lo E (1, n, d)).toNat, (1, 0, 0), [], [])], cs + 1, ss + (kc_lo E (1, n, d)).toNat)
      | .boolean => some ((3, 0, ((Hs.length + 1 : Nat) : Int)) :: K', Hs ++ [(1, 0, .boolean, (kc_lo E (1, n, d)).toNat, (1, 0, 0), [], [])], cs + 1, ss + (kc_lo E (1, n, d)).toNat)
      | .long => some ((3, 0, ((Hs.length + 1 : Nat) : Int)) :: K', Hs ++ [(2, 0, .long, (kc_lo E (1, n, d)).toNat, (2, 0, 0), [], [])], cs + 1, ss + (kc_lo E (1, n, d)).toNat)
      | _ => none)
      else none
  | _ => none
def kc_ana (aw : Nat → Option FieldType) (RC RS ix : Nat) (E : kc_E) (K : List kc_V) (Hs : List kc_G) (cs ss : Nat) : Option (List kc_V × List kc_G × Nat × Nat) := match K, aw ix with
  | (1, n, d) :: K', some ty => if kc_lo E (1, n, d) = kc_hi E (1, n, d) ∧ 0 ≤ kc_lo E (1, n, d) ∧ kc_lo E (1, n, d) ≤ 60000000 ∧ cs + 1 ≤ RC ∧ ss + (kc_lo E (1, n, d)).toNat ≤ RS then
      some ((3, 0, ((Hs.length + 1 : Nat) : Int)) :: K', Hs ++ [(3, 0, ty, (kc_lo E (1, n, d)).toNat, (3, 0, 0), [], [])], cs + 1, ss + (kc_lo E (1, n, d)).toNat) else none
  | _, _ => none
/-- an array of arrays of ints -/
def kc_mna (mw : Nat → Bool) (RC RS ix : Nat) (E : kc_E) (K : List kc_V) (Hs : List kc_G) (cs ss : Nat) : Option (List kc_V × List kc_G × Nat × Nat) := match K with
  | (1, n2, d2) :: (1, n1, d1) :: K' => if mw ix = true ∧ kc_lo E (1, n1, d1) = kc_hi E (1, n1, d1) ∧ 0 ≤ kc_lo E (1, n1, d1) ∧ kc_lo E (1, n1, d1) ≤ 60000 ∧ kc_lo E (1, n2, d2) = kc_hi E (1, n2, d2) ∧ 0 ≤ kc_lo E (1, n2, d2) ∧ kc_lo E (1, n2, d2) ≤ 60000 ∧ cs + 1 + (kc_lo E (1, n1, d1)).toNat ≤ RC ∧ ss + (kc_lo E (1, n1, d1)).toNat + (kc_lo E (1, n1, d1)).toNat * (kc_lo E (1, n2, d2)).toNat ≤ RS then
      some ((3, 0, ((Hs.length + 1 : Nat) : Int)) :: K', Hs ++ [(3, 0, .array .int, (kc_lo E (1, n1, d1)).toNat, (3, 0, 0), (List.range (kc_lo E (1, n1, d1)).toNat).map (fun j => (3, ((Hs.length + 2 + j : Nat) : Int), ((Hs.length + 2 + j : Nat) : Int))), [])] ++ List.replicate (kc_lo E (1, n1, d1)).toNat (1, 0, .int, (kc_lo E (1, n2, d2)).toNat, (1, 0, 0), [], []), cs + 1 + (kc_lo E (1, n1, d1)).toNat, ss + (kc_lo E (1, n1, d1)).toNat + (kc_lo E (1, n1, d1)).toNat * (kc_lo E (1, n2, d2)).toNat) else none
  | _ => none
def kc_cat (K : List kc_V) : Nat := (K.map fun a => if a.1 = 2 then 2 else 1).sum
/-- one state for each number that an index may be -/
def kc_spl (pc : Nat) (E : kc_E) (i : kc_V) (K : List kc_V) : List kc_N := (List.range (kc_hi E i - kc_lo E i + 1).toNat).flatMap (fun (j : Nat) => kc_s1 0 pc E i (1, 0, kc_lo E i + (j : Int)) K)
/-- where an array of references is read or written at a place that isn't known -/
def kc_x4 (ins : Instr) (pc : Nat) (E : kc_E) (K : List kc_V) : Option (List kc_N) := match ins, K with
  | .aaload, (1, n, d) :: K' => if kc_lo E (1, n, d) = kc_hi E (1, n, d) ∨ 63 < kc_hi E (1, n, d) - kc_lo E (1, n, d) then none else some (kc_spl pc E (1, n, d) ((1, n, d) :: K'))
  | .aastore, a :: (1, n, d) :: K' => if kc_lo E (1, n, d) = kc_hi E (1, n, d) ∨ 63 < kc_hi E (1, n, d) - kc_lo E (1, n, d) then none else some (kc_spl pc E (1, n, d) (a :: (1, n, d) :: K'))
  | _, _ => none
/-- ints copied from one array to another -/
def kc_acp (E : kc_E) (K : List kc_V) (Hs : List kc_G) : Option (List kc_V × List kc_G) := match K with
  | (1, nl, dl) :: (1, nq, dq) :: (3, nd, dd) :: (1, np, dp) :: (3, ns, ds) :: K' => match kc_cell Hs E (3, ns, ds), kc_cell Hs E (3, nd, dd) with
    | some (_, (1, _, .int, len, f0, fs, _)), some (r, (1, ci, .int, len', f0', fs', vs')) =>
      if f0.1 = 1 ∧ f0'.1 = 1 ∧ kc_cat K' ≤ 8 ∧ 0 ≤ kc_lo E (1, np, dp) ∧ 0 ≤ kc_lo E (1, nq, dq) ∧ 0 ≤ kc_lo E (1, nl, dl) ∧ kc_hi E (1, np, dp) + kc_hi E (1, nl, dl) ≤ (len : Int) ∧ kc_hi E (1, nq, dq) + kc_hi E (1, nl, dl) ≤ (len' : Int) then
        some (K', Hs.set r (if kc_sub (kc_joins f0 fs) f0' = true ∧ fs' = [] then (1, ci, .int, len', f0', fs', vs') else (1, ci, .int, len', kc_join (kc_joins f0' fs') (kc_joins f0 fs), [], vs'))) else none
    | _, _ => none
  | _ => none
/-- the greater, or the lesser, of two ints -/
def kc_mm (mx : Bool) (E : kc_E) (a b : kc_V) : kc_E × kc_V := match mx with
  | true => if kc_hi E b ≤ kc_lo E a then (E, a) else if kc_hi E a ≤ kc_lo E b then (E, b) else kc_mk E 1 (if kc_lo E a ≤ kc_lo E b then kc_lo E b else kc_lo E a) (if kc_hi E a ≤ kc_hi E b then kc_hi E b else kc_hi E a)
  | false => if kc_hi E a ≤ kc_lo E b then (E, a) else if kc_hi E b ≤ kc_lo E a then (E, b) else kc_mk E 1 (if kc_lo E a ≤ kc_lo E b then kc_lo E a else kc_lo E b) (if kc_hi E a ≤ kc_hi E b then kc_hi E a else kc_hi E b)
end
section
/-- a method: how many locals, the types of its arguments, cells and slots that it may make, frames and locals of those that it calls, its class, is it a constructor -/
abbrev kc_M : Type := Nat × List Nat × Nat × Nat × Nat × Nat × Nat × Bool
/-- what is widened at a loop's head: locals (the first counts up), locals forgotten, fields, arrays -/
abbrev kc_A : Type := List (Nat × Int × Int) × List Nat × List (Nat × Nat × Int × Int) × List (Nat × kc_F)
/-- the tables: instructions, methods, links to methods, fields, classes made, arrays of references, arrays of arrays, constants, a class' fields, a class as a component, loops, what a method answers (0 nothing, 1 an int, 2 a long, 3 a reference, 4 a boolean) -/
abbrev kc_T : Type := (Nat → Nat → Option (Instr × Nat)) × (Nat → kc_M) × (Nat → Nat → Option (Nat × Nat)) × (Nat → Nat → Option (Nat × Nat)) × (Nat → Nat → Option Nat) × (Nat → Nat → Option FieldType) × (Nat → Nat → Bool) × (Nat → Nat → Option (Nat × Int)) × (Nat → List (FieldType × Bool)) × (Nat → FieldType) × (Nat → Nat → Option kc_A) × (Nat → Nat)
def kc_Tcd (T : kc_T) : Nat → Nat → Option (Instr × Nat) := T.1
def kc_Tmi (T : kc_T) : Nat → kc_M := T.2.1
def kc_Tlk (T : kc_T) : Nat → Nat → Option (Nat × Nat) := T.2.2.1
def kc_Tfl (T : kc_T) : Nat → Nat → Option (Nat × Nat) := T.2.2.2.1
def kc_Tnw (T : kc_T) : Nat → Nat → Option Nat := T.2.2.2.2.1
def kc_Taw (T : kc_T) : Nat → Nat → Option FieldType := T.2.2.2.2.2.1
def kc_Tmw (T : kc_T) : Nat → Nat → Bool := T.2.2.2.2.2.2.1
def kc_Tkw (T : kc_T) : Nat → Nat → Option (Nat × Int) := T.2.2.2.2.2.2.2.1
def kc_Tfd (T : kc_T) : Nat → List (FieldType × Bool) := T.2.2.2.2.2.2.2.2.1
def kc_Tcn (T : kc_T) : Nat → FieldType := T.2.2.2.2.2.2.2.2.2.1
def kc_Thd (T : kc_T) : Nat → Nat → Option kc_A := T.2.2.2.2.2.2.2.2.2.2.1
def kc_Trk (T : kc_T) : Nat → Nat := T.2.2.2.2.2.2.2.2.2.2.2
def kc_ldc (kw : Nat → Option (Nat × Int)) (t ix : Nat) (K : List kc_V) : Option (List kc_V) := match kw ix with
  | some (t', v) => if t' = t then some ((t, 0, v) :: K) else none
  | none => none
/-- an instruction that is no call and no return, and no lcmp -/
def kc_s0 (T : kc_T) (M : kc_M) (i : Instr) (n pc : Nat) (E : kc_E) (L K : List kc_V) (Hs : List kc_G) (cs ss : Nat) : Option (List (Nat × kc_S)) := match i with
  | .getfield ix => (kc_get (kc_Tfl T M.2.2.2.2.2.2.1) ix E K Hs).map fun r => [(pc + 3, E, L, r, Hs, cs, ss)]
  | .putfield ix => (kc_put (kc_Tfl T M.2.2.2.2.2.2.1) (kc_Tfd T) M.2.2.2.2.2.2.2 M.2.2.2.2.2.2.1 ix E K Hs).map fun r => [(pc + 3, E, L, r.1, r.2, cs, ss)]
  | .iaload => (kc_ald .iaload E K Hs).map fun r => [(pc + 1, r.1, L, r.2, Hs, cs, ss)]
  | .baload => (kc_ald .baload E K Hs).map fun r => [(pc + 1, r.1, L, r.2, Hs, cs, ss)]
  | .saload => (kc_ald .saload E K Hs).map fun r => [(pc + 1, r.1, L, r.2, Hs, cs, ss)]
  | .laload => (kc_ald .laload E K Hs).map fun r => [(pc + 1, r.1, L, r.2, Hs, cs, ss)]
  | .aaload => match kc_x4 .aaload pc E K with
    | some r => some (r.map fun q => (q.1, q.2.1, L, q.2.2, Hs, cs, ss))
    | none => (kc_ald .aaload E K Hs).map fun r => [(pc + 1, r.1, L, r.2, Hs, cs, ss)]
  | .arraylength => (kc_aln E K Hs).map fun r => [(pc + 1, r.1, L, r.2, Hs, cs, ss)]
  | .iastore => (kc_ast .iastore E K Hs).map fun r => [(pc + 1, E, L, r.1, r.2, cs, ss)]
  | .bastore => (kc_ast .bastore E K Hs).map fun r => [(pc + 1, E, L, r.1, r.2, cs, ss)]
  | .sastore => (kc_ast .sastore E K Hs).map fun r => [(pc + 1, E, L, r.1, r.2, cs, ss)]
  | .lastore => (kc_ast .lastore E K Hs).map fun r => [(pc + 1, E, L, r.1, r.2, cs, ss)]
  | .aastore => match kc_x4 .aastore pc E K with
    | some r => some (r.map fun q => (q.1, q.2.1, L, q.2.2, Hs, cs, ss))
    | none => (kc_aas (kc_Tcn T) E K Hs).map fun r => [(pc + 1, E, L, r.1, r.2, cs, ss)]
  | .new ix => (kc_new (kc_Tnw T M.2.2.2.2.2.2.1) (kc_Tfd T) M.2.2.1 M.2.2.2.1 ix E K Hs cs ss).map fun r => [(pc + 3, E, L, r.1, r.2.1, r.2.2.1, r.2.2.2)]
  | .newarray t => (kc_nar M.2.2.1 M.2.2.2.1 t E K Hs cs ss).map fun r => [(pc + 2, E, L, r.1, r.2.1, r.2.2.1, r.2.2.2)]
  | .anewarray ix => (kc_ana (kc_Taw T M.2.2.2.2.2.2.1) M.2.2.1 M.2.2.2.1 ix E K Hs cs ss).map fun r => [(pc + 3, E, L, r.1, r.2.1, r.2.2.1, r.2.2.2)]
  | .multianewarray ix _ => (kc_mna (kc_Tmw T M.2.2.2.2.2.2.1) M.2.2.1 M.2.2.2.1 ix E K Hs cs ss).map fun r => [(pc + 4, E, L, r.1, r.2.1, r.2.2.1, r.2.2.2)]
  | .ldc ix => (kc_ldc (kc_Tkw T M.2.2.2.2.2.2.1) 1 ix K).map fun r => [(pc + 2, E, L, r, Hs, cs, ss)]
  | .ldc_w ix => (kc_ldc (kc_Tkw T M.2.2.2.2.2.2.1) 1 ix K).map fun r => [(pc + 3, E, L, r, Hs, cs, ss)]
  | .ldc2_w ix => (kc_ldc (kc_Tkw T M.2.2.2.2.2.2.1) 2 ix K).map fun r => [(pc + 3, E, L, r, Hs, cs, ss)]
  | .goto o => (kc_x2 (.goto o) pc E K).map fun r => r.map fun q => (q.1, q.2.1, L, q.2.2, Hs, cs, ss)
  | .ifCond c o => (kc_x2 (.ifCond c o) pc E K).map fun r => r.map fun q => (q.1, q.2.1, L, q.2.2, Hs, cs, ss)
  | .if_icmp c o => (kc_x2 (.if_icmp c o) pc E K).map fun r => r.map fun q => (q.1, q.2.1, L, q.2.2, Hs, cs, ss)
  | .ifnull o => (kc_x2 (.ifnull o) pc E K).map fun r => r.map fun q => (q.1, q.2.1, L, q.2.2, Hs, cs, ss)
  | .ifnonnull o => (kc_x2 (.ifnonnull o) pc E K).map fun r => r.map fun q => (q.1, q.2.1, L, q.2.2, Hs, cs, ss)
  | .tableswitch d lo hi os => (kc_x2 (.tableswitch d lo hi os) pc E K).map fun r => r.map fun q => (q.1, q.2.1, L, q.2.2, Hs, cs, ss)
  | .lookupswitch d ps => (kc_x2 (.lookupswitch d ps) pc E K).map fun r => r.map fun q => (q.1, q.2.1, L, q.2.2, Hs, cs, ss)
  | i => if n = kc_len i then (kc_x1 M.1 i E L K).map fun r => [(pc + n, r.1, r.2.1, r.2.2, Hs, cs, ss)] else (match i with
    | .iinc j d => if n = 6 then (kc_x1 M.1 (.iinc j d) E L K).map fun r => [(pc + 6, r.1, r.2.1, r.2.2, Hs, cs, ss)] else none
    | _ => none)
def kc_lenok (i : Instr) (n : Nat) : Bool := match i with
  | .getfield _ => Nat.beq n 3 | .putfield _ => Nat.beq n 3
  | .iaload => Nat.beq n 1 | .baload => Nat.beq n 1 | .saload => Nat.beq n 1 | .laload => Nat.beq n 1 | .aaload => Nat.beq n 1 | .arraylength => Nat.beq n 1
  | .iastore => Nat.beq n 1 | .bastore => Nat.beq n 1 | .sastore => Nat.beq n 1 | .lastore => Nat.beq n 1 | .aastore => Nat.beq n 1
  | .new _ => Nat.beq n 3 | .newarray _ => Nat.beq n 2 | .anewarray _ => Nat.beq n 3 | .multianewarray _ d => Nat.beq n 4 && Nat.beq d 2
  | .ldc _ => Nat.beq n 2 | .ldc_w _ => Nat.beq n 3 | .ldc2_w _ => Nat.beq n 3
  | .goto _ => Nat.beq n 3 | .ifCond _ _ => Nat.beq n 3 | .if_icmp _ _ => Nat.beq n 3 | .ifnull _ => Nat.beq n 3 | .ifnonnull _ => Nat.beq n 3
  | _ => true
def kc_step (T : kc_T) (y pc : Nat) (i : Instr) (n : Nat) (S : kc_S) : Option (List (Nat × kc_S)) := match i with
  | .lcmp => match kc_Tcd T y (pc + 1) with
    | some (j, m) => if n = 1 ∧ m = 3 then (kc_x3 j pc S.1 S.2.2.1).map fun r => r.map fun q => (q.1, q.2.1, S.2.1, q.2.2, S.2.2.2) else none
    | none => none
  | i => if kc_lenok i n = true then kc_s0 T (kc_Tmi T y) i n pc S.1 S.2.1 S.2.2.1 S.2.2.2.1 S.2.2.2.2.1 S.2.2.2.2.2 else none
/-- arguments off the stack (the last one on top), by their types from the last on -/
def kc_args : List Nat → List kc_V → List kc_V → Option (List kc_V × List kc_V)
  | [], K, as => some (as, K)
  | t :: ts, a :: K, as => if a.1 = t then kc_args ts K (a :: as) else none
  | _ :: _, [], _ => none
/-- locals at a method's start -/
def kc_loc0 : List kc_V → List kc_V
  | [] => []
  | a :: as => if a.1 = 2 then a :: (0, 0, 0) :: kc_loc0 as else a :: kc_loc0 as
/-- a method's end, as its caller sees it -/
def kc_back (pc : Nat) (L K : List kc_V) (cs ss : Nat) (q : Nat × kc_S) : Nat × kc_S := (pc + 3, q.2.1, L, q.2.2.2.1 ++ K, q.2.2.2.2.1, cs, ss)
def kc_widL (E : kc_E) (L : List kc_V) : List (Nat × Int × Int) → kc_E × List kc_V
  | [] => (E, L)
  | q :: qs => kc_widL (E ++ [(q.2.1, q.2.2)]) (L.set q.1 (1, E.length, 0)) qs
def kc_setv (Hs : List kc_G) (k j : Nat) (a : kc_V) : List kc_G := match Hs[k]? with
  | some g => Hs.set k (g.1, g.2.1, g.2.2.1, g.2.2.2.1, g.2.2.2.2.1, g.2.2.2.2.2.1, g.2.2.2.2.2.2.set j a)
  | none => Hs
def kc_widF (E : kc_E) (Hs : List kc_G) : List (Nat × Nat × Int × Int) → kc_E × List kc_G
  | [] => (E, Hs)
  | q :: qs => kc_widF (E ++ [(q.2.2.1, q.2.2.2)]) (kc_setv Hs q.1 q.2.1 (1, E.length, 0)) qs
def kc_widA (Hs : List kc_G) : List (Nat × kc_F) → List kc_G
  | [] => Hs
  | q :: qs => kc_widA (match Hs[q.1]? with
    | some g => Hs.set q.1 (g.1, g.2.1, g.2.2.1, g.2.2.2.1, q.2, [], g.2.2.2.2.2.2)
    | none => Hs) qs
/-- a loop's head, widened -/
def kc_wid (an : kc_A) (S : kc_S) : kc_S :=
  let EL := kc_widL S.1 (an.2.1.foldl (fun L j => L.set j (0, 0, 0)) S.2.1) an.1
  let EH := kc_widF EL.1 S.2.2.2.1 an.2.2.1
  (EH.1, EL.2, S.2.2.1, kc_widA EH.2 an.2.2.2, S.2.2.2.2.1, S.2.2.2.2.2)
/-- what stands in S where it was widened -/
def kc_wit (an : kc_A) (S : kc_S) : List kc_V := an.1.map (fun q => S.2.1.getD q.1 (0, 0, 0)) ++ an.2.2.1.map (fun q => match S.2.2.2.1[q.1]? with
  | some g => g.2.2.2.2.2.2.getD q.2.1 (0, 0, 0)
  | none => (0, 0, 0))
/-- is a value as it is asked for: the same, or the one that stands where it was widened -/
def kc_subF (n0 : Nat) (ws : List kc_V) (a b : kc_V) : Bool := decide (a = b ∧ b.2.1 < n0) || decide (n0 ≤ b.2.1 ∧ b.2.2 = 0 ∧ b.1 = 1 ∧ a.1 = 1 ∧ ws[b.2.1 - n0]? = some a)
/-- .. or nothing is asked -/
def kc_subV (n0 : Nat) (ws : List kc_V) (a b : kc_V) : Bool := decide (b.1 = 0) || kc_subF n0 ws a b
def kc_subL (f : kc_V → kc_V → Bool) : List kc_V → List kc_V → Bool
  | [], [] => true
  | a :: as, b :: bs => f a b && kc_subL f as bs
  | _, _ => false
def kc_subG (n0 : Nat) (ws : List kc_V) (g h : kc_G) : Bool := decide (g.1 = h.1 ∧ g.2.1 = h.2.1 ∧ g.2.2.1 = h.2.2.1 ∧ g.2.2.2.1 = h.2.2.2.1) && (decide (g.2.2.2.2.1 = h.2.2.2.2.1 ∧ g.2.2.2.2.2.1 = h.2.2.2.2.2.1) || (kc_sub g.2.2.2.2.1 h.2.2.2.2.1 && g.2.2.2.2.2.1.all (fun f => kc_sub f h.2.2.2.2.1) && h.2.2.2.2.2.1.isEmpty)) && kc_subL (kc_subF n0 ws) g.2.2.2.2.2.2 h.2.2.2.2.2.2
def kc_subH (n0 : Nat) (ws : List kc_V) : List kc_G → List kc_G → Bool
  | [], [] => true
  | g :: gs, h :: hs => kc_subG n0 ws g h && kc_subH n0 ws gs hs
  | _, _ => false
/-- the values stand within the bounds asked for -/
def kc_subB (E : kc_E) : List kc_V → kc_E → Bool
  | [], [] => true
  | a :: as, b :: bs => decide (a.1 = 1 ∧ a.2.1 < E.length ∧ b.1 ≤ kc_lo E a ∧ kc_hi E a ≤ b.2) && kc_subB E as bs
  | _, _ => false
/-- is the state S within the widened W (of a state with n0 symbols)? the counter is in S above what it was in W by one at least (up = true) -/
def kc_within (n0 : Nat) (an : kc_A) (W S : kc_S) (up : Bool) : Bool :=
  kc_subB S.1 (kc_wit an S) (W.1.drop n0) && kc_subL (kc_subV n0 (kc_wit an S)) S.2.1 W.2.1 && decide (S.2.2.1 = [] ∧ W.2.2.1 = []) && kc_subH n0 (kc_wit an S) S.2.2.2.1 W.2.2.2.1 && decide (S.2.2.2.2.1 ≤ W.2.2.2.2.1 ∧ S.2.2.2.2.2 ≤ W.2.2.2.2.2) &&
  (!up || (match kc_wit an S with
    | a :: _ => decide (a.2.1 = n0 ∧ 1 ≤ a.2.2)
    | [] => false))
def kc_retok (rk mc ms : Nat) (i : Instr) (n : Nat) (S : kc_S) : Bool := Nat.beq n 1 && decide (S.2.2.2.2.1 ≤ mc ∧ S.2.2.2.2.2 ≤ ms) && (match i, S.2.2.1 with
  | .ireturn, [(1, k, d)] => Nat.beq rk 1 || (Nat.beq rk 4 && decide (0 ≤ kc_lo S.1 (1, k, d) ∧ kc_hi S.1 (1, k, d) ≤ 1))
  | .lreturn, [(2, _, _)] => Nat.beq rk 2
  | .areturn, [(3, _, _)] => Nat.beq rk 3
  | .return_, [] => Nat.beq rk 0
  | _, _ => false)
/-- the object of which a method is called is known, and of its class -/
def kc_recv (kd : Nat) (Hs : List kc_G) (E : kc_E) (as : List kc_V) (ci : Nat) : Bool := Nat.beq kd 1 || Nat.beq kd 11 || (match as with
  | (3, n, d) :: _ => (match kc_cell Hs E (3, n, d) with
    | some (_, (0, ci', _)) => Nat.beq ci ci'
    | _ => false)
  | _ => false)
/-- 0 nothing of these, 1 a return, 2 a call -/
def kc_kind : Instr → Nat
  | .ireturn => 1 | .lreturn => 1 | .areturn => 1 | .return_ => 1
  | .invokevirtual _ => 2 | .invokespecial _ => 2 | .invokestatic _ => 2
  | _ => 0
/-- a call's index, and the kinds of link that it may go by -/
def kc_lnk : Instr → Nat × List Nat
  | .invokevirtual ix => (ix, [0, 10]) | .invokespecial ix => (ix, [2, 12, 3]) | .invokestatic ix => (ix, [1, 11, 4, 5, 6])
  | _ => (0, [])
/-- a call: the state behind it, or the method, its arguments, and what is left on the stack -/
def kc_invk (T : kc_T) (y : Nat) (i : Instr) (n : Nat) (S : kc_S) : Option (kc_S ⊕ (Nat × List kc_V × List kc_V)) := match kc_Tlk T (kc_Tmi T y).2.2.2.2.2.2.1 (kc_lnk i).1 with
  | some (kd, y') => if (Nat.beq n 3 && (kc_lnk i).2.contains kd) = true then
      (if kd = 3 then (match S.2.2.1 with
        | (3, s, d) :: K' => if kc_lo S.1 (3, s, d) = kc_hi S.1 (3, s, d) ∧ 1 ≤ kc_lo S.1 (3, s, d) ∧ kc_cat K' ≤ 8 ∧ 1 ≤ (kc_Tmi T y).2.2.2.2.1 ∧ 20 ≤ (kc_Tmi T y).2.2.2.2.2.1 then some (.inl (S.1, S.2.1, K', S.2.2.2)) else none
        | _ => none)
      else if kd = 4 then (if 1 ≤ (kc_Tmi T y).2.2.2.2.1 ∧ 26 ≤ (kc_Tmi T y).2.2.2.2.2.1 then (kc_acp S.1 S.2.2.1 S.2.2.2.1).map (fun r => .inl (S.1, S.2.1, r.1, r.2, S.2.2.2.2)) else none)
      else if kd = 5 ∨ kd = 6 then (match S.2.2.1 with
        | (1, n2, d2) :: (1, n1, d1) :: K' => if kc_cat K' ≤ 8 ∧ 1 ≤ (kc_Tmi T y).2.2.2.2.1 ∧ 21 ≤ (kc_Tmi T y).2.2.2.2.2.1 ∧ S.2.2.2.2.1 ≤ (kc_Tmi T y).2.2.1 ∧ S.2.2.2.2.2 ≤ (kc_Tmi T y).2.2.2.1 then some (.inl ((kc_mm (Nat.beq kd 6) S.1 (1, n1, d1) (1, n2, d2)).1, S.2.1, (kc_mm (Nat.beq kd 6) S.1 (1, n1, d1) (1, n2, d2)).2 :: K', S.2.2.2)) else none
        | _ => none)
      else match kc_args (kc_Tmi T y').2.1.reverse S.2.2.1 [] with
        | some (as, K') => if (decide (kc_cat K' ≤ 8 ∧ S.2.2.2.2.1 + (kc_Tmi T y').2.2.1 ≤ (kc_Tmi T y).2.2.1 ∧ S.2.2.2.2.2 + (kc_Tmi T y').2.2.2.1 ≤ (kc_Tmi T y).2.2.2.1 ∧ (kc_Tmi T y').2.2.2.2.1 + 1 ≤ (kc_Tmi T y).2.2.2.2.1 ∧ 19 + (kc_Tmi T y').1 + (kc_Tmi T y').2.2.2.2.2.1 ≤ (kc_Tmi T y).2.2.2.2.2.1 ∧ (kc_loc0 as).length ≤ (kc_Tmi T y').1) && kc_recv kd S.2.2.2.1 S.1 as (kc_Tmi T y').2.2.2.2.2.2.1) = true then some (.inr (y', as, K')) else none
        | none => none)
      else none
  | none => none
/-- a method's start -/
def kc_ent (T : kc_T) (y : Nat) (as : List kc_V) (S : kc_S) : Nat × kc_S := (0, S.1, kc_loc0 as ++ List.replicate ((kc_Tmi T y).1 - (kc_loc0 as).length) (0, 0, 0), [], S.2.2.2.1, 0, 0)
def kc_run (T : kc_T) : Nat → Nat → List Nat → List (Nat × kc_S) → List (Nat × kc_S) → Option (List (Nat × kc_S))
  | 0, _, _, _, _ => none
  | _ + 1, _, _, [], outs => some outs
  | f + 1, y, op, q :: rest, outs =>
    if op.contains q.1 = true then kc_run T f y op rest (q :: outs) else
    match kc_Thd T y q.1, kc_Tcd T y q.1 with
    | some an, some (i, n) =>
      if (decide ((kc_wid an q.2).1.take q.2.1.length = q.2.1) && kc_within q.2.1.length an (kc_wid an q.2) q.2 false) = true then
        match kc_step T y q.1 i n (kc_wid an q.2) with
        | some ns => match kc_run T f y (q.1 :: op) ns [] with
          | some os => if os.all (fun o => decide (o.1 ≠ q.1) || kc_within q.2.1.length an (kc_wid an q.2) o.2 true) = true then kc_run T f y op rest (os.filter (fun o => decide (o.1 ≠ q.1)) ++ outs) else none
          | none => none
        | none => none
      else none
    | none, some (i, n) =>
      match kc_kind i with
      | 1 => if kc_retok (kc_Trk T y) (kc_Tmi T y).2.2.1 (kc_Tmi T y).2.2.2.1 i n q.2 = true then kc_run T f y op rest (q :: outs) else none
      | 2 => match kc_invk T y i n q.2 with
        | some (.inl S') => kc_run T f y op ((q.1 + 3, S') :: rest) outs
        | some (.inr r) => match kc_run T f r.1 [] [kc_ent T r.1 r.2.1 q.2] [] with
          | some os => kc_run T f y op (os.map (kc_back q.1 q.2.2.1 r.2.2 (q.2.2.2.2.2.1 + (kc_Tmi T r.1).2.2.1) (q.2.2.2.2.2.2 + (kc_Tmi T r.1).2.2.2.1)) ++ rest) outs
          | none => none
        | none => none
      | _ => match kc_step T y q.1 i n q.2 with
        | some ns => kc_run T f y op (ns ++ rest) outs
        | none => none
    | _, none => none
def kc_f1 {α : Type} (k : Nat) : List (Nat × α) → Option α
  | [] => none
  | q :: l => match Nat.beq q.1 k with
    | true => some q.2
    | false => kc_f1 k l
def kc_f2 {α : Type} (k : Nat) : List (Nat × List (Nat × α)) → Option α
  | [] => none
  | b :: l => match Nat.ble k b.1 with
    | true => kc_f1 k b.2
    | false => kc_f2 k l
end
section
/-! ===== what the executor's states say of the machine's ===== -/
def kc_env (ρ : Nat → Int) (E : kc_E) : Prop := ∀ n : Nat, (E.getD n (0, 0)).1 ≤ ρ n ∧ ρ n ≤ (E.getD n (0, 0)).2
def kc_v (ρ : Nat → Int) (β : Nat → Nat) (N : Nat) (a : kc_V) (v : Value) : Prop := match a.1 with
  | 1 => ∃ x : Int32, v = .int x ∧ x.toInt = ρ a.2.1 + a.2.2
  | 2 => ∃ x : Int64, v = .long x ∧ x.toInt = ρ a.2.1 + a.2.2
  | 3 => (v = .null ∧ ρ a.2.1 + a.2.2 = 0) ∨ ∃ r : Nat, v = .ref (β r) ∧ 1 ≤ r ∧ r ≤ N ∧ ρ a.2.1 + a.2.2 = (r : Int)
  | 5 => v = .ref (β 0)
  | _ => False
def kc_t (β : Nat → Nat) (N : Nat) (f : kc_F) (v : Value) : Prop := match f.1 with
  | 1 => ∃ x : Int32, v = .int x ∧ f.2.1 ≤ x.toInt ∧ x.toInt ≤ f.2.2
  | 2 => ∃ x : Int64, v = .long x ∧ f.2.1 ≤ x.toInt ∧ x.toInt ≤ f.2.2
  | 3 => (v = .null ∧ f.2.1 ≤ 0 ∧ 0 ≤ f.2.2) ∨ ∃ r : Nat, v = .ref (β r) ∧ 1 ≤ r ∧ r ≤ N ∧ f.2.1 ≤ (r : Int) ∧ (r : Int) ≤ f.2.2
  | _ => False
theorem kc_env.at {ρ : Nat → Int} {E : kc_E} (h : kc_env ρ E) (a : kc_V) : kc_lo E a ≤ ρ a.2.1 + a.2.2 ∧ ρ a.2.1 + a.2.2 ≤ kc_hi E a := by
  have := h a.2.1
  unfold kc_lo kc_hi
  omega
theorem kc_env.push {ρ : Nat → Int} {E : kc_E} (h : kc_env ρ E) {lo hi z : Int} (h1 : lo ≤ z) (h2 : z ≤ hi) : kc_env (va_up ρ E.length z) (E ++ [(lo, hi)]) := by
  intro n
  by_cases e : n = E.length
  · subst e
    simp [va_up, h1, h2]
  · by_cases l : n < E.length
    · have := h n
      simp only [va_up, if_neg e, List.getD_eq_getElem?_getD, List.getElem?_append_left l] at this ⊢
      exact this
    · have hn : E.length + 1 ≤ n := by omega
      have := h n
      rw [List.getD_eq_getElem?_getD, List.getElem?_eq_none (by omega)] at this
      rw [List.getD_eq_getElem?_getD, List.getElem?_eq_none (by simp; omega)]
      simp only [va_up, if_neg e]
      exact this
theorem kc_v.ext {ρ ρ' : Nat → Int} {β β' : Nat → Nat} {N N' : Nat} {a : kc_V} {v : Value} {n : Nat} (h : kc_v ρ β N a v) (ha : a.2.1 < n) (h1 : ∀ k, k < n → ρ' k = ρ k) (h2 : ∀ k, k ≤ N → β' k = β k) (h3 : N ≤ N') : kc_v ρ' β' N' a v := by
  obtain ⟨t, k, d⟩ := a
  unfold kc_v at h ⊢
  dsimp only at h ha ⊢
  rw [h1 k ha]
  split at h
  · exact h
  · exact h
  · rcases h with h | ⟨r, e1, e2, e3, e4⟩
    · exact Or.inl h
    · exact Or.inr ⟨r, by rw [h2 r e3]; exact e1, e2, Nat.le_trans e3 h3, e4⟩
  · rw [h2 0 (Nat.zero_le _)]; exact h
  · exact h
theorem kc_t.ext {β β' : Nat → Nat} {N N' : Nat} {f : kc_F} {v : Value} (h : kc_t β N f v) (h2 : ∀ k, k ≤ N → β' k = β k) (h3 : N ≤ N') : kc_t β' N' f v := by
  obtain ⟨t, lo, hi⟩ := f
  unfold kc_t at h ⊢
  dsimp only at h ⊢
  split at h
  · exact h
  · exact h
  · rcases h with h | ⟨r, e1, e2, e3, e4⟩
    · exact Or.inl h
    · exact Or.inr ⟨r, by rw [h2 r e3]; exact e1, e2, Nat.le_trans e3 h3, e4⟩
  · exact h
/-- what is read gets a symbol of its own -/
theorem kc_t.read {β : Nat → Nat} {N : Nat} {f : kc_F} {v : Value} (h : kc_t β N f v) : ∃ z : Int, f.2.1 ≤ z ∧ z ≤ f.2.2 ∧ ∀ (ρ : Nat → Int) (n : Nat) (d : Int), ρ n + d = z → kc_v ρ β N (f.1, n, d) v := by
  obtain ⟨t, lo, hi⟩ := f
  unfold kc_t at h
  dsimp only at h ⊢
  split at h
  · obtain ⟨x, rfl, h1, h2⟩ := h
    exact ⟨x.toInt, h1, h2, fun ρ n d e => ⟨x, rfl, by dsimp only; omega⟩⟩
  · obtain ⟨x, rfl, h1, h2⟩ := h
    exact ⟨x.toInt, h1, h2, fun ρ n d e => ⟨x, rfl, by dsimp only; omega⟩⟩
  · rcases h with ⟨rfl, h1, h2⟩ | ⟨r, rfl, e2, e3, h1, h2⟩
    · exact ⟨0, h1, h2, fun ρ n d e => Or.inl ⟨rfl, by dsimp only; omega⟩⟩
    · exact ⟨(r : Int), h1, h2, fun ρ n d e => Or.inr ⟨r, rfl, e2, e3, by dsimp only; omega⟩⟩
  · exact absurd h id
/-- what is written lies within bounds -/
theorem kc_v.write {ρ : Nat → Int} {β : Nat → Nat} {N : Nat} {a : kc_V} {v : Value} (h : kc_v ρ β N a v) (h5 : a.1 ≠ 5) {f : kc_F} (ht : f.1 = a.1) (h1 : f.2.1 ≤ ρ a.2.1 + a.2.2) (h2 : ρ a.2.1 + a.2.2 ≤ f.2.2) : kc_t β N f v := by
  obtain ⟨t, lo, hi⟩ := f
  obtain ⟨t', n, d⟩ := a
  dsimp only at ht h1 h2 h5
  subst ht
  unfold kc_v at h
  unfold kc_t
  dsimp only at h ⊢
  split at h
  · obtain ⟨x, rfl, e⟩ := h
    exact ⟨x, rfl, by omega, by omega⟩
  · obtain ⟨x, rfl, e⟩ := h
    exact ⟨x, rfl, by omega, by omega⟩
  · rcases h with ⟨rfl, e⟩ | ⟨r, rfl, e2, e3, e⟩
    · exact Or.inl ⟨rfl, by omega, by omega⟩
    · exact Or.inr ⟨r, rfl, e2, e3, by omega, by omega⟩
  · exact absurd rfl h5
  · exact absurd h id
theorem kc_sub.ok {β : Nat → Nat} {N : Nat} {f g : kc_F} {v : Value} (h : kc_sub f g = true) (hv : kc_t β N f v) : kc_t β N g v := by
  obtain ⟨t, lo, hi⟩ := f
  obtain ⟨t', lo', hi'⟩ := g
  obtain ⟨h1, h2, h3⟩ := of_decide_eq_true h
  dsimp only at h1 h2 h3
  subst h1
  unfold kc_t at hv ⊢
  dsimp only at hv ⊢
  split at hv
  · obtain ⟨x, rfl, e1, e2⟩ := hv
    exact ⟨x, rfl, by omega, by omega⟩
  · obtain ⟨x, rfl, e1, e2⟩ := hv
    exact ⟨x, rfl, by omega, by omega⟩
  · rcases hv with ⟨rfl, e1, e2⟩ | ⟨r, rfl, e2, e3, e4, e5⟩
    · exact Or.inl ⟨rfl, by omega, by omega⟩
    · exact Or.inr ⟨r, rfl, e2, e3, by omega, by omega⟩
  · exact absurd hv id
def kc_loc (ρ : Nat → Int) (β : Nat → Nat) (N : Nat) (n : Nat) (L : List kc_V) (lv : List (Nat × Value)) : Prop := ∀ (i : Nat) (a : kc_V), L[i]? = some a → a.1 ≠ 0 → a.2.1 < n ∧ ∃ v : Value, (i, v) ∈ lv ∧ kc_v ρ β N a v
def kc_stk (ρ : Nat → Int) (β : Nat → Nat) (N : Nat) (n : Nat) : List kc_V → List Value → Prop
  | [], [] => True
  | a :: L, v :: st => a.2.1 < n ∧ kc_v ρ β N a v ∧ kc_stk ρ β N n L st
  | _, _ => False
theorem kc_loc.ext {ρ ρ' : Nat → Int} {β β' : Nat → Nat} {N N' : Nat} {n n' : Nat} {L : List kc_V} {lv : List (Nat × Value)} (h : kc_loc ρ β N n L lv) (h1 : ∀ k, k < n → ρ' k = ρ k) (h2 : ∀ k, k ≤ N → β' k = β k) (h3 : N ≤ N') (hn : n ≤ n') : kc_loc ρ' β' N' n' L lv := fun i a ha ht => by
  obtain ⟨g1, v, g2, g3⟩ := h i a ha ht
  exact ⟨Nat.lt_of_lt_of_le g1 hn, v, g2, g3.ext g1 h1 h2 h3⟩
theorem kc_stk.ext {ρ ρ' : Nat → Int} {β β' : Nat → Nat} {N N' : Nat} {n n' : Nat} (h1 : ∀ k, k < n → ρ' k = ρ k) (h2 : ∀ k, k ≤ N → β' k = β k) (h3 : N ≤ N') (hn : n ≤ n') : ∀ {L : List kc_V} {st : List Value}, kc_stk ρ β N n L st → kc_stk ρ' β' N' n' L st
  | [], [], _ => trivial
  | _ :: _, _ :: _, h => ⟨Nat.lt_of_lt_of_le h.1 hn, h.2.1.ext h.1 h1 h2 h3, kc_stk.ext h1 h2 h3 hn h.2.2⟩
  | [], _ :: _, h => absurd h id
  | _ :: _, [], h => absurd h id
theorem kc_cat1 {ρ : Nat → Int} {β : Nat → Nat} {N : Nat} {a : kc_V} {v : Value} (h : kc_v ρ β N a v) (ha : a.1 ≠ 2) : v.category = 1 := by
  obtain ⟨t, n, d⟩ := a
  unfold kc_v at h
  dsimp only at h ha
  split at h
  · obtain ⟨x, rfl, -⟩ := h; rfl
  · exact absurd rfl ha
  · rcases h with ⟨rfl, -⟩ | ⟨r, rfl, -⟩ <;> rfl
  · subst h; rfl
  · exact absurd h id
theorem kc_cat2 {ρ : Nat → Int} {β : Nat → Nat} {N : Nat} {n : Nat} {d : Int} {v : Value} (h : kc_v ρ β N (2, n, d) v) : v.category = 2 := by
  obtain ⟨x, rfl, -⟩ := h; rfl
-- numbers
theorem kc_i32 (x : Int32) : -2147483648 ≤ x.toInt ∧ x.toInt ≤ 2147483647 := by
  have h1 := x.le_toInt
  have h2 := x.toInt_lt
  omega
theorem kc_i64 (x : Int64) : -9223372036854775808 ≤ x.toInt ∧ x.toInt ≤ 9223372036854775807 := by
  have h1 := x.le_toInt
  have h2 := x.toInt_lt
  omega
theorem kc_add32 {x y : Int32} (h1 : -2147483648 ≤ x.toInt + y.toInt) (h2 : x.toInt + y.toInt ≤ 2147483647) : (x + y).toInt = x.toInt + y.toInt := by
  rw [Int32.toInt_add]
  exact Int.bmod_eq_of_le (by omega) (by omega)
theorem kc_sub32 {x y : Int32} (h1 : -2147483648 ≤ x.toInt - y.toInt) (h2 : x.toInt - y.toInt ≤ 2147483647) : (x - y).toInt = x.toInt - y.toInt := by
  rw [Int32.toInt_sub]
  exact Int.bmod_eq_of_le (by omega) (by omega)
theorem kc_mul32 {x y : Int32} (h1 : -2147483648 ≤ x.toInt * y.toInt) (h2 : x.toInt * y.toInt ≤ 2147483647) : (x * y).toInt = x.toInt * y.toInt := by
  rw [Int32.toInt_mul]
  exact Int.bmod_eq_of_le (by omega) (by omega)
/-- a cell, and what the executor says of it -/
def kc_e (ρ : Nat → Int) (β : Nat → Nat) (N n : Nat) (tys : List (ClassId × FieldType)) (g : kc_G) (e : va_E) : Prop := match g.1 with
  | 0 => ∃ fs : List Value, e = .inr (g.2.1, fs) ∧ fs.length = g.2.2.2.2.2.2.length ∧ ∀ (j : Nat) (a : kc_V) (v : Value), g.2.2.2.2.2.2[j]? = some a → fs[j]? = some v → a.2.1 < n ∧ kc_v ρ β N a v
  | 1 => ∃ (cA : ClassId) (t0 : Nat) (h : Nat → Int32), e = .inl (cA, g.2.2.2.1, .inl h) ∧ tys[t0]? = some (cA, g.2.2.1) ∧ ∀ j : Nat, j < g.2.2.2.1 → kc_t β N (g.2.2.2.2.2.1.getD j g.2.2.2.2.1) (.int (h j))
  | 2 => ∃ (cA : ClassId) (t0 : Nat) (h : Nat → Int64), e = .inl (cA, g.2.2.2.1, .inr (.inl h)) ∧ tys[t0]? = some (cA, .long) ∧ ∀ j : Nat, j < g.2.2.2.1 → kc_t β N (g.2.2.2.2.2.1.getD j g.2.2.2.2.1) (.long (h j))
  | 3 => ∃ (cA : ClassId) (t0 : Nat) (h : Nat → Option Nat), e = .inl (cA, g.2.2.2.1, .inr (.inr (.inr (.inr h)))) ∧ tys[t0]? = some (cA, g.2.2.1) ∧ ∀ j : Nat, j < g.2.2.2.1 → kc_t β N (g.2.2.2.2.2.1.getD j g.2.2.2.2.1) (va_rf (h j))
  | _ => False
theorem kc_e.ext {ρ ρ' : Nat → Int} {β β' : Nat → Nat} {N N' n n' : Nat} {tys tys' : List (ClassId × FieldType)} {g : kc_G} {e : va_E} (h : kc_e ρ β N n tys g e) (h1 : ∀ k, k < n → ρ' k = ρ k) (h2 : ∀ k, k ≤ N → β' k = β k) (h3 : N ≤ N') (hn : n ≤ n') (ht : ∀ (k : Nat) (q : ClassId × FieldType), tys[k]? = some q → tys'[k]? = some q) : kc_e ρ' β' N' n' tys' g e := by
  unfold kc_e at h ⊢
  split at h
  · obtain ⟨fs, e1, e2, e4⟩ := h
    exact ⟨fs, e1, e2, fun j a v ha hv => ⟨Nat.lt_of_lt_of_le (e4 j a v ha hv).1 hn, (e4 j a v ha hv).2.ext (e4 j a v ha hv).1 h1 h2 h3⟩⟩
  · obtain ⟨cA, t0, k, e1, e2, e4⟩ := h
    exact ⟨cA, t0, k, e1, ht _ _ e2, fun j hj => (e4 j hj).ext h2 h3⟩
  · obtain ⟨cA, t0, k, e1, e2, e4⟩ := h
    exact ⟨cA, t0, k, e1, ht _ _ e2, fun j hj => (e4 j hj).ext h2 h3⟩
  · obtain ⟨cA, t0, k, e1, e2, e4⟩ := h
    exact ⟨cA, t0, k, e1, ht _ _ e2, fun j hj => (e4 j hj).ext h2 h3⟩
  · exact h
/-- the cells, in their order -/
def kc_C (ρ : Nat → Int) (β : Nat → Nat) (n : Nat) (tys : List (ClassId × FieldType)) (Hs : List kc_G) (ws : va_W) : Prop := ws.length = Hs.length ∧ ∀ (k : Nat) (g : kc_G), Hs[k]? = some g → ∃ e : va_E, ws[k]? = some (β (k + 1), e) ∧ kc_e ρ β Hs.length n tys g e
theorem kc_C.ext {ρ ρ' : Nat → Int} {β : Nat → Nat} {n n' : Nat} {tys : List (ClassId × FieldType)} {Hs : List kc_G} {ws : va_W} (h : kc_C ρ β n tys Hs ws) (h1 : ∀ k, k < n → ρ' k = ρ k) (hn : n ≤ n') : kc_C ρ' β n' tys Hs ws := ⟨h.1, fun k g hk => by
  obtain ⟨e, e1, e2⟩ := h.2 k g hk
  exact ⟨e, e1, e2.ext h1 (fun _ _ => rfl) (Nat.le_refl _) hn (fun _ _ q => q)⟩⟩
/-- the world -/
def kc_W (D : va_G) (cl : List vw_C) (A : Nat → Prop) (s : State) (H0 : Heap) (ρ : Nat → Int) (β : Nat → Nat) (n : Nat) (Hs : List kc_G) (ws : va_W) (tys : List (ClassId × FieldType)) (H : Heap) (locs : List Loc) : Prop :=
  va_K D cl tys s ∧ va_P D cl ws H ∧ va_D A ws ∧ va_S A H0 H locs ∧ kc_C ρ β n tys Hs ws
/-- the first nA symbols and nB cells are as they were at a method's start, or at a loop's head -/
def kc_ag (nA : Nat) (ρ0 : Nat → Int) (nB : Nat) (β0 : Nat → Nat) (n N : Nat) (ρ : Nat → Int) (β : Nat → Nat) : Prop := nA ≤ n ∧ nB ≤ N ∧ (∀ k, k < nA → ρ k = ρ0 k) ∧ ∀ k, k ≤ nB → β k = β0 k
theorem kc_ag.ext {nA nB n N n' N' : Nat} {ρ0 ρ ρ' : Nat → Int} {β0 β β' : Nat → Nat} (h : kc_ag nA ρ0 nB β0 n N ρ β) (h1 : ∀ k, k < n → ρ' k = ρ k) (h2 : ∀ k, k ≤ N → β' k = β k) (hn : n ≤ n') (hN : N ≤ N') : kc_ag nA ρ0 nB β0 n' N' ρ' β' :=
  ⟨Nat.le_trans h.1 hn, Nat.le_trans h.2.1 hN, fun k hk => (h1 k (Nat.lt_of_lt_of_le hk h.1)).trans (h.2.2.1 k hk), fun k hk => (h2 k (Nat.le_trans hk h.2.1)).trans (h.2.2.2 k hk)⟩
section KA
variable {p : Program} {l : Launch} {e : Env} {R : Room} {s : State} {m : MethodId} {args : Array Value} {below : List Frame} {meth : Method} {c : Code} {Q : State → Prop}
variable {cc : ByteArray} {nL : Nat} {D : va_G} {cl : List vw_C} {A : Nat → Prop} {H0 : Heap}
/-- a state of the executor, and the machine's -/
def kc_ok (D : va_G) (cl : List vw_C) (A : Nat → Prop) (s : State) (H0 : Heap) (nL : Nat) (E : kc_E) (L K : List kc_V) (Hs : List kc_G) (ρ : Nat → Int) (β : Nat → Nat) (ws : va_W) (tys : List (ClassId × FieldType)) (H : Heap) (locs : List Loc) (ls : Array Slot) (lv : List (Nat × Value)) (st : List Value) : Prop :=
  kc_env ρ E ∧ (0 < E.length ∧ ρ 0 = 0) ∧ kc_loc ρ β Hs.length E.length L lv ∧ lv_has ls nL lv ∧ kc_stk ρ β Hs.length E.length K st ∧ kc_W D cl A s H0 ρ β E.length Hs ws tys H locs
/-- from every such state the machine comes to Q -/
def kc_J (p : Program) (l : Launch) (e : Env) (R : Room) (s : State) (m : MethodId) (args : Array Value) (below : List Frame) (meth : Method) (c : Code) (Q : State → Prop) (D : va_G) (cl : List vw_C) (A : Nat → Prop) (H0 : Heap) (nL : Nat) (nA : Nat) (ρ0 : Nat → Int) (nB : Nat) (β0 : Nat → Nat) (pc : Nat) (S : kc_S) : Prop :=
  ∀ (ρ : Nat → Int) (β : Nat → Nat) (ws : va_W) (tys : List (ClassId × FieldType)) (H : Heap) (locs : List Loc) (ls : Array Slot) (lv : List (Nat × Value)) (st : List Value),
    kc_ok D cl A s H0 nL S.1 S.2.1 S.2.2.1 S.2.2.2.1 ρ β ws tys H locs ls lv st → kc_ag nA ρ0 nB β0 S.1.length S.2.2.2.1.length ρ β → W p l e R s m args below meth c H locs S.2.2.2.2.1 S.2.2.2.2.2 Q (F0 m pc ls st)
/-- a value that comes, with the bounds as they then are -/
def kc_r (E : kc_E) (ρ : Nat → Int) (β : Nat → Nat) (N : Nat) (E' : kc_E) (a : kc_V) (v : Value) : Prop := ∃ ρ' : Nat → Int, (∀ k, k < E.length → ρ' k = ρ k) ∧ kc_env ρ' E' ∧ E.length ≤ E'.length ∧ a.2.1 < E'.length ∧ kc_v ρ' β N a v
variable {nA : Nat} {ρ0 : Nat → Int} {nB : Nat} {β0 : Nat → Nat}
variable {E E' : kc_E} {L L' K K' : List kc_V} {Hs : List kc_G} {cs ss pc : Nat} {ρ ρ' : Nat → Int} {β : Nat → Nat} {ws : va_W} {tys : List (ClassId × FieldType)} {H : Heap} {locs : List Loc} {ls ls' : Array Slot} {lv lv' : List (Nat × Value)} {st st' : List Value} {a : kc_V} {v : Value}
theorem kc_J.mv (k : kc_J p l e R s m args below meth c Q D cl A H0 nL nA ρ0 nB β0 pc (E', L', K', Hs, cs, ss)) (hk : kc_ok D cl A s H0 nL E L K Hs ρ β ws tys H locs ls lv st) (hg : kc_ag nA ρ0 nB β0 E.length Hs.length ρ β)
    (g1 : ∀ k, k < E.length → ρ' k = ρ k) (g3 : kc_env ρ' E') (g4 : E.length ≤ E'.length) (hL : kc_loc ρ' β Hs.length E'.length L' lv') (hl : lv_has ls' nL lv') (hK : kc_stk ρ' β Hs.length E'.length K' st') : W p l e R s m args below meth c H locs cs ss Q (F0 m pc ls' st') := by
  obtain ⟨hE, h0, -, -, -, w1, w2, w3, w4, w5⟩ := hk
  exact k ρ' β ws tys H locs ls' lv' st' ⟨g3, ⟨Nat.lt_of_lt_of_le h0.1 g4, by rw [g1 0 h0.1]; exact h0.2⟩, hL, hl, hK, w1, w2, w3, w4, w5.ext g1 g4⟩ (hg.ext g1 (fun _ _ => rfl) g4 (Nat.le_refl _))
theorem kc_J.res (k : kc_J p l e R s m args below meth c Q D cl A H0 nL nA ρ0 nB β0 pc (E', L, a :: K', Hs, cs, ss)) (hk : kc_ok D cl A s H0 nL E L K Hs ρ β ws tys H locs ls lv st) (hg : kc_ag nA ρ0 nB β0 E.length Hs.length ρ β)
    (hK : kc_stk ρ β Hs.length E.length K' st') (hr : kc_r E ρ β Hs.length E' a v) : W p l e R s m args below meth c H locs cs ss Q (F0 m pc ls (v :: st')) := by
  obtain ⟨ρ', g1, g3, g4, g5, g6⟩ := hr
  exact kc_J.mv k hk hg g1 g3 g4 (hk.2.2.1.ext g1 (fun _ _ => rfl) (Nat.le_refl _) g4) hk.2.2.2.1 ⟨g5, g6, kc_stk.ext g1 (fun _ _ => rfl) (Nat.le_refl _) g4 hK⟩
theorem kc_J.go (k : kc_J p l e R s m args below meth c Q D cl A H0 nL nA ρ0 nB β0 pc (E, L, K', Hs, cs, ss)) (hk : kc_ok D cl A s H0 nL E L K Hs ρ β ws tys H locs ls lv st) (hg : kc_ag nA ρ0 nB β0 E.length Hs.length ρ β)
    (hK : kc_stk ρ β Hs.length E.length K' st') : W p l e R s m args below meth c H locs cs ss Q (F0 m pc ls st') :=
  kc_J.mv k hk hg (fun _ _ => rfl) hk.1 (Nat.le_refl _) hk.2.2.1 hk.2.2.2.1 hK
theorem kc_r.old {N : Nat} (hE : kc_env ρ E) (ha : a.2.1 < E.length) (hv : kc_v ρ β N a v) : kc_r E ρ β N E a v := ⟨ρ, fun _ _ => rfl, hE, Nat.le_refl _, ha, hv⟩
theorem kc_r.new {N t : Nat} {lo hi z : Int} (hE : kc_env ρ E) (h1 : lo ≤ z) (h2 : z ≤ hi) (hv : ∀ (ρ : Nat → Int) (n : Nat) (d : Int), ρ n + d = z → kc_v ρ β N (t, n, d) v) : kc_r E ρ β N (E ++ [(lo, hi)]) (t, E.length, 0) v :=
  ⟨va_up ρ E.length z, fun k h => va_up_ne _ _ (Nat.ne_of_lt h), hE.push h1 h2, by simp, by simp, hv _ _ _ (by rw [va_up_self]; omega)⟩
theorem kc_mk.ok {N t : Nat} {lo hi z : Int} (hE : kc_env ρ E) (h0 : 0 < E.length ∧ ρ 0 = 0) (h1 : lo ≤ z) (h2 : z ≤ hi) (hv : ∀ (ρ : Nat → Int) (n : Nat) (d : Int), ρ n + d = z → kc_v ρ β N (t, n, d) v) : kc_r E ρ β N (kc_mk E t lo hi).1 (kc_mk E t lo hi).2 v := by
  unfold kc_mk
  by_cases e : lo = hi
  · rw [if_pos e]
    exact kc_r.old hE h0.1 (hv _ _ _ (by omega))
  · rw [if_neg e]
    exact kc_r.new hE h1 h2 hv
theorem kc_mk.i {N : Nat} {lo hi : Int} {x : Int32} (hE : kc_env ρ E) (h0 : 0 < E.length ∧ ρ 0 = 0) (h1 : lo ≤ x.toInt) (h2 : x.toInt ≤ hi) : kc_r E ρ β N (kc_mk E 1 lo hi).1 (kc_mk E 1 lo hi).2 (.int x) := kc_mk.ok hE h0 h1 h2 (fun _ _ _ e => ⟨x, rfl, by dsimp only; omega⟩)
theorem kc_mk.lg {N : Nat} {lo hi : Int} {x : Int64} (hE : kc_env ρ E) (h0 : 0 < E.length ∧ ρ 0 = 0) (h1 : lo ≤ x.toInt) (h2 : x.toInt ≤ hi) : kc_r E ρ β N (kc_mk E 2 lo hi).1 (kc_mk E 2 lo hi).2 (.long x) := kc_mk.ok hE h0 h1 h2 (fun _ _ _ e => ⟨x, rfl, by dsimp only; omega⟩)
theorem kc_rd.ok {N : Nat} {f : kc_F} (hE : kc_env ρ E) (h0 : 0 < E.length ∧ ρ 0 = 0) (h : kc_t β N f v) : kc_r E ρ β N (kc_rd E f).1 (kc_rd E f).2 v := by
  obtain ⟨z, h1, h2, h3⟩ := h.read
  exact kc_mk.ok hE h0 h1 h2 h3
end KA
end
section
section KB
variable {E : kc_E} {ρ : Nat → Int} {β : Nat → Nat} {N : Nat} {a b : kc_V} {x y : Int32}
theorem kc_iadd.ok (hE : kc_env ρ E) (h0 : 0 < E.length ∧ ρ 0 = 0) (ha : a.2.1 < E.length) (hb : b.2.1 < E.length) (ea : x.toInt = ρ a.2.1 + a.2.2) (eb : y.toInt = ρ b.2.1 + b.2.2) : kc_r E ρ β N (kc_iadd E a b).1 (kc_iadd E a b).2 (.int (x + y)) := by
  have h1 := hE.at a
  have h2 := hE.at b
  unfold kc_iadd
  by_cases c : (-2147483648) ≤ kc_lo E a + kc_lo E b ∧ kc_hi E a + kc_hi E b ≤ 2147483647
  · rw [if_pos c]
    have es : (x + y).toInt = x.toInt + y.toInt := kc_add32 (by omega) (by omega)
    by_cases c1 : kc_lo E b = kc_hi E b
    · rw [if_pos c1]
      exact kc_r.old hE ha ⟨x + y, rfl, by dsimp only; omega⟩
    · rw [if_neg c1]
      by_cases c2 : kc_lo E a = kc_hi E a
      · rw [if_pos c2]
        exact kc_r.old hE hb ⟨x + y, rfl, by dsimp only; omega⟩
      · rw [if_neg c2]
        exact kc_mk.i hE h0 (by omega) (by omega)
  · rw [if_neg c]
    exact kc_mk.i hE h0 (kc_i32 _).1 (kc_i32 _).2
theorem kc_isub.ok (hE : kc_env ρ E) (h0 : 0 < E.length ∧ ρ 0 = 0) (ha : a.2.1 < E.length) (ea : x.toInt = ρ a.2.1 + a.2.2) (eb : y.toInt = ρ b.2.1 + b.2.2) : kc_r E ρ β N (kc_isub E a b).1 (kc_isub E a b).2 (.int (x - y)) := by
  have h1 := hE.at a
  have h2 := hE.at b
  unfold kc_isub
  by_cases c : (-2147483648) ≤ kc_lo E a - kc_hi E b ∧ kc_hi E a - kc_lo E b ≤ 2147483647
  · rw [if_pos c]
    have es : (x - y).toInt = x.toInt - y.toInt := kc_sub32 (by omega) (by omega)
    by_cases c1 : kc_lo E b = kc_hi E b
    · rw [if_pos c1]
      exact kc_r.old hE ha ⟨x - y, rfl, by dsimp only; omega⟩
    · rw [if_neg c1]
      by_cases c2 : a.2.1 = b.2.1
      · rw [if_pos c2]
        rw [c2] at ea
        exact kc_r.old hE h0.1 ⟨x - y, rfl, by dsimp only; omega⟩
      · rw [if_neg c2]
        exact kc_mk.i hE h0 (by omega) (by omega)
  · rw [if_neg c]
    exact kc_mk.i hE h0 (kc_i32 _).1 (kc_i32 _).2
end KB
theorem kc_nn {x : Int32} (h : 0 ≤ x.toInt) : ∃ j : Nat, j < 2 ^ 31 ∧ x = nI j ∧ x.toInt = (j : Int) := by
  have h1 : ¬ x < 0 := by
    rw [Int32.lt_iff_toInt_lt]
    have : (0 : Int32).toInt = 0 := rfl
    omega
  obtain ⟨j, hj, e⟩ := nI_of h1
  exact ⟨j, hj, e, by rw [e, nI_toInt hj]⟩
theorem kc_cst {x : Int32} {z : Int} (h : x.toInt = z) : x = Int32.ofInt z := by
  rw [← h]
  exact (Int32.ofInt_toInt x).symm
theorem kc_and_le (x y : Int32) (h : 0 ≤ y.toInt) : 0 ≤ (x &&& y).toInt ∧ (x &&& y).toInt ≤ y.toInt := by
  obtain ⟨j, hj, e, ej⟩ := kc_nn h
  have h1 : (x &&& y).toBitVec.toNat ≤ y.toBitVec.toNat := by
    rw [Int32.toBitVec_and, BitVec.toNat_and]
    exact Nat.and_le_right
  have h2 : y.toBitVec.toNat = j := by rw [e]; exact pk_tn (by omega)
  have h3 : (x &&& y).toInt = ((x &&& y).toBitVec.toNat : Int) := by
    show (x &&& y).toBitVec.toInt = _
    rw [BitVec.toInt_eq_toNat_cond, if_pos (by omega)]
  rw [h3, ej]
  omega
section KC
variable {E : kc_E} {ρ : Nat → Int} {β : Nat → Nat} {N : Nat} {a b : kc_V} {x y : Int32}
theorem kc_imul.ok (hE : kc_env ρ E) (h0 : 0 < E.length ∧ ρ 0 = 0) (ea : x.toInt = ρ a.2.1 + a.2.2) (eb : y.toInt = ρ b.2.1 + b.2.2) : kc_r E ρ β N (kc_imul E a b).1 (kc_imul E a b).2 (.int (x * y)) := by
  have h1 := hE.at a
  have h2 := hE.at b
  unfold kc_imul
  by_cases c : 0 ≤ kc_lo E a ∧ 0 ≤ kc_lo E b ∧ kc_hi E a * kc_hi E b ≤ 2147483647
  · rw [if_pos c]
    have g1 : kc_lo E a * kc_lo E b ≤ x.toInt * y.toInt := Int.mul_le_mul (by omega) (by omega) (by omega) (by omega)
    have g2 : x.toInt * y.toInt ≤ kc_hi E a * kc_hi E b := Int.mul_le_mul (by omega) (by omega) (by omega) (by omega)
    have g3 : 0 ≤ kc_lo E a * kc_lo E b := Int.mul_nonneg (by omega) (by omega)
    have es : (x * y).toInt = x.toInt * y.toInt := kc_mul32 (by omega) (by omega)
    exact kc_mk.i hE h0 (by omega) (by omega)
  · rw [if_neg c]
    exact kc_mk.i hE h0 (kc_i32 _).1 (kc_i32 _).2
theorem kc_idiv.ok (hE : kc_env ρ E) (h0 : 0 < E.length ∧ ρ 0 = 0) (ea : x.toInt = ρ a.2.1 + a.2.2) (eb : y.toInt = ρ b.2.1 + b.2.2) : kc_r E ρ β N (kc_idiv E a b).1 (kc_idiv E a b).2 (.int (x / y)) := by
  have h1 := hE.at a
  have h2 := hE.at b
  unfold kc_idiv
  by_cases c : 0 ≤ kc_lo E a ∧ 0 < kc_lo E b
  · rw [if_pos c]
    obtain ⟨j, hj, ej, ej2⟩ := kc_nn (x := x) (by omega)
    obtain ⟨k, hk, ek, ek2⟩ := kc_nn (x := y) (by omega)
    have es : (x / y).toInt = x.toInt / y.toInt := by
      rw [ej, ek, pk_div hj (by omega) hk, nI_toInt (Nat.lt_of_le_of_lt (Nat.div_le_self _ _) hj), nI_toInt hj, nI_toInt hk]
      exact Int.natCast_ediv j k
    by_cases c1 : kc_lo E b = kc_hi E b
    · rw [if_pos c1]
      have ey : y.toInt = kc_lo E b := by omega
      rw [ey] at es
      exact kc_mk.i hE h0 (by rw [es]; exact Int.ediv_le_ediv c.2 (by omega)) (by rw [es]; exact Int.ediv_le_ediv c.2 (by omega))
    · rw [if_neg c1]
      have g1 : 0 ≤ x.toInt / y.toInt := Int.ediv_nonneg (by omega) (by omega)
      have g2 : x.toInt / y.toInt ≤ x.toInt := Int.ediv_le_self _ (by omega)
      exact kc_mk.i hE h0 (by omega) (by omega)
  · rw [if_neg c]
    exact kc_mk.i hE h0 (kc_i32 _).1 (kc_i32 _).2
theorem kc_irem.ok (hE : kc_env ρ E) (h0 : 0 < E.length ∧ ρ 0 = 0) (ea : x.toInt = ρ a.2.1 + a.2.2) (eb : y.toInt = ρ b.2.1 + b.2.2) : kc_r E ρ β N (kc_irem E a b).1 (kc_irem E a b).2 (.int (x - x / y * y)) := by
  have h1 := hE.at a
  have h2 := hE.at b
  unfold kc_irem
  by_cases c : 0 ≤ kc_lo E a ∧ 0 < kc_lo E b
  · rw [if_pos c]
    obtain ⟨j, hj, ej, ej2⟩ := kc_nn (x := x) (by omega)
    obtain ⟨k, hk, ek, ek2⟩ := kc_nn (x := y) (by omega)
    have h3 : j % k < k := Nat.mod_lt _ (by omega)
    have h4 : j % k ≤ j := Nat.mod_le _ _
    have es : (x - x / y * y).toInt = ((j % k : Nat) : Int) := by
      rw [ej, ek, pk_rem hj (by omega) hk, nI_toInt (by omega)]
    exact kc_mk.i hE h0 (by omega) (by split <;> omega)
  · rw [if_neg c]
    exact kc_mk.i hE h0 (kc_i32 _).1 (kc_i32 _).2
theorem kc_iand.ok (hE : kc_env ρ E) (h0 : 0 < E.length ∧ ρ 0 = 0) (ea : x.toInt = ρ a.2.1 + a.2.2) (eb : y.toInt = ρ b.2.1 + b.2.2) : kc_r E ρ β N (kc_iand E a b).1 (kc_iand E a b).2 (.int (x &&& y)) := by
  have h1 := hE.at a
  have h2 := hE.at b
  unfold kc_iand
  by_cases c : 0 ≤ kc_lo E b
  · rw [if_pos c]
    have g := kc_and_le x y (by omega)
    exact kc_mk.i hE h0 (by omega) (by omega)
  · rw [if_neg c]
    by_cases c1 : 0 ≤ kc_lo E a
    · rw [if_pos c1]
      have g := kc_and_le y x (by omega)
      rw [Int32.and_comm] at g
      exact kc_mk.i hE h0 (by omega) (by omega)
    · rw [if_neg c1]
      exact kc_mk.i hE h0 (kc_i32 _).1 (kc_i32 _).2
theorem kc_con.ok (f : Int32 → Int32 → Int32) (hE : kc_env ρ E) (h0 : 0 < E.length ∧ ρ 0 = 0) (ea : x.toInt = ρ a.2.1 + a.2.2) (eb : y.toInt = ρ b.2.1 + b.2.2) : kc_r E ρ β N (kc_con f E a b).1 (kc_con f E a b).2 (.int (f x y)) := by
  have h1 := hE.at a
  have h2 := hE.at b
  unfold kc_con
  by_cases c : kc_lo E a = kc_hi E a ∧ kc_lo E b = kc_hi E b
  · rw [if_pos c]
    have e1 : x = Int32.ofInt (kc_lo E a) := kc_cst (by omega)
    have e2 : y = Int32.ofInt (kc_lo E b) := kc_cst (by omega)
    refine kc_r.old hE h0.1 ⟨f x y, rfl, ?_⟩
    dsimp only
    rw [← e1, ← e2]
    omega
  · rw [if_neg c]
    exact kc_mk.i hE h0 (kc_i32 _).1 (kc_i32 _).2
end KC
section KD
variable {p : Program} {l : Launch} {e : Env} {R : Room} {s : State} {m : MethodId} {args : Array Value} {below : List Frame} {meth : Method} {c : Code} {H : Heap} {locs : List Loc} {cells slots : Nat} {Q : State → Prop} {cc : ByteArray} {pc : Nat} {ls : Array Slot} {rest : List Value}
variable {E : kc_E} {ρ : Nat → Int} {β : Nat → Nat} {N : Nat} {a b : kc_V} {x y : Int32}
theorem kc_ne0 {y : Int32} (h : y.toInt ≠ 0) : ¬ y = 0 := fun q => h (by rw [q]; rfl)
theorem kc_b32.ok {i : Instr} {r : kc_E × kc_V} (h : kc_b32 i E a b = some r) (hx : p.tables.exec = Jvm.exec) (hb : c.code = cc) (hd : decode cc pc = .ok (i, 1)) (hE : kc_env ρ E) (h0 : 0 < E.length ∧ ρ 0 = 0) (ha : a.2.1 < E.length) (hbl : b.2.1 < E.length) (ea : x.toInt = ρ a.2.1 + a.2.2) (eb : y.toInt = ρ b.2.1 + b.2.2)
    (k : ∀ z : Int32, kc_r E ρ β N r.1 r.2 (.int z) → W p l e R s m args below meth c H locs cells slots Q (F0 m (pc + 1) ls (.int z :: rest))) : W p l e R s m args below meth c H locs cells slots Q (F0 m pc ls (.int y :: .int x :: rest)) := by
  have h1 := hE.at b
  unfold kc_b32 at h
  split at h
  · cases h; exact lv_iadd hx hb hd (k _ (kc_iadd.ok hE h0 ha hbl ea eb))
  · cases h; exact lv_isub hx hb hd (k _ (kc_isub.ok hE h0 ha ea eb))
  · cases h; exact lv_imul hx hb hd (k _ (kc_imul.ok hE h0 ea eb))
  · split at h
    · cases h; exact lv_idiv hx hb hd (kc_ne0 (by omega)) (k _ (kc_idiv.ok hE h0 ea eb))
    · cases h
  · split at h
    · cases h; exact lv_irem hx hb hd (kc_ne0 (by omega)) (k _ (kc_irem.ok hE h0 ea eb))
    · cases h
  · cases h; exact lv_iand hx hb hd (k _ (kc_iand.ok hE h0 ea eb))
  · cases h; exact lv_ior hx hb hd (k _ (kc_con.ok (· ||| ·) hE h0 ea eb))
  · cases h; exact lv_ixor hx hb hd (k _ (kc_con.ok (· ^^^ ·) hE h0 ea eb))
  · cases h; exact lv_ishl hx hb hd (k _ (kc_con.ok (fun x y => x <<< (y &&& 31)) hE h0 ea eb))
  · cases h; exact lv_ishr hx hb hd (k _ (kc_con.ok (fun x y => x >>> (y &&& 31)) hE h0 ea eb))
  · cases h; exact lv_iushr hx hb hd rfl (k _ (kc_con.ok (fun x y => (x.toUInt32 >>> (y.toUInt32 &&& Int32.toUInt32 31)).toInt32) hE h0 ea eb))
  · cases h
end KD

theorem kc_mm.ok {E : kc_E} {ρ : Nat → Int} {β : Nat → Nat} {N n1 n2 : Nat} {d1 d2 : Int} {x y : Int32} (mx : Bool) (hE : kc_env ρ E) (h0 : 0 < E.length ∧ ρ 0 = 0) (ha : n1 < E.length) (hb : n2 < E.length) (ea : x.toInt = ρ n1 + d1) (eb : y.toInt = ρ n2 + d2) : kc_r E ρ β N (kc_mm mx E (1, n1, d1) (1, n2, d2)).1 (kc_mm mx E (1, n1, d1) (1, n2, d2)).2 (.int (if mx = true then (if x < y then y else x) else (if y < x then y else x))) := by
  have h1 := hE.at (1, n1, d1)
  have h2 := hE.at (1, n2, d2)
  dsimp only at h1 h2
  have g1 : x < y ↔ x.toInt < y.toInt := Int32.lt_iff_toInt_lt
  have g2 : y < x ↔ y.toInt < x.toInt := Int32.lt_iff_toInt_lt
  unfold kc_mm
  cases mx with
  | true =>
    dsimp only
    rw [if_pos (show true = true from rfl)]
    by_cases c1 : kc_hi E (1, n2, d2) ≤ kc_lo E (1, n1, d1)
    · rw [if_pos c1, if_neg (fun q => by have := g1.mp q; omega)]
      exact kc_r.old hE ha ⟨x, rfl, ea⟩
    · rw [if_neg c1]
      by_cases c2 : kc_hi E (1, n1, d1) ≤ kc_lo E (1, n2, d2)
      · rw [if_pos c2]
        by_cases c3 : x < y
        · rw [if_pos c3]
          exact kc_r.old hE hb ⟨y, rfl, eb⟩
        · rw [if_neg c3]
          have c4 : ¬ x.toInt < y.toInt := fun q => c3 (g1.mpr q)
          exact kc_r.old hE hb ⟨x, rfl, by dsimp only; omega⟩
      · rw [if_neg c2]
        by_cases c3 : x < y
        · rw [if_pos c3]
          have c4 := g1.mp c3
          exact kc_mk.i hE h0 (by split <;> omega) (by split <;> omega)
        · rw [if_neg c3]
          have c4 : ¬ x.toInt < y.toInt := fun q => c3 (g1.mpr q)
          exact kc_mk.i hE h0 (by split <;> omega) (by split <;> omega)
  | false =>
    dsimp only
    rw [if_neg (show ¬ (false = true) by decide)]
    by_cases c1 : kc_hi E (1, n1, d1) ≤ kc_lo E (1, n2, d2)
    · rw [if_pos c1, if_neg (fun q => by have := g2.mp q; omega)]
      exact kc_r.old hE ha ⟨x, rfl, ea⟩
    · rw [if_neg c1]
      by_cases c2 : kc_hi E (1, n2, d2) ≤ kc_lo E (1, n1, d1)
      · rw [if_pos c2]
        by_cases c3 : y < x
        · rw [if_pos c3]
          exact kc_r.old hE hb ⟨y, rfl, eb⟩
        · rw [if_neg c3]
          have c4 : ¬ y.toInt < x.toInt := fun q => c3 (g2.mpr q)
          exact kc_r.old hE hb ⟨x, rfl, by dsimp only; omega⟩
      · rw [if_neg c2]
        by_cases c3 : y < x
        · rw [if_pos c3]
          have c4 := g2.mp c3
          exact kc_mk.i hE h0 (by split <;> omega) (by split <;> omega)
        · rw [if_neg c3]
          have c4 : ¬ y.toInt < x.toInt := fun q => c3 (g2.mpr q)
          exact kc_mk.i hE h0 (by split <;> omega) (by split <;> omega)
end
section
theorem kc_load.of {L : List kc_V} {t i : Nat} {a : kc_V} (h : kc_load L t i = some a) : L[i]? = some a ∧ a.1 = t := by
  unfold kc_load at h
  split at h
  · split at h
    · cases h; exact ⟨by assumption, by assumption⟩
    · cases h
  · cases h
theorem kc_st1.at {L : List kc_V} {i j : Nat} {a b : kc_V} (h : (kc_st1 L i a)[j]? = some b) (hb : b.1 ≠ 0) : (j = i ∧ b = a) ∨ (j ≠ i ∧ L[j]? = some b ∧ (j + 1 = i → b.1 ≠ 2)) := by
  unfold kc_st1 at h
  by_cases e : j = i
  · subst e
    left
    refine ⟨rfl, ?_⟩
    have hz : ∀ Z : List kc_V, (Z.set j a)[j]? = some b → b = a := by
      intro Z hZ
      rw [List.getElem?_set_self'] at hZ
      cases hq : Z[j]? with
      | none => rw [hq] at hZ; cases hZ
      | some z => rw [hq] at hZ; cases hZ; rfl
    exact hz _ h
  · rw [List.getElem?_set_ne (Ne.symm e)] at h
    right
    refine ⟨e, ?_⟩
    split at h
    · exact ⟨h, fun q => by omega⟩
    · rename_i i2
      split at h
      · rename_i b2 hb2
        split at h
        · rename_i h2
          by_cases e2 : j = i2
          · subst e2
            rw [List.getElem?_set_self'] at h
            rw [hb2] at h
            cases h
            exact absurd rfl hb
          · rw [List.getElem?_set_ne (Ne.symm e2)] at h
            exact ⟨h, fun q => by omega⟩
        · rename_i h2
          refine ⟨h, fun q => ?_⟩
          have : j = i2 := by omega
          subst this
          rw [hb2] at h
          cases h
          exact h2
      · rename_i hb2
        refine ⟨h, fun q => ?_⟩
        have : j = i2 := by omega
        subst this
        rw [hb2] at h
        cases h
theorem kc_loc.st1 {ρ : Nat → Int} {β : Nat → Nat} {N : Nat} {n i : Nat} {L : List kc_V} {lv : List (Nat × Value)} {a : kc_V} {v : Value} (h : kc_loc ρ β N n L lv) (ha : a.2.1 < n) (hv : kc_v ρ β N a v) : kc_loc ρ β N n (kc_st1 L i a) ((i, v) :: lv.filter (fun q => !(q.1 == i) && !(q.1 + 1 == i && q.2.category == 2))) := by
  intro j b hj hb
  rcases kc_st1.at hj hb with ⟨e1, e2⟩ | ⟨e1, e2, e3⟩
  · subst e1; subst e2
    exact ⟨ha, v, List.mem_cons_self, hv⟩
  · obtain ⟨g1, w, g2, g3⟩ := h j b e2 hb
    refine ⟨g1, w, List.mem_cons_of_mem _ (List.mem_filter.mpr ⟨g2, ?_⟩), g3⟩
    by_cases q : j + 1 = i
    · have := kc_cat1 g3 (e3 q)
      simp [e1, this]
    · simp [e1, q]
theorem kc_loc.st2 {ρ : Nat → Int} {β : Nat → Nat} {N : Nat} {n i : Nat} {L : List kc_V} {lv : List (Nat × Value)} {a : kc_V} {v : Value} (h : kc_loc ρ β N n L lv) (ha : a.2.1 < n) (hv : kc_v ρ β N a v) : kc_loc ρ β N n ((kc_st1 L i a).set (i + 1) (0, 0, 0)) ((i, v) :: lv.filter (fun q => !(q.1 == i) && (!(q.1 == i + 1) && !(q.1 + 1 == i && q.2.category == 2)))) := by
  intro j b hj hb
  have hji : j ≠ i + 1 := by
    intro q
    subst q
    rw [List.getElem?_set_self'] at hj
    cases hq : (kc_st1 L i a)[i + 1]? with
    | none => rw [hq] at hj; cases hj
    | some z => rw [hq] at hj; cases hj; exact hb rfl
  rw [List.getElem?_set_ne (Ne.symm hji)] at hj
  rcases kc_st1.at hj hb with ⟨e1, e2⟩ | ⟨e1, e2, e3⟩
  · subst e1; subst e2
    exact ⟨ha, v, List.mem_cons_self, hv⟩
  · obtain ⟨g1, w, g2, g3⟩ := h j b e2 hb
    refine ⟨g1, w, List.mem_cons_of_mem _ (List.mem_filter.mpr ⟨g2, ?_⟩), g3⟩
    by_cases q : j + 1 = i
    · have := kc_cat1 g3 (e3 q)
      simp [e1, hji, this]
    · simp [e1, hji, q]
theorem kc_loadr.of {L : List kc_V} {i : Nat} {a : kc_V} (h : kc_loadr L i = some a) : L[i]? = some a ∧ (a.1 = 3 ∨ a.1 = 5) := by
  unfold kc_loadr at h
  split at h
  · split at h
    · cases h; exact ⟨by assumption, by assumption⟩
    · cases h
  · cases h
section KE
variable {p : Program} {l : Launch} {e : Env} {R : Room} {s : State} {m : MethodId} {args : Array Value} {below : List Frame} {meth : Method} {c : Code} {Q : State → Prop}
variable {cc : ByteArray} {nL : Nat} {D : va_G} {cl : List vw_C} {A : Nat → Prop} {H0 : Heap}
variable {nA : Nat} {ρ0 : Nat → Int} {nB : Nat} {β0 : Nat → Nat}
variable {E E' : kc_E} {L L' K K' : List kc_V} {Hs : List kc_G} {cs ss pc : Nat} {ρ ρ' : Nat → Int} {β : Nat → Nat} {ws : va_W} {tys : List (ClassId × FieldType)} {H : Heap} {locs : List Loc} {ls ls' : Array Slot} {lv lv' : List (Nat × Value)} {st st' : List Value}
theorem kc_cst32 {n : Int} (h1 : -2147483648 ≤ n) (h2 : n ≤ 2147483647) : (Int32.ofInt n).toInt = n := Int32.toInt_ofInt_of_le (by omega) (by omega)
theorem kc_stk.uncons {N n : Nat} {a : kc_V} {K : List kc_V} {st : List Value} (h : kc_stk ρ β N n (a :: K) st) : ∃ (v : Value) (st' : List Value), st = v :: st' ∧ a.2.1 < n ∧ kc_v ρ β N a v ∧ kc_stk ρ β N n K st' := by
  cases st with
  | nil => exact absurd h id
  | cons v st' => exact ⟨v, st', rfl, h.1, h.2.1, h.2.2⟩
theorem kc_local {i : Nat} {a : kc_V} (hk : kc_ok D cl A s H0 nL E L K Hs ρ β ws tys H locs ls lv st) (h : L[i]? = some a) (ha : a.1 ≠ 0) : ∃ v : Value, (i, v) ∈ lv ∧ ls[i]? = some (.val v) ∧ a.2.1 < E.length ∧ kc_v ρ β Hs.length a v := by
  obtain ⟨g1, v, g2, g3⟩ := hk.2.2.1 i a h ha
  exact ⟨v, g2, hk.2.2.2.1.2.2 _ g2, g1, g3⟩
set_option maxHeartbeats 4000000 in
theorem kc_x1.ok {i : Instr} (h : kc_x1 nL i E L K = some (E', L', K')) (hx : p.tables.exec = Jvm.exec) (hb : c.code = cc) (hd : decode cc pc = .ok (i, kc_len i))
    (k : kc_J p l e R s m args below meth c Q D cl A H0 nL nA ρ0 nB β0 (pc + kc_len i) (E', L', K', Hs, cs, ss)) : kc_J p l e R s m args below meth c Q D cl A H0 nL nA ρ0 nB β0 pc (E, L, K, Hs, cs, ss) := by
  intro ρ β ws tys H locs ls lv st hk hg
  have hE : kc_env ρ E := hk.1
  have h0 : 0 < E.length ∧ ρ 0 = 0 := hk.2.1
  have hst : kc_stk ρ β Hs.length E.length K st := hk.2.2.2.2.1
  unfold kc_x1 at h
  split at h
  · split at h
    · cases h
      exact lv_iconst hx hb hd rfl (kc_J.res k hk hg hst (kc_r.old hE h0.1 ⟨_, rfl, by dsimp only; rw [kc_cst32 (by omega) (by omega)]; omega⟩))
    · cases h
  · split at h
    · cases h
      refine lv_bipush hx hb hd rfl (kc_J.res k hk hg hst (kc_r.old hE h0.1 ⟨_, rfl, ?_⟩))
      dsimp only
      rw [Int8.toInt_toInt32, Int8.toInt_ofInt_of_le (by omega) (by omega)]
      omega
    · cases h
  · split at h
    · cases h
      refine lv_sipush hx hb hd rfl (kc_J.res k hk hg hst (kc_r.old hE h0.1 ⟨_, rfl, ?_⟩))
      dsimp only
      rw [Int16.toInt_toInt32, Int16.toInt_ofInt_of_le (by omega) (by omega)]
      omega
    · cases h
  · rename_i n
    cases h
    refine lv_lconst hx hb hd rfl (kc_J.res k hk hg hst (kc_r.old hE h0.1 ⟨_, rfl, ?_⟩))
    dsimp only
    have : ∀ n : Fin 2, (Int64.ofNat (n : Nat)).toInt = ((n : Nat) : Int) := by decide
    rw [this]
    omega
  · cases h
    exact lv_null hx hb hd (kc_J.res k hk hg hst (kc_r.old hE h0.1 (Or.inl ⟨rfl, by dsimp only; omega⟩)))
  · rename_i j
    cases hq : kc_load L 1 j with
    | none => rw [hq] at h; cases h
    | some a =>
      rw [hq] at h; cases h
      obtain ⟨ha, ht⟩ := kc_load.of hq
      obtain ⟨v, -, hls, hlt, hv⟩ := kc_local hk ha (by rw [ht]; decide)
      obtain ⟨t, n, d⟩ := a
      cases ht
      obtain ⟨x, rfl, e⟩ := hv
      exact lv_iload hx hb hd hls (kc_J.res k hk hg hst (kc_r.old hE hlt ⟨x, rfl, e⟩))
  · rename_i j
    cases hq : kc_load L 1 j with
    | none => rw [hq] at h; cases h
    | some a =>
      rw [hq] at h; cases h
      obtain ⟨ha, ht⟩ := kc_load.of hq
      obtain ⟨v, -, hls, hlt, hv⟩ := kc_local hk ha (by rw [ht]; decide)
      obtain ⟨t, n, d⟩ := a
      cases ht
      obtain ⟨x, rfl, e⟩ := hv
      exact lv_iload_n hx hb hd rfl hls (kc_J.res k hk hg hst (kc_r.old hE hlt ⟨x, rfl, e⟩))
  · rename_i j
    cases hq : kc_load L 2 j with
    | none => rw [hq] at h; cases h
    | some a =>
      rw [hq] at h; cases h
      obtain ⟨ha, ht⟩ := kc_load.of hq
      obtain ⟨v, -, hls, hlt, hv⟩ := kc_local hk ha (by rw [ht]; decide)
      obtain ⟨t, n, d⟩ := a
      cases ht
      obtain ⟨x, rfl, e⟩ := hv
      exact lv_lload hx hb hd hls (kc_J.res k hk hg hst (kc_r.old hE hlt ⟨x, rfl, e⟩))
  · rename_i j
    cases hq : kc_load L 2 j with
    | none => rw [hq] at h; cases h
    | some a =>
      rw [hq] at h; cases h
      obtain ⟨ha, ht⟩ := kc_load.of hq
      obtain ⟨v, -, hls, hlt, hv⟩ := kc_local hk ha (by rw [ht]; decide)
      obtain ⟨t, n, d⟩ := a
      cases ht
      obtain ⟨x, rfl, e⟩ := hv
      exact lv_lload_n hx hb hd rfl hls (kc_J.res k hk hg hst (kc_r.old hE hlt ⟨x, rfl, e⟩))
  · rename_i j
    cases hq : kc_loadr L j with
    | none => rw [hq] at h; cases h
    | some a =>
      rw [hq] at h; cases h
      obtain ⟨ha, ht⟩ := kc_loadr.of hq
      obtain ⟨v, -, hls, hlt, hv⟩ := kc_local hk ha (by rcases ht with ht | ht <;> rw [ht] <;> decide)
      obtain ⟨t, n, d⟩ := a
      rcases ht with ht | ht
      · cases ht
        have hv2 := hv
        rcases hv with ⟨rfl, e⟩ | ⟨r, rfl, e⟩
        · exact lv_aloadN hx hb hd hls (kc_J.res k hk hg hst (kc_r.old hE hlt hv2))
        · exact lv_aload hx hb hd hls (kc_J.res k hk hg hst (kc_r.old hE hlt hv2))
      · cases ht
        have hv2 := hv
        cases hv
        exact lv_aload hx hb hd hls (kc_J.res k hk hg hst (kc_r.old hE hlt hv2))
  · rename_i j
    cases hq : kc_loadr L j with
    | none => rw [hq] at h; cases h
    | some a =>
      rw [hq] at h; cases h
      obtain ⟨ha, ht⟩ := kc_loadr.of hq
      obtain ⟨v, -, hls, hlt, hv⟩ := kc_local hk ha (by rcases ht with ht | ht <;> rw [ht] <;> decide)
      obtain ⟨t, n, d⟩ := a
      rcases ht with ht | ht
      · cases ht
        have hv2 := hv
        rcases hv with ⟨rfl, e⟩ | ⟨r, rfl, e⟩
        · exact lv_aload_nN hx hb hd rfl hls (kc_J.res k hk hg hst (kc_r.old hE hlt hv2))
        · exact lv_aload_n hx hb hd rfl hls (kc_J.res k hk hg hst (kc_r.old hE hlt hv2))
      · cases ht
        have hv2 := hv
        cases hv
        exact lv_aload_n hx hb hd rfl hls (kc_J.res k hk hg hst (kc_r.old hE hlt hv2))
  · rename_i j
    split at h
    · rename_i n d K2
      split at h
      · rename_i hj
        cases h
        obtain ⟨v, st', rfl, hlt, ⟨x, rfl, ex⟩, hst'⟩ := kc_stk.uncons hst
        exact lv_istore hx hb hd hk.2.2.2.1 hj rfl (fun ls' hl' => kc_J.mv k hk hg (fun _ _ => rfl) hE (Nat.le_refl _) (hk.2.2.1.st1 (a := (1, n, d)) hlt ⟨x, rfl, ex⟩) hl' hst')
      · cases h
    · cases h
  · rename_i j
    split at h
    · rename_i n d K2
      split at h
      · rename_i hj
        cases h
        obtain ⟨v, st', rfl, hlt, ⟨x, rfl, ex⟩, hst'⟩ := kc_stk.uncons hst
        exact lv_istore_n hx hb hd rfl hk.2.2.2.1 hj rfl (fun ls' hl' => kc_J.mv k hk hg (fun _ _ => rfl) hE (Nat.le_refl _) (hk.2.2.1.st1 (a := (1, n, d)) hlt ⟨x, rfl, ex⟩) hl' hst')
      · cases h
    · cases h
  · rename_i j
    split at h
    · rename_i n d K2
      split at h
      · rename_i hj
        cases h
        obtain ⟨v, st', rfl, hlt, hv, hst'⟩ := kc_stk.uncons hst
        have hv2 := hv
        rcases hv with ⟨rfl, ex⟩ | ⟨r, rfl, ex⟩
        · exact lv_astoreN hx hb hd hk.2.2.2.1 hj rfl (fun ls' hl' => kc_J.mv k hk hg (fun _ _ => rfl) hE (Nat.le_refl _) (hk.2.2.1.st1 (a := (3, n, d)) hlt hv2) hl' hst')
        · exact lv_astore hx hb hd hk.2.2.2.1 hj rfl (fun ls' hl' => kc_J.mv k hk hg (fun _ _ => rfl) hE (Nat.le_refl _) (hk.2.2.1.st1 (a := (3, n, d)) hlt hv2) hl' hst')
      · cases h
    · cases h
  · rename_i j
    split at h
    · rename_i n d K2
      split at h
      · rename_i hj
        cases h
        obtain ⟨v, st', rfl, hlt, hv, hst'⟩ := kc_stk.uncons hst
        have hv2 := hv
        rcases hv with ⟨rfl, ex⟩ | ⟨r, rfl, ex⟩
        · exact lv_astore_nN hx hb hd rfl hk.2.2.2.1 hj rfl (fun ls' hl' => kc_J.mv k hk hg (fun _ _ => rfl) hE (Nat.le_refl _) (hk.2.2.1.st1 (a := (3, n, d)) hlt hv2) hl' hst')
        · exact lv_astore_n hx hb hd rfl hk.2.2.2.1 hj rfl (fun ls' hl' => kc_J.mv k hk hg (fun _ _ => rfl) hE (Nat.le_refl _) (hk.2.2.1.st1 (a := (3, n, d)) hlt hv2) hl' hst')
      · cases h
    · cases h
  · rename_i j
    split at h
    · rename_i n d K2
      split at h
      · rename_i hj
        cases h
        obtain ⟨v, st', rfl, hlt, ⟨x, rfl, ex⟩, hst'⟩ := kc_stk.uncons hst
        exact lv_lstore hx hb hd hk.2.2.2.1 hj rfl (fun ls' hl' => kc_J.mv k hk hg (fun _ _ => rfl) hE (Nat.le_refl _) (hk.2.2.1.st2 (a := (2, n, d)) hlt ⟨x, rfl, ex⟩) hl' hst')
      · cases h
    · cases h
  · rename_i j
    split at h
    · rename_i n d K2
      split at h
      · rename_i hj
        cases h
        obtain ⟨v, st', rfl, hlt, ⟨x, rfl, ex⟩, hst'⟩ := kc_stk.uncons hst
        exact lv_lstore_n hx hb hd rfl hk.2.2.2.1 hj rfl (fun ls' hl' => kc_J.mv k hk hg (fun _ _ => rfl) hE (Nat.le_refl _) (hk.2.2.1.st2 (a := (2, n, d)) hlt ⟨x, rfl, ex⟩) hl' hst')
      · cases h
    · cases h
  · rename_i j n
    split at h
    · rename_i hj
      cases hq : kc_load L 1 j with
      | none => rw [hq] at h; cases h
      | some a =>
        rw [hq] at h; cases h
        obtain ⟨ha, ht⟩ := kc_load.of hq
        obtain ⟨v, hm, hls, hlt, hv⟩ := kc_local hk ha (by rw [ht]; decide)
        obtain ⟨t, n1, d1⟩ := a
        cases ht
        obtain ⟨x, rfl, ex⟩ := hv
        obtain ⟨q, hq2⟩ := List.getElem?_of_mem hm
        obtain ⟨ρ', g1, g3, g4, g5, g6⟩ := kc_iadd.ok (β := β) (N := Hs.length) (a := (1, n1, d1)) (b := (1, 0, n)) (x := x) (y := Int32.ofInt n) hE h0 hlt h0.1 ex (by dsimp only; rw [kc_cst32 (by omega) (by omega)]; omega)
        exact lv_iinc hx hb hd hk.2.2.2.1 hq2 rfl hj.1 rfl (fun ls' hl' => kc_J.mv k hk hg g1 g3 g4 ((hk.2.2.1.ext g1 (fun _ _ => rfl) (Nat.le_refl _) g4).st1 g5 g6) hl' (kc_stk.ext g1 (fun _ _ => rfl) (Nat.le_refl _) g4 hst))
    · cases h
  · split at h
    · split at h
      · rename_i ha
        cases h
        obtain ⟨v, st', rfl, hlt, hv, hst'⟩ := kc_stk.uncons hst
        exact lv_pop hx hb hd (kc_cat1 hv ha) (kc_J.go k hk hg hst')
      · cases h
    · cases h
  · split at h
    · split at h
      · rename_i ha
        cases h
        obtain ⟨v, st', rfl, hlt, hv, hst'⟩ := kc_stk.uncons hst
        exact lv_dup hx hb hd (kc_cat1 hv ha) (kc_J.go k hk hg ⟨hlt, hv, hlt, hv, hst'⟩)
      · cases h
    · cases h
  · split at h
    · split at h
      · rename_i ha
        cases h
        obtain ⟨v, st', rfl, hlt, hv, hst'⟩ := kc_stk.uncons hst
        obtain ⟨v2, st2, rfl, hlt2, hv2, hst2⟩ := kc_stk.uncons hst'
        exact lv_dup_x1 hx hb hd (kc_cat1 hv ha.1) (kc_cat1 hv2 ha.2) (kc_J.go k hk hg ⟨hlt, hv, hlt2, hv2, hlt, hv, hst2⟩)
      · cases h
    · cases h
  · split at h
    · split at h
      · rename_i ha
        cases h
        obtain ⟨v, st', rfl, hlt, hv, hst'⟩ := kc_stk.uncons hst
        obtain ⟨v2, st2, rfl, hlt2, hv2, hst2⟩ := kc_stk.uncons hst'
        obtain ⟨v3, st3, rfl, hlt3, hv3, hst3⟩ := kc_stk.uncons hst2
        exact lv_dup_x2 hx hb hd (kc_cat1 hv ha.1) (kc_cat1 hv2 ha.2.1) (kc_cat1 hv3 ha.2.2) (kc_J.go k hk hg ⟨hlt, hv, hlt2, hv2, hlt3, hv3, hlt, hv, hst3⟩)
      · cases h
    · cases h
  · split at h
    · rename_i a b K2
      obtain ⟨v, st', rfl, hlt, hv, hst'⟩ := kc_stk.uncons hst
      obtain ⟨v2, st2, rfl, hlt2, hv2, hst2⟩ := kc_stk.uncons hst'
      split at h
      · rename_i ha
        cases h
        obtain ⟨t, n, d⟩ := a
        cases ha
        exact lv_dup2_2 hx hb hd (kc_cat2 hv) (kc_J.go k hk hg ⟨hlt, hv, hlt, hv, hlt2, hv2, hst2⟩)
      · rename_i ha
        split at h
        · rename_i hb2
          cases h
          exact lv_dup2_11 hx hb hd (kc_cat1 hv ha) (kc_cat1 hv2 hb2) (kc_J.go k hk hg ⟨hlt, hv, hlt2, hv2, hlt, hv, hlt2, hv2, hst2⟩)
        · cases h
    · cases h
  · split at h
    · rename_i n d K2
      cases h
      obtain ⟨v, st', rfl, hlt, ⟨x, rfl, ex⟩, hst'⟩ := kc_stk.uncons hst
      have hr := kc_isub.ok (β := β) (N := Hs.length) (a := (1, 0, 0)) (b := (1, n, d)) (x := 0) (y := x) hE h0 h0.1 (by dsimp only; rw [h0.2]; rfl) ex
      rw [Int32.zero_sub] at hr
      exact lv_ineg hx hb hd (kc_J.res k hk hg hst' hr)
    · cases h
  · split at h
    · rename_i n d K2
      cases h
      obtain ⟨v, st', rfl, hlt, ⟨x, rfl, ex⟩, hst'⟩ := kc_stk.uncons hst
      exact lv_i2l hx hb hd rfl (kc_J.go k hk hg ⟨hlt, ⟨_, rfl, by rw [Int32.toInt_toInt64]; exact ex⟩, hst'⟩)
    · cases h
  · split at h
    · rename_i n d K2
      obtain ⟨v, st', rfl, hlt, ⟨x, rfl, ex⟩, hst'⟩ := kc_stk.uncons hst
      split at h
      · rename_i hr
        cases h
        have hb3 := hE.at (2, n, d)
        dsimp only at hb3 ex
        refine lv_l2i hx hb hd rfl (kc_J.go k hk hg ⟨hlt, ⟨_, rfl, ?_⟩, hst'⟩)
        dsimp only
        rw [Int64.toInt_toInt32, ← ex]
        exact Int.bmod_eq_of_le (by omega) (by omega)
      · cases h
        exact lv_l2i hx hb hd rfl (kc_J.res k hk hg hst' (kc_mk.i hE h0 (kc_i32 _).1 (kc_i32 _).2))
    · cases h
  · split at h
    · rename_i n d K2
      cases h
      obtain ⟨v, st', rfl, hlt, ⟨x, rfl, ex⟩, hst'⟩ := kc_stk.uncons hst
      refine lv_i2b hx hb hd rfl (kc_J.res k hk hg hst' (kc_mk.i hE h0 ?_ ?_))
      · rw [Int8.toInt_toInt32]; have := x.toInt8.le_toInt; omega
      · rw [Int8.toInt_toInt32]; have := x.toInt8.toInt_lt; omega
    · cases h
  · split at h
    · rename_i n d K2
      cases h
      obtain ⟨v, st', rfl, hlt, ⟨x, rfl, ex⟩, hst'⟩ := kc_stk.uncons hst
      refine lv_i2s hx hb hd rfl (kc_J.res k hk hg hst' (kc_mk.i hE h0 ?_ ?_))
      · rw [Int16.toInt_toInt32]; have := x.toInt16.le_toInt; omega
      · rw [Int16.toInt_toInt32]; have := x.toInt16.toInt_lt; omega
    · cases h
  · split at h
    · cases h
      obtain ⟨v, st', rfl, hlt, ⟨x, rfl, ex⟩, hst'⟩ := kc_stk.uncons hst
      exact lv_lneg hx hb hd (kc_J.res k hk hg hst' (kc_mk.lg hE h0 (kc_i64 _).1 (kc_i64 _).2))
    · cases h
  · split at h
    · cases h
      obtain ⟨v, st', rfl, hlt, ⟨x, rfl, ex⟩, hst'⟩ := kc_stk.uncons hst
      obtain ⟨v2, st2, rfl, hlt2, ⟨x2, rfl, ex2⟩, hst2⟩ := kc_stk.uncons hst'
      exact lv_lshl hx hb hd rfl (kc_J.res k hk hg hst2 (kc_mk.lg hE h0 (kc_i64 _).1 (kc_i64 _).2))
    · cases h
  · split at h
    · cases h
      obtain ⟨v, st', rfl, hlt, ⟨x, rfl, ex⟩, hst'⟩ := kc_stk.uncons hst
      obtain ⟨v2, st2, rfl, hlt2, ⟨x2, rfl, ex2⟩, hst2⟩ := kc_stk.uncons hst'
      exact lv_lshr hx hb hd rfl (kc_J.res k hk hg hst2 (kc_mk.lg hE h0 (kc_i64 _).1 (kc_i64 _).2))
    · cases h
  · split at h
    · cases h
      obtain ⟨v, st', rfl, hlt, ⟨x, rfl, ex⟩, hst'⟩ := kc_stk.uncons hst
      obtain ⟨v2, st2, rfl, hlt2, ⟨x2, rfl, ex2⟩, hst2⟩ := kc_stk.uncons hst'
      exact lv_lushr hx hb hd rfl (kc_J.res k hk hg hst2 (kc_mk.lg hE h0 (kc_i64 _).1 (kc_i64 _).2))
    · cases h
  · split at h
    · rename_i n2 d2 n1 d1 K2
      obtain ⟨v, st', rfl, hlt, ⟨x, rfl, ex⟩, hst'⟩ := kc_stk.uncons hst
      obtain ⟨v2, st2, rfl, hlt2, ⟨x2, rfl, ex2⟩, hst2⟩ := kc_stk.uncons hst'
      cases hq : kc_b32 i E (1, n1, d1) (1, n2, d2) with
      | none => rw [hq] at h; cases h
      | some r =>
        rw [hq] at h; cases h
        have hlen : kc_len i = 1 := by
          unfold kc_b32 at hq
          split at hq <;> first | rfl | cases hq
        rw [hlen] at hd k
        exact kc_b32.ok hq hx hb hd hE h0 hlt2 hlt ex2 ex (fun z hz => kc_J.res k hk hg hst2 hz)
    · rename_i n2 d2 n1 d1 K2
      split at h
      · rename_i hq
        cases h
        obtain ⟨v, st', rfl, hlt, ⟨x, rfl, ex⟩, hst'⟩ := kc_stk.uncons hst
        obtain ⟨v2, st2, rfl, hlt2, ⟨x2, rfl, ex2⟩, hst2⟩ := kc_stk.uncons hst'
        have hR : ∀ z : Int64, W p l e R s m args below meth c H locs cs ss Q (F0 m (pc + kc_len i) ls (.long z :: st2)) := fun z => kc_J.res k hk hg hst2 (kc_mk.lg hE h0 (kc_i64 _).1 (kc_i64 _).2)
        have hne : kc_nz E (2, n2, d2) = true → ¬ x = 0 := fun q e0 => by
          have q := of_decide_eq_true q
          have hb3 := hE.at (2, n2, d2)
          dsimp only at hb3 ex
          rw [e0] at ex
          have : (0 : Int64).toInt = 0 := rfl
          omega
        unfold kc_isb64 at hq
        split at hq
        · exact lv_ladd hx hb hd (hR _)
        · exact lv_lsub hx hb hd (hR _)
        · exact lv_lmul hx hb hd (hR _)
        · exact lv_land hx hb hd (hR _)
        · exact lv_lor hx hb hd (hR _)
        · exact lv_lxor hx hb hd (hR _)
        · exact lv_ldiv hx hb hd (hne hq) (hR _)
        · exact lv_lrem hx hb hd (hne hq) (hR _)
        · cases hq
      · cases h
    · cases h
set_option maxHeartbeats 4000000 in
theorem kc_x1.okw {j : Nat} {n : Int} (h : kc_x1 nL (.iinc j n) E L K = some (E', L', K')) (hx : p.tables.exec = Jvm.exec) (hb : c.code = cc) (hd : decode cc pc = .ok (.iinc j n, 6))
    (k : kc_J p l e R s m args below meth c Q D cl A H0 nL nA ρ0 nB β0 (pc + 6) (E', L', K', Hs, cs, ss)) : kc_J p l e R s m args below meth c Q D cl A H0 nL nA ρ0 nB β0 pc (E, L, K, Hs, cs, ss) := by
  intro ρ β ws tys H locs ls lv st hk hg
  have hE : kc_env ρ E := hk.1
  have h0 : 0 < E.length ∧ ρ 0 = 0 := hk.2.1
  have hst : kc_stk ρ β Hs.length E.length K st := hk.2.2.2.2.1
  unfold kc_x1 at h
  dsimp only at h
  split at h
  · rename_i hj
    cases hq : kc_load L 1 j with
    | none => rw [hq] at h; cases h
    | some a =>
      rw [hq] at h; cases h
      obtain ⟨ha, ht⟩ := kc_load.of hq
      obtain ⟨v, hm, hls, hlt, hv⟩ := kc_local hk ha (by rw [ht]; decide)
      obtain ⟨t, n1, d1⟩ := a
      cases ht
      obtain ⟨x, rfl, ex⟩ := hv
      obtain ⟨q, hq2⟩ := List.getElem?_of_mem hm
      obtain ⟨ρ', g1, g3, g4, g5, g6⟩ := kc_iadd.ok (β := β) (N := Hs.length) (a := (1, n1, d1)) (b := (1, 0, n)) (x := x) (y := Int32.ofInt n) hE h0 hlt h0.1 ex (by dsimp only; rw [kc_cst32 (by omega) (by omega)]; omega)
      exact lv_iincW hx hb hd hk.2.2.2.1 hq2 rfl hj.1 rfl (fun ls' hl' => kc_J.mv k hk hg g1 g3 g4 ((hk.2.2.1.ext g1 (fun _ _ => rfl) (Nat.le_refl _) g4).st1 g5 g6) hl' (kc_stk.ext g1 (fun _ _ => rfl) (Nat.le_refl _) g4 hst))
  · cases h
end KE
end
section
theorem kc_ref.len (E : kc_E) (a : kc_V) (lo hi : Int) : (kc_ref E a lo hi).length = E.length := by simp [kc_ref]
theorem kc_ref.ok {ρ : Nat → Int} {E : kc_E} {a : kc_V} {lo hi : Int} (h : kc_env ρ E) (h1 : lo ≤ ρ a.2.1 + a.2.2) (h2 : ρ a.2.1 + a.2.2 ≤ hi) : kc_env ρ (kc_ref E a lo hi) := by
  intro n
  have hn := h n
  unfold kc_ref
  by_cases e : n = a.2.1
  · subst e
    by_cases l : a.2.1 < E.length
    · rw [List.getD_eq_getElem?_getD, List.getElem?_set_self l]
      simp only [Option.getD_some]
      constructor
      · split <;> omega
      · split <;> omega
    · rw [List.set_eq_of_length_le (by omega)]
      exact hn
  · rw [List.getD_eq_getElem?_getD, List.getElem?_set_ne (Ne.symm e), ← List.getD_eq_getElem?_getD]
    exact hn
theorem kc_emp.no {ρ : Nat → Int} {E : kc_E} {a : kc_V} (h : kc_env ρ E) : kc_emp E a = false := by
  have := h a.2.1
  unfold kc_emp
  exact decide_eq_false (by omega)
def kc_rel (r : Nat) (u v : Int) : Prop := match r with
  | 0 => u = v | 1 => u ≠ v | 2 => u < v | 3 => v ≤ u | 4 => v < u | _ => u ≤ v
theorem kc_cn.len (r : Nat) (E : kc_E) (a b : kc_V) : (kc_cn r E a b).length = E.length := by
  unfold kc_cn
  split
  all_goals rw [kc_ref.len, kc_ref.len]
theorem kc_cn.ok {r : Nat} {ρ : Nat → Int} {E : kc_E} {a b : kc_V} (h : kc_env ρ E) (h1r : r ≠ 1) (hr : kc_rel r (ρ a.2.1 + a.2.2) (ρ b.2.1 + b.2.2)) : kc_env ρ (kc_cn r E a b) := by
  have h1 := h.at a
  have h2 := h.at b
  unfold kc_cn
  unfold kc_rel at hr
  split at hr
  · exact kc_ref.ok (kc_ref.ok h (by omega) (by omega)) (by omega) (by omega)
  · exact absurd rfl h1r
  · exact kc_ref.ok (kc_ref.ok h (by omega) (by omega)) (by omega) (by omega)
  · exact kc_ref.ok (kc_ref.ok h (by omega) (by omega)) (by omega) (by omega)
  · exact kc_ref.ok (kc_ref.ok h (by omega) (by omega)) (by omega) (by omega)
  · split
    · exact absurd rfl (by assumption)
    · exact absurd rfl (by assumption)
    · exact absurd rfl (by assumption)
    · exact absurd rfl (by assumption)
    · exact kc_ref.ok (kc_ref.ok h (by omega) (by omega)) (by omega) (by omega)
theorem kc_dead.no {r : Nat} {ρ : Nat → Int} {a b : kc_V} (h1r : r ≠ 1) (hr : kc_rel r (ρ a.2.1 + a.2.2) (ρ b.2.1 + b.2.2)) : kc_dead r a b = false := by
  unfold kc_dead
  by_cases e : a.2.1 = b.2.1
  · rw [e] at hr
    unfold kc_rel at hr
    simp only [e, decide_true, Bool.true_and]
    split at hr
    · exact decide_eq_false (by omega)
    · exact absurd rfl h1r
    · exact decide_eq_false (by omega)
    · exact decide_eq_false (by omega)
    · exact decide_eq_false (by omega)
    · split
      · exact absurd rfl (by assumption)
      · exact absurd rfl (by assumption)
      · exact absurd rfl (by assumption)
      · exact absurd rfl (by assumption)
      · exact decide_eq_false (by omega)
  · simp [e]
section KF
variable {p : Program} {l : Launch} {e : Env} {R : Room} {s : State} {m : MethodId} {args : Array Value} {below : List Frame} {meth : Method} {c : Code} {Q : State → Prop}
variable {cc : ByteArray} {nL : Nat} {D : va_G} {cl : List vw_C} {A : Nat → Prop} {H0 : Heap}
variable {nA : Nat} {ρ0 : Nat → Int} {nB : Nat} {β0 : Nat → Nat}
variable {E : kc_E} {L K K' : List kc_V} {Hs : List kc_G} {cs ss pc : Nat} {ρ : Nat → Int} {β : Nat → Nat} {ws : va_W} {tys : List (ClassId × FieldType)} {H : Heap} {locs : List Loc} {ls : Array Slot} {lv : List (Nat × Value)} {st st' : List Value}
/-- bounds narrowed, all else as it is -/
theorem kc_J.nar {E' : kc_E} (k : kc_J p l e R s m args below meth c Q D cl A H0 nL nA ρ0 nB β0 pc (E', L, K', Hs, cs, ss)) (hk : kc_ok D cl A s H0 nL E L K Hs ρ β ws tys H locs ls lv st) (hg : kc_ag nA ρ0 nB β0 E.length Hs.length ρ β)
    (hE' : kc_env ρ E') (hl : E'.length = E.length) (hK : kc_stk ρ β Hs.length E.length K' st') : W p l e R s m args below meth c H locs cs ss Q (F0 m pc ls st') := by
  refine kc_J.mv k hk hg (fun _ _ => rfl) hE' (by omega) ?_ hk.2.2.2.1 ?_
  · rw [hl]; exact hk.2.2.1
  · rw [hl]; exact hK
theorem kc_ok.nar {E' : kc_E} (hk : kc_ok D cl A s H0 nL E L K Hs ρ β ws tys H locs ls lv st) (hE' : kc_env ρ E') (hl : E'.length = E.length) : kc_ok D cl A s H0 nL E' L K Hs ρ β ws tys H locs ls lv st := by
  unfold kc_ok
  rw [hl]
  exact ⟨hE', hk.2⟩
theorem kc_J.s1 {r tgt : Nat} {a b : kc_V} (k : ∀ q ∈ kc_s1 r tgt E a b K', kc_J p l e R s m args below meth c Q D cl A H0 nL nA ρ0 nB β0 q.1 (q.2.1, L, q.2.2, Hs, cs, ss)) (hk : kc_ok D cl A s H0 nL E L K Hs ρ β ws tys H locs ls lv st) (hg : kc_ag nA ρ0 nB β0 E.length Hs.length ρ β)
    (h1r : r ≠ 1) (hr : kc_rel r (ρ a.2.1 + a.2.2) (ρ b.2.1 + b.2.2)) (hK : kc_stk ρ β Hs.length E.length K' st') : W p l e R s m args below meth c H locs cs ss Q (F0 m tgt ls st') := by
  have hE' := kc_cn.ok hk.1 h1r hr
  have h1 : kc_s1 r tgt E a b K' = [(tgt, kc_cn r E a b, K')] := by
    unfold kc_s1
    rw [kc_emp.no hE', kc_emp.no hE', kc_dead.no h1r hr]
    rfl
  rw [h1] at k
  exact kc_J.nar (k _ List.mem_cons_self) hk hg hE' (kc_cn.len _ _ _ _) hK
theorem kc_J.sc {r tgt : Nat} {a b : kc_V} (k : ∀ q ∈ kc_sc r tgt E a b K', kc_J p l e R s m args below meth c Q D cl A H0 nL nA ρ0 nB β0 q.1 (q.2.1, L, q.2.2, Hs, cs, ss)) (hk : kc_ok D cl A s H0 nL E L K Hs ρ β ws tys H locs ls lv st) (hg : kc_ag nA ρ0 nB β0 E.length Hs.length ρ β)
    (hr : kc_rel r (ρ a.2.1 + a.2.2) (ρ b.2.1 + b.2.2)) (hK : kc_stk ρ β Hs.length E.length K' st') : W p l e R s m args below meth c H locs cs ss Q (F0 m tgt ls st') := by
  unfold kc_sc at k
  by_cases h1 : r = 1
  · subst h1
    rw [if_pos rfl] at k
    have hr2 : ρ a.2.1 + a.2.2 ≠ ρ b.2.1 + b.2.2 := hr
    rcases Int.lt_or_gt_of_ne hr2 with h2 | h2
    · exact kc_J.s1 (fun q h => k q (List.mem_append.mpr (Or.inl h))) hk hg (by decide) h2 hK
    · exact kc_J.s1 (fun q h => k q (List.mem_append.mpr (Or.inr h))) hk hg (by decide) h2 hK
  · rw [if_neg h1] at k
    exact kc_J.s1 k hk hg h1 hr hK
theorem kc_up.at {o : Int} (h : kc_up pc o = true) : (pc : Int) + o = (((pc : Int) + o).toNat : Int) := (Int.toNat_of_nonneg (of_decide_eq_true h)).symm
theorem kc_J.tab {a : kc_V} {x : Int} (hx0 : x = ρ a.2.1 + a.2.2) (hk : kc_ok D cl A s H0 nL E L K Hs ρ β ws tys H locs ls lv st) (hg : kc_ag nA ρ0 nB β0 E.length Hs.length ρ β) (hK : kc_stk ρ β Hs.length E.length K' st') : ∀ (os : List Int) (k : Int), (∀ q ∈ kc_tab pc E a K' k os, kc_J p l e R s m args below meth c Q D cl A H0 nL nA ρ0 nB β0 q.1 (q.2.1, L, q.2.2, Hs, cs, ss)) → ∀ (j : Nat) (o : Int), os[j]? = some o → x = k + j → W p l e R s m args below meth c H locs cs ss Q (F0 m ((pc : Int) + o).toNat ls st')
  | [], _, _, j, o, ho, _ => by simp at ho
  | o1 :: os, k, hq, 0, o, ho, hj => by
    cases ho
    refine kc_J.s1 (fun q h => hq q (List.mem_append.mpr (Or.inl h))) hk hg (by decide) ?_ hK
    have := hk.2.1.2
    show ρ a.2.1 + a.2.2 = ρ 0 + k
    omega
  | o1 :: os, k, hq, j + 1, o, ho, hj => kc_J.tab hx0 hk hg hK os (k + 1) (fun q h => hq q (List.mem_append.mpr (Or.inr h))) j o (by simpa using ho) (by omega)
theorem kc_J.lkn {a : kc_V} {x : Int} {tgt : Nat} (hx0 : x = ρ a.2.1 + a.2.2) (hK : kc_stk ρ β Hs.length E.length K' st') : ∀ (os : List (Int × Int)) (E1 : kc_E), E1.length = E.length → kc_ok D cl A s H0 nL E1 L K Hs ρ β ws tys H locs ls lv st → kc_ag nA ρ0 nB β0 E.length Hs.length ρ β → (∀ q ∈ kc_lkn tgt E1 a K' os, kc_J p l e R s m args below meth c Q D cl A H0 nL nA ρ0 nB β0 q.1 (q.2.1, L, q.2.2, Hs, cs, ss)) → (∀ q ∈ os, q.1 ≠ x) → W p l e R s m args below meth c H locs cs ss Q (F0 m tgt ls st')
  | [], E1, h1, hk, hg, k, _ => kc_J.go (k _ List.mem_cons_self) hk (by rw [h1]; exact hg) (by rw [h1]; exact hK)
  | o :: os, E1, h1, hk, hg, k, hq => by
    have h2 := hq o List.mem_cons_self
    have h0 := hk.2.1.2
    have go : ∀ r : Nat, r ≠ 1 → kc_rel r (ρ a.2.1 + a.2.2) (ρ 0 + o.1) → (∀ q ∈ kc_s1 r tgt E1 a (1, 0, o.1) K', q ∈ kc_sc 1 tgt E1 a (1, 0, o.1) K') → W p l e R s m args below meth c H locs cs ss Q (F0 m tgt ls st') := fun r h1r hr hin => by
      have hE' := kc_cn.ok (b := (1, 0, o.1)) hk.1 h1r hr
      have h3 : kc_s1 r tgt E1 a (1, 0, o.1) K' = [(tgt, kc_cn r E1 a (1, 0, o.1), K')] := by
        unfold kc_s1
        rw [kc_emp.no hE', kc_emp.no hE', kc_dead.no (b := (1, 0, o.1)) h1r hr]
        rfl
      rw [h3] at hin
      exact kc_J.lkn hx0 hK os (kc_cn r E1 a (1, 0, o.1)) ((kc_cn.len _ _ _ _).trans h1) (hk.nar hE' (kc_cn.len _ _ _ _)) hg (fun q hq2 => k q (List.mem_flatMap.mpr ⟨_, hin _ List.mem_cons_self, hq2⟩)) (fun q h => hq q (List.mem_cons_of_mem _ h))
    rcases Int.lt_or_gt_of_ne (show ρ a.2.1 + a.2.2 ≠ ρ 0 + o.1 by omega) with h4 | h4
    · exact go 2 (by decide) h4 (fun q h => by unfold kc_sc; rw [if_pos rfl]; exact List.mem_append.mpr (Or.inl h))
    · exact go 4 (by decide) h4 (fun q h => by unfold kc_sc; rw [if_pos rfl]; exact List.mem_append.mpr (Or.inr h))
theorem kc_J.lks {a : kc_V} {x : Int} {dflt : Int} (hx0 : x = ρ a.2.1 + a.2.2) (hk : kc_ok D cl A s H0 nL E L K Hs ρ β ws tys H locs ls lv st) (hg : kc_ag nA ρ0 nB β0 E.length Hs.length ρ β) (hK : kc_stk ρ β Hs.length E.length K' st') : ∀ (os : List (Int × Int)), (∀ q ∈ kc_lks pc E a K' os, kc_J p l e R s m args below meth c Q D cl A H0 nL nA ρ0 nB β0 q.1 (q.2.1, L, q.2.2, Hs, cs, ss)) → (∃ q ∈ os, q.1 = x) → W p l e R s m args below meth c H locs cs ss Q (F0 m ((pc : Int) + Op.lookupswitch.offset os dflt x).toNat ls st')
  | [], _, h => by obtain ⟨q, h, -⟩ := h; cases h
  | o1 :: os, hq, h => by
    by_cases e1 : o1.1 = x
    · rw [show o1 = (o1.1, o1.2) from rfl, Op.lookupswitch.offset_cons, if_pos e1]
      refine kc_J.s1 (fun q h => hq q (List.mem_append.mpr (Or.inl h))) hk hg (by decide) ?_ hK
      have := hk.2.1.2
      show ρ a.2.1 + a.2.2 = ρ 0 + o1.1
      omega
    · rw [show o1 = (o1.1, o1.2) from rfl, Op.lookupswitch.offset_cons, if_neg e1]
      refine kc_J.lks hx0 hk hg hK os (fun q h => hq q (List.mem_append.mpr (Or.inr h))) ?_
      obtain ⟨q, h1, h2⟩ := h
      rcases List.mem_cons.mp h1 with h3 | h3
      · subst h3; exact absurd h2 e1
      · exact ⟨q, h3, h2⟩
theorem kc_lk_none {dflt x : Int} : ∀ (os : List (Int × Int)), (∀ q ∈ os, q.1 ≠ x) → Op.lookupswitch.offset os dflt x = dflt
  | [], _ => rfl
  | o1 :: os, h => by
    rw [show o1 = (o1.1, o1.2) from rfl, Op.lookupswitch.offset_cons, if_neg (h o1 List.mem_cons_self)]
    exact kc_lk_none os (fun q h1 => h q (List.mem_cons_of_mem _ h1))
theorem kc_lk_some {dflt x : Int} {pc : Nat} : ∀ (os : List (Int × Int)), os.all (fun q => kc_up pc q.2) = true → (∃ q ∈ os, q.1 = x) → kc_up pc (Op.lookupswitch.offset os dflt x) = true
  | [], _, h => by obtain ⟨q, h, -⟩ := h; cases h
  | o1 :: os, ha, h => by
    rw [List.all_cons, Bool.and_eq_true] at ha
    by_cases e1 : o1.1 = x
    · rw [show o1 = (o1.1, o1.2) from rfl, Op.lookupswitch.offset_cons, if_pos e1]
      exact ha.1
    · rw [show o1 = (o1.1, o1.2) from rfl, Op.lookupswitch.offset_cons, if_neg e1]
      refine kc_lk_some os ha.2 ?_
      obtain ⟨q, h1, h2⟩ := h
      rcases List.mem_cons.mp h1 with h3 | h3
      · subst h3; exact absurd h2 e1
      · exact ⟨q, h3, h2⟩
theorem kc_i0 : (0 : Int32).toInt = 0 := rfl
def kc_l2 (i : Instr) (len : Nat) : Bool := match i with
  | .tableswitch _ _ _ _ => true
  | .lookupswitch _ _ => true
  | _ => decide (len = 3)
theorem kc_relI {x y : Int32} {u v : Int} (ex : x.toInt = u) (ey : y.toInt = v) : (x = y ↔ u = v) ∧ (x < y ↔ u < v) ∧ (y ≤ x ↔ v ≤ u) ∧ (y < x ↔ v < u) ∧ (x ≤ y ↔ u ≤ v) := by
  subst ex; subst ey
  exact ⟨Int32.toInt_inj.symm, Int32.lt_iff_toInt_lt, Int32.le_iff_toInt_le, Int32.lt_iff_toInt_lt, Int32.le_iff_toInt_le⟩
/-- an int compared with another: two roads -/
theorem kc_icmp {q : Jvm.ClassFile.Cond} {o : Int} {tgt : Nat} {x y : Int32} {u v : Int} {rest : List Value} (ex : x.toInt = u) (ey : y.toInt = v) (hx : p.tables.exec = Jvm.exec) (hb : c.code = cc) (hd : decode cc pc = .ok (.if_icmp q o, 3)) (ht : (pc : Int) + o = (tgt : Int))
    (kt : kc_rel (kc_code q) u v → W p l e R s m args below meth c H locs cs ss Q (F0 m tgt ls rest)) (kf : kc_rel (kc_neg (kc_code q)) u v → W p l e R s m args below meth c H locs cs ss Q (F0 m (pc + 3) ls rest)) : W p l e R s m args below meth c H locs cs ss Q (F0 m pc ls (.int y :: .int x :: rest)) := by
  obtain ⟨g1, g2, g3, g4, g5⟩ := kc_relI ex ey
  cases q with
  | eq => exact lv_icmp_eq hx hb hd ht (fun h => kt (g1.mp h)) (fun h => kf (fun q => h (g1.mpr q)))
  | ne => exact lv_icmp_ne hx hb hd ht (fun h => kt (fun q => h (g1.mpr q))) (fun h => kf (g1.mp h))
  | lt => exact lv_icmp_lt hx hb hd ht (fun h => kt (g2.mp h)) (fun h => kf (by have : ¬ u < v := fun q => h (g2.mpr q); show v ≤ u; omega))
  | ge => exact lv_icmp_ge hx hb hd ht (fun h => kt (g3.mp h)) (fun h => kf (by have : ¬ v ≤ u := fun q => h (g3.mpr q); show u < v; omega))
  | gt => exact lv_icmp_gt hx hb hd ht (fun h => kt (g4.mp h)) (fun h => kf (by have : ¬ v < u := fun q => h (g4.mpr q); show u ≤ v; omega))
  | le => exact lv_icmp_le hx hb hd ht (fun h => kt (g5.mp h)) (fun h => kf (by have : ¬ u ≤ v := fun q => h (g5.mpr q); show v < u; omega))
theorem kc_if0 {q : Jvm.ClassFile.Cond} {o : Int} {tgt : Nat} {x : Int32} {u v : Int} {rest : List Value} (ex : x.toInt = u) (ey : v = 0) (hx : p.tables.exec = Jvm.exec) (hb : c.code = cc) (hd : decode cc pc = .ok (.ifCond q o, 3)) (ht : (pc : Int) + o = (tgt : Int))
    (kt : kc_rel (kc_code q) u v → W p l e R s m args below meth c H locs cs ss Q (F0 m tgt ls rest)) (kf : kc_rel (kc_neg (kc_code q)) u v → W p l e R s m args below meth c H locs cs ss Q (F0 m (pc + 3) ls rest)) : W p l e R s m args below meth c H locs cs ss Q (F0 m pc ls (.int x :: rest)) := by
  obtain ⟨g1, g2, g3, g4, g5⟩ := kc_relI (y := 0) ex (kc_i0.trans ey.symm)
  cases q with
  | eq => exact lv_if_eq hx hb hd ht (fun h => kt (g1.mp h)) (fun h => kf (fun q => h (g1.mpr q)))
  | ne => exact lv_if_ne hx hb hd ht (fun h => kt (fun q => h (g1.mpr q))) (fun h => kf (g1.mp h))
  | lt => exact lv_if_lt hx hb hd ht (fun h => kt (g2.mp h)) (fun h => kf (by have : ¬ u < v := fun q => h (g2.mpr q); show v ≤ u; omega))
  | ge => exact lv_if_ge hx hb hd ht (fun h => kt (g3.mp h)) (fun h => kf (by have : ¬ v ≤ u := fun q => h (g3.mpr q); show u < v; omega))
  | gt => exact lv_if_gt hx hb hd ht (fun h => kt (g4.mp h)) (fun h => kf (by have : ¬ v < u := fun q => h (g4.mpr q); show u ≤ v; omega))
  | le => exact lv_if_le hx hb hd ht (fun h => kt (g5.mp h)) (fun h => kf (by have : ¬ u ≤ v := fun q => h (g5.mpr q); show v < u; omega))
set_option maxHeartbeats 4000000 in
theorem kc_x2.ok {i : Instr} {len : Nat} {succ : List kc_N} (h : kc_x2 i pc E K = some succ) (hx : p.tables.exec = Jvm.exec) (hb : c.code = cc) (hd : decode cc pc = .ok (i, len)) (hlen : kc_l2 i len = true)
    (k : ∀ q ∈ succ, kc_J p l e R s m args below meth c Q D cl A H0 nL nA ρ0 nB β0 q.1 (q.2.1, L, q.2.2, Hs, cs, ss)) : kc_J p l e R s m args below meth c Q D cl A H0 nL nA ρ0 nB β0 pc (E, L, K, Hs, cs, ss) := by
  intro ρ β ws tys H locs ls lv st hk hg
  have h0 : 0 < E.length ∧ ρ 0 = 0 := hk.2.1
  have hst : kc_stk ρ β Hs.length E.length K st := hk.2.2.2.2.1
  unfold kc_x2 at h
  split at h
  · cases of_decide_eq_true hlen
    split at h
    · rename_i ho
      cases h
      exact lv_goto hx hb hd (kc_up.at ho) (kc_J.go (k _ List.mem_cons_self) hk hg hst)
    · cases h
  · cases of_decide_eq_true hlen
    split at h
    · rename_i n d K2
      split at h
      · rename_i ho
        cases h
        obtain ⟨v, st', rfl, hlt, ⟨x, rfl, ex⟩, hst'⟩ := kc_stk.uncons hst
        exact kc_if0 ex (show ρ 0 + 0 = 0 by omega) hx hb hd (kc_up.at ho) (fun hr => kc_J.sc (fun q h => k q (List.mem_append.mpr (Or.inl h))) hk hg hr hst') (fun hr => kc_J.sc (fun q h => k q (List.mem_append.mpr (Or.inr h))) hk hg hr hst')
      · cases h
    · cases h
  · cases of_decide_eq_true hlen
    split at h
    · rename_i n2 d2 n1 d1 K2
      split at h
      · rename_i ho
        cases h
        obtain ⟨v, st', rfl, hlt, ⟨x, rfl, ex⟩, hst'⟩ := kc_stk.uncons hst
        obtain ⟨v2, st2, rfl, hlt2, ⟨x2, rfl, ex2⟩, hst2⟩ := kc_stk.uncons hst'
        exact kc_icmp ex2 ex hx hb hd (kc_up.at ho) (fun hr => kc_J.sc (fun q h => k q (List.mem_append.mpr (Or.inl h))) hk hg hr hst2) (fun hr => kc_J.sc (fun q h => k q (List.mem_append.mpr (Or.inr h))) hk hg hr hst2)
      · cases h
    · cases h
  · cases of_decide_eq_true hlen
    split at h
    · rename_i n d K2
      split at h
      · rename_i ho
        cases h
        obtain ⟨v, st', rfl, hlt, hv, hst'⟩ := kc_stk.uncons hst
        rcases hv with ⟨rfl, ex⟩ | ⟨r, rfl, hr1, -, ex⟩
        · exact lv_ifnullN hx hb hd (kc_up.at ho) (kc_J.s1 (fun q h => k q (List.mem_append.mpr (Or.inl h))) hk hg (by decide) (by show ρ n + d = ρ 0 + 0; dsimp only at ex; omega) hst')
        · exact lv_ifnull hx hb hd (kc_J.s1 (fun q h => k q (List.mem_append.mpr (Or.inr h))) hk hg (by decide) (by show ρ 0 + 0 < ρ n + d; dsimp only at ex; omega) hst')
      · cases h
    · cases h
  · cases of_decide_eq_true hlen
    split at h
    · rename_i n d K2
      split at h
      · rename_i ho
        cases h
        obtain ⟨v, st', rfl, hlt, hv, hst'⟩ := kc_stk.uncons hst
        rcases hv with ⟨rfl, ex⟩ | ⟨r, rfl, hr1, -, ex⟩
        · exact lv_ifnonnullN hx hb hd (kc_J.s1 (fun q h => k q (List.mem_append.mpr (Or.inr h))) hk hg (by decide) (by show ρ n + d = ρ 0 + 0; dsimp only at ex; omega) hst')
        · exact lv_ifnonnull hx hb hd (kc_up.at ho) (kc_J.s1 (fun q h => k q (List.mem_append.mpr (Or.inl h))) hk hg (by decide) (by show ρ 0 + 0 < ρ n + d; dsimp only at ex; omega) hst')
      · cases h
    · cases h
  · rename_i o lo hi os
    split at h
    · rename_i n d K2
      split at h
      · rename_i ho
        rw [Bool.and_eq_true, Bool.and_eq_true] at ho
        have hsz := of_decide_eq_true ho.2
        have ho := ho.1
        cases h
        obtain ⟨v, st', rfl, hlt, ⟨x, rfl, ex⟩, hst'⟩ := kc_stk.uncons hst
        have kt : ∀ q ∈ kc_tab pc E (1, n, d) K2 lo os.toList, kc_J p l e R s m args below meth c Q D cl A H0 nL nA ρ0 nB β0 q.1 (q.2.1, L, q.2.2, Hs, cs, ss) := fun q h => k q (List.mem_append.mpr (Or.inl h))
        by_cases c1 : x.toInt < lo
        · exact lv_tableOut hx hb hd (Or.inl c1) (kc_up.at ho.1) (kc_J.s1 (fun q h => k q (List.mem_append.mpr (Or.inr (List.mem_append.mpr (Or.inl h))))) hk hg (by decide) (by show ρ n + d < ρ 0 + lo; dsimp only at ex; omega) hst')
        · by_cases c2 : hi < x.toInt
          · exact lv_tableOut hx hb hd (Or.inr c2) (kc_up.at ho.1) (kc_J.s1 (fun q h => k q (List.mem_append.mpr (Or.inr (List.mem_append.mpr (Or.inr h))))) hk hg (by decide) (by show ρ 0 + hi < ρ n + d; dsimp only at ex; omega) hst')
          · cases hq : os[(x.toInt - lo).toNat]? with
            | none =>
              have := Array.getElem?_eq_none_iff.mp hq
              omega
            | some o2 =>
              have hq2 : os.toList[(x.toInt - lo).toNat]? = some o2 := by rw [Array.getElem?_toList]; exact hq
              exact lv_tableIn hx hb hd c1 c2 hq (kc_up.at (List.all_eq_true.mp ho.2 o2 (List.mem_of_getElem? hq2))) (kc_J.tab (a := (1, n, d)) (x := x.toInt) ex hk hg hst' os.toList lo kt _ _ hq2 (by omega))
      · cases h
    · cases h
  · rename_i o ps
    split at h
    · rename_i n d K2
      split at h
      · rename_i ho
        rw [Bool.and_eq_true, Bool.and_eq_true] at ho
        cases h
        obtain ⟨v, st', rfl, hlt, ⟨x, rfl, ex⟩, hst'⟩ := kc_stk.uncons hst
        by_cases c1 : ∃ q ∈ ps.toList, q.1 = x.toInt
        · exact lv_lookup hx hb hd ho.2 rfl (kc_up.at (kc_lk_some ps.toList ho.1.2 c1)) (kc_J.lks (a := (1, n, d)) (x := x.toInt) ex hk hg hst' ps.toList (fun q h => k q (List.mem_append.mpr (Or.inl h))) c1)
        · have c2 : ∀ q ∈ ps.toList, q.1 ≠ x.toInt := fun q h e => c1 ⟨q, h, e⟩
          exact lv_lookup hx hb hd ho.2 (kc_lk_none ps.toList c2) (kc_up.at ho.1.1) (kc_J.lkn (a := (1, n, d)) (x := x.toInt) ex hst' ps.toList E rfl hk hg (fun q h => k q (List.mem_append.mpr (Or.inr h))) c2)
      · cases h
    · cases h
  · cases h
end KF
end
section
theorem kc_lcmp_rel {r : Nat} {x y : Int64} {u v w : Int} (ex : x.toInt = u) (ey : y.toInt = v) (e0 : w = 0) (h : kc_rel r (lg_cmp x y).toInt w) : kc_rel r u v := by
  subst ex; subst ey; subst e0
  have g1 : (1 : Int32).toInt = 1 := rfl
  have g2 : (0 : Int32).toInt = 0 := rfl
  have g3 : (-1 : Int32).toInt = -1 := rfl
  unfold lg_cmp at h
  split at h
  · rename_i c1
    have c2 := Int64.lt_iff_toInt_lt.mp c1
    rw [g1] at h
    unfold kc_rel at h ⊢
    split at h <;> omega
  · rename_i c1
    split at h
    · rename_i c2
      subst c2
      rw [g2] at h
      unfold kc_rel at h ⊢
      split at h <;> omega
    · rename_i c2
      have c3 : ¬ y.toInt < x.toInt := fun q => c1 (Int64.lt_iff_toInt_lt.mpr q)
      have c4 : x.toInt ≠ y.toInt := fun q => c2 (Int64.toInt_inj.mp q)
      rw [g3] at h
      unfold kc_rel at h ⊢
      split at h <;> omega
section KG
variable {p : Program} {l : Launch} {e : Env} {R : Room} {s : State} {m : MethodId} {args : Array Value} {below : List Frame} {meth : Method} {c : Code} {Q : State → Prop}
variable {cc : ByteArray} {nL : Nat} {D : va_G} {cl : List vw_C} {A : Nat → Prop} {H0 : Heap}
variable {nA : Nat} {ρ0 : Nat → Int} {nB : Nat} {β0 : Nat → Nat}
variable {E E' : kc_E} {L K K' : List kc_V} {Hs Hs' : List kc_G} {cs ss pc : Nat}
theorem kc_x3.ok {j : Instr} {succ : List kc_N} (h : kc_x3 j pc E K = some succ) (hx : p.tables.exec = Jvm.exec) (hb : c.code = cc) (hd : decode cc pc = .ok (.lcmp, 1)) (hd2 : decode cc (pc + 1) = .ok (j, 3))
    (k : ∀ q ∈ succ, kc_J p l e R s m args below meth c Q D cl A H0 nL nA ρ0 nB β0 q.1 (q.2.1, L, q.2.2, Hs, cs, ss)) : kc_J p l e R s m args below meth c Q D cl A H0 nL nA ρ0 nB β0 pc (E, L, K, Hs, cs, ss) := by
  intro ρ β ws tys H locs ls lv st hk hg
  have h0 : 0 < E.length ∧ ρ 0 = 0 := hk.2.1
  have hst : kc_stk ρ β Hs.length E.length K st := hk.2.2.2.2.1
  unfold kc_x3 at h
  split at h
  · split at h
    · rename_i q o n2 d2 n1 d1 K2
      split at h
      · rename_i ho
        cases h
        obtain ⟨v, st', rfl, hlt, ⟨x, rfl, ex⟩, hst'⟩ := kc_stk.uncons hst
        obtain ⟨v2, st2, rfl, hlt2, ⟨x2, rfl, ex2⟩, hst2⟩ := kc_stk.uncons hst'
        refine W.lcmp hx hb hd ?_
        exact kc_if0 (u := (lg_cmp x2 x).toInt) (v := 0) rfl rfl hx hb hd2 (kc_up.at ho) (fun hr => kc_J.sc (fun q h => k q (List.mem_append.mpr (Or.inl h))) hk hg (kc_lcmp_rel ex2 ex rfl hr) hst2) (fun hr => kc_J.sc (fun q h => k q (List.mem_append.mpr (Or.inr h))) hk hg (kc_lcmp_rel ex2 ex rfl hr) hst2)
      · cases h
    · cases h
  · cases h
/-- one of the numbers that an index may be -/
theorem kc_J.spl {i : kc_V} {z : Int} {ρ : Nat → Int} {β : Nat → Nat} {ws : va_W} {tys : List (ClassId × FieldType)} {H : Heap} {locs : List Loc} {ls : Array Slot} {lv : List (Nat × Value)} {st : List Value} (ez : z = ρ i.2.1 + i.2.2) (hk : kc_ok D cl A s H0 nL E L K Hs ρ β ws tys H locs ls lv st) (hg : kc_ag nA ρ0 nB β0 E.length Hs.length ρ β)
    (k : ∀ q ∈ kc_spl pc E i K, kc_J p l e R s m args below meth c Q D cl A H0 nL nA ρ0 nB β0 q.1 (q.2.1, L, q.2.2, Hs, cs, ss)) : W p l e R s m args below meth c H locs cs ss Q (F0 m pc ls st) := by
  have h1 := hk.1.at i
  have h0 := hk.2.1.2
  refine kc_J.s1 (r := 0) (a := i) (b := (1, 0, kc_lo E i + (((ρ i.2.1 + i.2.2 - kc_lo E i).toNat : Nat) : Int))) (fun q hq => k q (List.mem_flatMap.mpr ⟨(ρ i.2.1 + i.2.2 - kc_lo E i).toNat, List.mem_range.mpr (by omega), hq⟩)) hk hg (by decide) ?_ hk.2.2.2.2.1
  show ρ i.2.1 + i.2.2 = ρ 0 + (kc_lo E i + (((ρ i.2.1 + i.2.2 - kc_lo E i).toNat : Nat) : Int))
  omega
theorem kc_x4.ok {ins : Instr} {succ : List kc_N} (h : kc_x4 ins pc E K = some succ)
    (k : ∀ q ∈ succ, kc_J p l e R s m args below meth c Q D cl A H0 nL nA ρ0 nB β0 q.1 (q.2.1, L, q.2.2, Hs, cs, ss)) : kc_J p l e R s m args below meth c Q D cl A H0 nL nA ρ0 nB β0 pc (E, L, K, Hs, cs, ss) := by
  intro ρ β ws tys H locs ls lv st hk hg
  unfold kc_x4 at h
  split at h
  · split at h
    · cases h
    · cases h
      exact kc_J.spl rfl hk hg k
  · split at h
    · cases h
    · cases h
      exact kc_J.spl rfl hk hg k
  · cases h
end KG
/-- the cell that a value names -/
theorem kc_cell.ok {Hs : List kc_G} {E : kc_E} {n r : Nat} {d : Int} {g : kc_G} {ρ : Nat → Int} {β : Nat → Nat} {N : Nat} {v : Value} (h : kc_cell Hs E (3, n, d) = some (r, g)) (hE : kc_env ρ E) (hv : kc_v ρ β N (3, n, d) v) : v = .ref (β (r + 1)) ∧ Hs[r]? = some g := by
  have h1 := hE.at (3, n, d)
  unfold kc_cell at h
  split at h
  · rename_i hc
    cases hq : Hs[(kc_lo E (3, n, d) - 1).toNat]? with
    | none => rw [hq] at h; cases h
    | some g' =>
      rw [hq] at h
      cases h
      dsimp only at h1
      rcases hv with ⟨-, e⟩ | ⟨r', rfl, e1, e2, e⟩
      · dsimp only at e; omega
      · dsimp only at e
        have : (kc_lo E (3, n, d) - 1).toNat + 1 = r' := by omega
        rw [this]
        exact ⟨rfl, hq⟩
  · cases h
def kc_pl (ty : FieldType) : Bool := match ty with
  | .int => true | .boolean => true | .byte => true | .short => true | .char => true | .long => true | .object _ => true | .array _ => true
  | _ => false
/-- what the tables say of the classes -/
def kc_CL (cl : List vw_C) (fd : Nat → List (FieldType × Bool)) (Ts : List Jvm.Cond) : Prop := ∀ (ci : Nat) (q : vw_C), cl[ci]? = some q → (∀ w ∈ u_ws q.1 q.2.1 q.2.2, w ∈ Ts) ∧ (fd ci).length = q.2.2 ∧ (∀ k, k < q.2.2 → parseFieldDescriptor (q.2.1 k).2.2.1 = some ((fd ci).getD k (.int, false)).1) ∧ (∀ a, a < q.2.2 → ∀ b, b < q.2.2 → a ≠ b → (q.2.1 a).2.1 ≠ (q.2.1 b).2.1) ∧ (∀ k, k < q.2.2 → (q.2.1 k).1 = q.1) ∧ (∀ k, k < q.2.2 → (q.2.1 k).2.2.2 = ((fd ci).getD k (.int, false)).2) ∧ ∀ z ∈ fd ci, kc_pl z.1 = true
/-- .. and of a class's own links to fields -/
def kc_FL (cl : List vw_C) (own : String) (Ts : List Jvm.Cond) (fl : Nat → Option (Nat × Nat)) : Prop := ∀ (ix ci k : Nat), fl ix = some (ci, k) → ∃ z : vw_C, cl[ci]? = some z ∧ k < z.2.2 ∧ Jvm.Cond.fieldLink own ix (z.2.1 k).1 (z.2.1 k).2.1 (z.2.1 k).2.2.1 ∈ Ts
theorem kc_fit.ok {ρ : Nat → Int} {β : Nat → Nat} {N : Nat} {E : kc_E} {ty : FieldType} {a : kc_V} {v : Value} (h : kc_fit ty (kc_fv E a) = true) (hE : kc_env ρ E) (hv : kc_v ρ β N a v) : narrow ty v = v ∧ fits ty v = true := by
  have hb := hE.at a
  obtain ⟨t, n, d⟩ := a
  unfold kc_fit kc_fv at h
  dsimp only at h hb
  split at h
  · cases of_decide_eq_true h
    obtain ⟨x, rfl, -⟩ := hv
    exact ⟨rfl, rfl⟩
  · obtain ⟨rfl, h1, h2⟩ := of_decide_eq_true h
    obtain ⟨x, rfl, g1⟩ := hv
    dsimp only at g1
    have : x = 0 ∨ x = 1 := by
      rcases (show x.toInt = 0 ∨ x.toInt = 1 by omega) with q | q
      · exact Or.inl (Int32.toInt_inj.mp q)
      · exact Or.inr (Int32.toInt_inj.mp q)
    rcases this with rfl | rfl <;> exact ⟨rfl, rfl⟩
  · cases of_decide_eq_true h
    obtain ⟨x, rfl, -⟩ := hv
    exact ⟨rfl, rfl⟩
  · cases of_decide_eq_true h
    rcases hv with ⟨rfl, -⟩ | ⟨r, rfl, -⟩ <;> exact ⟨rfl, rfl⟩
  · cases of_decide_eq_true h
    rcases hv with ⟨rfl, -⟩ | ⟨r, rfl, -⟩ <;> exact ⟨rfl, rfl⟩
  · cases h
/-- the cells with one of them changed -/
theorem kc_C.set {ρ : Nat → Int} {β : Nat → Nat} {n : Nat} {tys : List (ClassId × FieldType)} {Hs : List kc_G} {ws : va_W} {r : Nat} {g : kc_G} {e' : va_E} (h : kc_C ρ β n tys Hs ws) (hg : kc_e ρ β Hs.length n tys g e') : kc_C ρ β n tys (Hs.set r g) (ws.set r (β (r + 1), e')) := by
  refine ⟨by rw [List.length_set, List.length_set]; exact h.1, fun k g1 hk => ?_⟩
  rw [List.length_set]
  by_cases e1 : k = r
  · subst e1
    rw [List.getElem?_set_self'] at hk ⊢
    cases hq : Hs[k]? with
    | none => rw [hq] at hk; cases hk
    | some g0 =>
      rw [hq] at hk
      cases hk
      obtain ⟨e0, w1, -⟩ := h.2 k g0 hq
      exact ⟨e', by rw [w1]; rfl, hg⟩
  · rw [List.getElem?_set_ne (Ne.symm e1)] at hk ⊢
    exact h.2 k g1 hk
section KH
variable {p : Program} {l : Launch} {e : Env} {R : Room} {s : State} {m : MethodId} {args : Array Value} {below : List Frame} {meth : Method} {c : Code} {Q : State → Prop}
variable {cc : ByteArray} {nL : Nat} {D : va_G} {cl : List vw_C} {A : Nat → Prop} {H0 : Heap}
variable {nA : Nat} {ρ0 : Nat → Int} {nB : Nat} {β0 : Nat → Nat}
variable {E E' : kc_E} {L K K' : List kc_V} {Hs Hs' : List kc_G} {cs ss pc : Nat} {fl : Nat → Option (Nat × Nat)} {fd : Nat → List (FieldType × Bool)} {Ts : List Jvm.Cond} {own : String} {ini : Bool} {oci : Nat}
set_option maxHeartbeats 4000000 in
theorem kc_get.ok {ix : Nat} (h : kc_get fl ix E K Hs = some K') (hx : p.tables.exec = Jvm.exec) (hb : c.code = cc) (hown : s.vm.findClass own = some m.cls) (hts : ∀ w ∈ Ts, w.before args s = true) (hCL : kc_CL cl fd Ts) (hFL : kc_FL cl own Ts fl) (hd : decode cc pc = .ok (.getfield ix, 3))
    (k : kc_J p l e R s m args below meth c Q D cl A H0 nL nA ρ0 nB β0 (pc + 3) (E, L, K', Hs, cs, ss)) : kc_J p l e R s m args below meth c Q D cl A H0 nL nA ρ0 nB β0 pc (E, L, K, Hs, cs, ss) := by
  intro ρ β ws tys H locs ls lv st hk hg
  have hE : kc_env ρ E := hk.1
  have hst : kc_stk ρ β Hs.length E.length K st := hk.2.2.2.2.1
  obtain ⟨hK, hPw, hD, hS, hC⟩ := hk.2.2.2.2.2
  unfold kc_get at h
  split at h
  · rename_i n d K2
    split at h
    · rename_i r ci fty len f0 fs vs ci' k' e1 e2
      split at h
      · rename_i a ha
        split at h
        · rename_i hc
          subst hc
          cases h
          obtain ⟨v, st', rfl, hlt, hv, hst'⟩ := kc_stk.uncons hst
          obtain ⟨rfl, hH⟩ := kc_cell.ok e1 hE hv
          obtain ⟨e0, w1, w3⟩ := hC.2 _ _ hH
          obtain ⟨fs1, rfl, w4, w5⟩ := w3
          obtain ⟨z, z1, z2, z3⟩ := hFL _ _ _ e2
          have hkl : k' < fs1.length := by rw [w4]; exact (List.getElem?_eq_some_iff.mp ha).1
          have hv1 : fs1[k']? = some fs1[k'] := List.getElem?_eq_getElem hkl
          obtain ⟨y1, y2⟩ := w5 k' a _ ha hv1
          exact va_get hx hb hts (hCL _ _ z1).1 hown hK hPw r w1 z1 k' z2 (hts _ z3) (fun _ h9 => h9) hv1 hd (kc_J.go k hk hg ⟨y1, y2, hst'⟩)
        · cases h
      · cases h
    · cases h
  · cases h
set_option maxHeartbeats 4000000 in
theorem kc_put.ok {ix : Nat} (h : kc_put fl fd ini oci ix E K Hs = some (K', Hs')) (hx : p.tables.exec = Jvm.exec) (hb : c.code = cc) (hown : s.vm.findClass own = some m.cls) (hts : ∀ w ∈ Ts, w.before args s = true) (hCL : kc_CL cl fd Ts) (hFL : kc_FL cl own Ts fl) (hini : ini = true → meth.name = "<init>") (hoci : ∀ z : vw_C, cl[oci]? = some z → z.1 = own) (hd : decode cc pc = .ok (.putfield ix, 3))
    (k : kc_J p l e R s m args below meth c Q D cl A H0 nL nA ρ0 nB β0 (pc + 3) (E, L, K', Hs', cs, ss)) : kc_J p l e R s m args below meth c Q D cl A H0 nL nA ρ0 nB β0 pc (E, L, K, Hs, cs, ss) := by
  intro ρ β ws tys H locs ls lv st hk hg
  obtain ⟨hE, h0, hL, hl, hst, hK, hPw, hD, hS, hC⟩ := hk
  dsimp only at hE h0 hL hl hst hC hg
  unfold kc_put at h
  split at h
  · rename_i a n d K2
    split at h
    · rename_i r ci fty len f0 fs vs ci' k' e1 e2
      split at h
      · rename_i z hz
        split at h
        · rename_i hc
          simp only [Bool.and_eq_true, decide_eq_true_eq] at hc
          obtain ⟨⟨⟨rfl, c4⟩, c1⟩, c5⟩ := hc
          cases h
          obtain ⟨va, st1, rfl, hlta, hva, hst1⟩ := kc_stk.uncons hst
          obtain ⟨v, st', rfl, hlt, hv, hst'⟩ := kc_stk.uncons hst1
          obtain ⟨rfl, hH⟩ := kc_cell.ok e1 hE hv
          obtain ⟨e0, w1, w3⟩ := hC.2 _ _ hH
          obtain ⟨fs1, rfl, w4, w5⟩ := w3
          obtain ⟨z', z1, z2, z3⟩ := hFL _ _ _ e2
          have hkl : k' < fs1.length := by rw [w4]; exact c1
          obtain ⟨y1, y2⟩ := kc_fit.ok c4 hE hva
          obtain ⟨q1, q0, q2, q3, q4, q5, -⟩ := hCL _ _ z1
          have hz2 : (fd ci).getD k' (.int, false) = z := by rw [List.getD_eq_getElem?_getD, hz]; rfl
          have q2k := q2 k' z2
          rw [hz2] at q2k
          have q5k := q5 k' z2
          rw [hz2] at q5k
          have kk : ∀ (H1 : Heap) (locs1 : List Loc), va_P D cl (ws.set r (β (r + 1), .inr (ci, fs1.set k' va))) H1 → va_D A (ws.set r (β (r + 1), .inr (ci, fs1.set k' va))) → va_S A H0 H1 locs1 → W p l e R s m args below meth c H1 locs1 cs ss Q (F0 m (pc + 3) ls st') := fun H1 locs1 u1 u2 u3 => by
            refine k ρ β _ tys H1 locs1 ls lv st' ⟨hE, h0, by rw [List.length_set]; exact hL, hl, by rw [List.length_set]; exact hst', hK, u1, u2, u3, hC.set ?_⟩ (by rw [List.length_set]; exact hg)
            refine ⟨fs1.set k' va, rfl, by rw [List.length_set]; dsimp only; rw [List.length_set]; exact w4, fun j a1 v1 ha1 hv1 => ?_⟩
            dsimp only at ha1
            by_cases ej : j = k'
            · subst ej
              rw [List.getElem?_set_self hkl] at hv1
              cases hv1
              rw [List.getElem?_set_self c1] at ha1
              cases ha1
              exact ⟨hlta, hva⟩
            · rw [List.getElem?_set_ne (Ne.symm ej)] at hv1 ha1
              exact w5 j a1 v1 ha1 hv1
          by_cases hfin : z.2 = true
          · rw [hfin] at c5
            simp only [Bool.not_true, Bool.false_or, Bool.and_eq_true, decide_eq_true_eq] at c5
            obtain ⟨c6, rfl⟩ := c5
            exact va_putF hx hb hts q1 (fun k => ((fd ci).getD k (.int, false)).1) q2 q3 hown hK hPw hD hS r w1 z1 k' z2 (hts _ z3) (fun _ h9 => h9) (q5k.trans hfin) (hini c6) ((q4 k' z2).trans (hoci z' z1)) (q2k) y1 y2 hkl hd kk
          · have hfin : z.2 = false := by simpa using hfin
            exact va_put hx hb hts q1 (fun k => ((fd ci).getD k (.int, false)).1) q2 q3 hown hK hPw hD hS r w1 z1 k' z2 (hts _ z3) (fun _ h9 => h9) (q5k.trans hfin) (q2k) y1 y2 hkl hd kk
        · cases h
      · cases h
    · cases h
  · cases h
end KH
end
section
theorem kc_sub.rf (f : kc_F) : kc_sub f f = true := decide_eq_true ⟨rfl, Int.le_refl _, Int.le_refl _⟩
theorem kc_join.l (f g : kc_F) : kc_sub f (kc_join f g) = true := by
  unfold kc_sub kc_join
  refine decide_eq_true ⟨rfl, ?_, ?_⟩
  · dsimp only
    split <;> omega
  · dsimp only
    split <;> omega
theorem kc_join.r {f g : kc_F} (h : g.1 = f.1) : kc_sub g (kc_join f g) = true := by
  unfold kc_sub kc_join
  refine decide_eq_true ⟨h, ?_, ?_⟩
  · dsimp only
    split <;> omega
  · dsimp only
    split <;> omega
theorem kc_sub.tr {f g h : kc_F} (h1 : kc_sub f g = true) (h2 : kc_sub g h = true) : kc_sub f h = true := by
  obtain ⟨a1, a2, a3⟩ := of_decide_eq_true h1
  obtain ⟨b1, b2, b3⟩ := of_decide_eq_true h2
  exact decide_eq_true ⟨a1.trans b1, by omega, by omega⟩
theorem kc_joins.base : ∀ (fs : List kc_F) (d : kc_F), kc_sub d (kc_joins d fs) = true
  | [], d => kc_sub.rf d
  | f :: fs, d => kc_sub.tr (kc_join.l d f) (kc_joins.base fs (kc_join d f))
theorem kc_joins.mem : ∀ (fs : List kc_F) (d f : kc_F), f ∈ fs → f.1 = d.1 → kc_sub f (kc_joins d fs) = true
  | [], _, _, h, _ => by cases h
  | g :: fs, d, f, h, ht => by
    rcases List.mem_cons.mp h with rfl | h
    · exact kc_sub.tr (kc_join.r ht) (kc_joins.base fs (kc_join d f))
    · exact kc_joins.mem fs (kc_join d g) f h ht
theorem kc_joins.ty (fs : List kc_F) (d : kc_F) : (kc_joins d fs).1 = d.1 := (of_decide_eq_true (kc_joins.base fs d)).1.symm
/-- what stands at any place is within all of them together -/
theorem kc_joins.at {β : Nat → Nat} {N j : Nat} {fs : List kc_F} {d : kc_F} {v : Value} (h : kc_t β N (fs.getD j d) v) (ht : (fs.getD j d).1 = d.1) : kc_t β N (kc_joins d fs) v := by
  rw [List.getD_eq_getElem?_getD] at h ht
  cases hq : fs[j]? with
  | none => rw [hq] at h; exact kc_sub.ok (kc_joins.base fs d) h
  | some f => rw [hq] at h ht; exact kc_sub.ok (kc_joins.mem fs d f (List.mem_of_getElem? hq) ht) h
def kc_ixn (E : kc_E) (i : kc_V) (x : Nat) : Prop := kc_lo E i ≤ (x : Int) ∧ (x : Int) ≤ kc_hi E i
theorem kc_ix.ok {E : kc_E} {i : kc_V} {N : Nat} {ρ : Nat → Int} {x : Int32} (h : kc_ix E i N = true) (hE : kc_env ρ E) (ex : x.toInt = ρ i.2.1 + i.2.2) : vp_in x N ∧ x.toNatClampNeg < N ∧ kc_ixn E i x.toNatClampNeg := by
  have h1 := hE.at i
  have h2 := of_decide_eq_true h
  have h3 : vp_in x N := vp_in_iff.mpr ⟨by omega, by omega⟩
  have h9 : (x.toNatClampNeg : Int) = x.toInt := Int32.cast_toNatClampNeg x (by
    rw [Int32.le_iff_toInt_le]
    exact (vp_in_iff.mp h3).1)
  exact ⟨h3, Nat.not_le.mp fun q => h3 (Or.inr q), by unfold kc_ixn; omega⟩
theorem kc_at.ok {β : Nat → Nat} {N x : Nat} {E : kc_E} {i : kc_V} {d : kc_F} {fs : List kc_F} {v : Value} (hi : kc_ixn E i x) (h : kc_t β N (fs.getD x d) v) (ht : (fs.getD x d).1 = d.1) : kc_t β N (kc_at E i d fs) v := by
  unfold kc_at
  unfold kc_ixn at hi
  split
  · rename_i hc
    have : (kc_lo E i).toNat = x := by omega
    rw [this]
    exact h
  · exact kc_joins.at h ht
/-- behind a write, every place is as the executor says -/
theorem kc_wr.ok {β : Nat → Nat} {N x len : Nat} {E : kc_E} {i : kc_V} {d f : kc_F} {fs : List kc_F} {V V' : Nat → Value} (hi : kc_ixn E i x) (h : ∀ j, j < len → kc_t β N (fs.getD j d) (V j)) (ht : ∀ j, j < len → (fs.getD j d).1 = d.1) (hf : f.1 = d.1) (hw : kc_t β N f (V' x)) (ho : ∀ j, j ≠ x → V' j = V j) : ∀ j, j < len → kc_t β N ((kc_wr E i d fs f).2.getD j (kc_wr E i d fs f).1) (V' j) := by
  intro j hj
  unfold kc_ixn at hi
  unfold kc_wr
  split
  · rename_i hc
    have hx : (kc_lo E i).toNat = x := by omega
    rw [hx]
    split
    · rename_i hl
      dsimp only
      by_cases e : j = x
      · subst e
        rw [List.getD_eq_getElem?_getD, List.getElem?_set_self hl]
        exact hw
      · rw [List.getD_eq_getElem?_getD, List.getElem?_set_ne (Ne.symm e), ← List.getD_eq_getElem?_getD, ho j e]
        exact h j hj
    · rename_i hl
      split
      · rename_i hs
        dsimp only
        by_cases e : j = x
        · subst e
          rw [List.getD_eq_getElem?_getD, List.getElem?_eq_none (by omega)]
          exact kc_sub.ok hs hw
        · rw [ho j e]
          exact h j hj
      · split
        · dsimp only
          have hlen : (fs ++ List.replicate (x - fs.length) d).length = x := by
            rw [List.length_append, List.length_replicate]
            omega
          by_cases e : j = x
          · subst e
            rw [List.getD_eq_getElem?_getD, List.getElem?_append_right (by omega), hlen, Nat.sub_self]
            exact hw
          · rw [ho j e]
            have hh := h j hj
            by_cases e1 : j < fs.length
            · rw [List.getD_eq_getElem?_getD, List.getElem?_append_left (by omega), List.getElem?_append_left e1, ← List.getD_eq_getElem?_getD]
              exact hh
            · rw [List.getD_eq_getElem?_getD, List.getElem?_eq_none (by omega)] at hh
              by_cases e2 : j < x
              · rw [List.getD_eq_getElem?_getD, List.getElem?_append_left (by omega), List.getElem?_append_right (by omega), List.getElem?_replicate, if_pos (by omega)]
                exact hh
              · rw [List.getD_eq_getElem?_getD, List.getElem?_eq_none (by rw [List.length_append, hlen]; simp; omega)]
                exact hh
        · dsimp only
          by_cases e : j = x
          · subst e
            rw [List.getD_eq_getElem?_getD, List.getElem?_eq_none (by omega)]
            exact kc_sub.ok (kc_join.r hf) hw
          · rw [ho j e]
            have hh := h j hj
            by_cases e1 : j < fs.length
            · rw [List.getD_eq_getElem?_getD, List.getElem?_eq_getElem e1] at hh ⊢
              exact hh
            · rw [List.getD_eq_getElem?_getD, List.getElem?_eq_none (by omega)] at hh ⊢
              exact kc_sub.ok (kc_join.l d f) hh
  · split
    · rename_i hs
      obtain ⟨h1, h2⟩ := hs
      subst h2
      dsimp only
      by_cases e : j = x
      · subst e
        exact kc_sub.ok h1 hw
      · rw [ho j e]
        exact h j hj
    · dsimp only
      by_cases e : j = x
      · subst e
        exact kc_sub.ok (kc_join.r (hf.trans (kc_joins.ty fs d).symm)) hw
      · rw [ho j e]
        exact kc_sub.ok (kc_join.l _ f) (kc_joins.at (h j hj) (ht j hj))
theorem kc_tyI {β : Nat → Nat} {N : Nat} {f : kc_F} {x : Int32} (h : kc_t β N f (.int x)) : f.1 = 1 := by
  obtain ⟨t, lo, hi⟩ := f
  unfold kc_t at h
  dsimp only at h ⊢
  split at h
  · rfl
  · obtain ⟨y, e, -⟩ := h; cases e
  · rcases h with ⟨e, -⟩ | ⟨r, e, -⟩ <;> cases e
  · exact absurd h id
theorem kc_tyL {β : Nat → Nat} {N : Nat} {f : kc_F} {x : Int64} (h : kc_t β N f (.long x)) : f.1 = 2 := by
  obtain ⟨t, lo, hi⟩ := f
  unfold kc_t at h
  dsimp only at h ⊢
  split at h
  · obtain ⟨y, e, -⟩ := h; cases e
  · rfl
  · rcases h with ⟨e, -⟩ | ⟨r, e, -⟩ <;> cases e
  · exact absurd h id
theorem kc_tyR {β : Nat → Nat} {N : Nat} {f : kc_F} {x : Option Nat} (h : kc_t β N f (va_rf x)) : f.1 = 3 := by
  obtain ⟨t, lo, hi⟩ := f
  unfold kc_t at h
  dsimp only at h ⊢
  split at h
  · obtain ⟨y, e, -⟩ := h; cases x <;> cases e
  · obtain ⟨y, e, -⟩ := h; cases x <;> cases e
  · rfl
  · exact absurd h id
theorem kc_narb {x : Int32} (h1 : -128 ≤ x.toInt) (h2 : x.toInt ≤ 127) : vp_nar .byte x = x := by
  apply Int32.toInt_inj.mp
  rw [vp_nar_byte, Int8.toInt_toInt32, Int32.toInt_toInt8, Int.bmod_eq_of_le (by omega) (by omega)]
theorem kc_nars {x : Int32} (h1 : -32768 ≤ x.toInt) (h2 : x.toInt ≤ 32767) : vp_nar .short x = x := by
  apply Int32.toInt_inj.mp
  rw [vp_nar_short, Int16.toInt_toInt32, Int32.toInt_toInt16, Int.bmod_eq_of_le (by omega) (by omega)]
theorem kc_narz {x : Int32} (h1 : 0 ≤ x.toInt) (h2 : x.toInt ≤ 1) : vp_nar .boolean x = x := by
  rcases (show x.toInt = 0 ∨ x.toInt = 1 by omega) with q | q
  · have : x = 0 := Int32.toInt_inj.mp q
    subst this
    rfl
  · have : x = 1 := Int32.toInt_inj.mp q
    subst this
    rfl
theorem kc_nat32 {n : Nat} (h : n ≤ 2147483647) : (Int32.ofNat n).toInt = (n : Int) := nI_toInt (n := n) (by omega)
section KI
variable {p : Program} {l : Launch} {e : Env} {R : Room} {s : State} {m : MethodId} {args : Array Value} {below : List Frame} {meth : Method} {c : Code} {Q : State → Prop}
variable {cc : ByteArray} {nL : Nat} {D : va_G} {cl : List vw_C} {A : Nat → Prop} {H0 : Heap}
variable {nA : Nat} {ρ0 : Nat → Int} {nB : Nat} {β0 : Nat → Nat}
variable {E E' : kc_E} {L K K' : List kc_V} {Hs Hs' : List kc_G} {cs ss pc : Nat}
/-- the law's script: its length and its ints are symbols -/
def kc_X (s : State) (A : Nat → Prop) (H0 : Heap) (nA : Nat) (ρ0 : Nat → Int) (β0 : Nat → Nat) : Prop := ∃ (Ln : Nat) (xs : Nat → Int32), va_X (β0 0) Ln xs s H0 ∧ ¬ A (β0 0) ∧ β0 0 < H0.size ∧ Ln ≤ 2147483647 ∧ 1 < nA ∧ Ln + 2 ≤ nA ∧ ρ0 1 = (Ln : Int) ∧ ∀ j, j < Ln → ρ0 (2 + j) = (xs j).toInt
set_option maxHeartbeats 4000000 in
theorem kc_ald.ok {ins : Instr} (h : kc_ald ins E K Hs = some (E', K')) (hx : p.tables.exec = Jvm.exec) (hb : c.code = cc) (hd : decode cc pc = .ok (ins, 1)) (hX : (∃ n d K2 i, K = i :: (5, n, d) :: K2) → kc_X s A H0 nA ρ0 β0)
    (k : kc_J p l e R s m args below meth c Q D cl A H0 nL nA ρ0 nB β0 (pc + 1) (E', L, K', Hs, cs, ss)) : kc_J p l e R s m args below meth c Q D cl A H0 nL nA ρ0 nB β0 pc (E, L, K, Hs, cs, ss) := by
  intro ρ β ws tys H locs ls lv st hk hg
  have hE : kc_env ρ E := hk.1
  have h0 := hk.2.1
  have hst : kc_stk ρ β Hs.length E.length K st := hk.2.2.2.2.1
  obtain ⟨hK, hPw, hD, hS, hC⟩ := hk.2.2.2.2.2
  unfold kc_ald at h
  split at h
  · rename_i ni di n d K2
    split at h
    · rename_i r kd ci ty len f0 fs vs e1
      split at h
      · rename_i hc
        simp only [Bool.and_eq_true] at hc
        obtain ⟨⟨c1, c2⟩, c3⟩ := hc
        have c3 := of_decide_eq_true c3
        cases h
        obtain ⟨vi, st1, rfl, hlti, ⟨x, rfl, exi⟩, hst1⟩ := kc_stk.uncons hst
        obtain ⟨v, st', rfl, hlt, hv, hst'⟩ := kc_stk.uncons hst1
        obtain ⟨rfl, hH⟩ := kc_cell.ok e1 hE hv
        obtain ⟨e0, w1, w3⟩ := hC.2 _ _ hH
        have go : ∀ v1 : Value, kc_t β Hs.length (kc_at E (1, ni, di) f0 fs) v1 → W p l e R s m args below meth c H locs cs ss Q (F0 m (pc + 1) ls (v1 :: st')) := fun v1 h9 => kc_J.res k hk hg hst' (kc_rd.ok hE h0 h9)
        obtain ⟨i1, i2, i3⟩ := kc_ix.ok c2 hE exi
        unfold kc_alk at c1
        split at c1
        · obtain ⟨rfl, rfl⟩ := of_decide_eq_true c1
          obtain ⟨cA, t0, h2, rfl, w4, w7⟩ := w3
          have w8 := w7 _ i2
          exact va_iald hx hb hK hPw r t0 w1 w4 i1 hd (go _ (kc_at.ok i3 w8 ((kc_tyI w8).trans c3.symm)))
        · obtain ⟨rfl, hty⟩ := of_decide_eq_true c1
          obtain ⟨cA, t0, h2, rfl, w4, w7⟩ := w3
          have w8 := w7 _ i2
          rcases hty with rfl | rfl
          · exact va_bald hx hb hK hPw r t0 w1 w4 i1 hd (go _ (kc_at.ok i3 w8 ((kc_tyI w8).trans c3.symm)))
          · exact va_zald hx hb hK hPw r t0 w1 w4 i1 hd (go _ (kc_at.ok i3 w8 ((kc_tyI w8).trans c3.symm)))
        · obtain ⟨rfl, rfl⟩ := of_decide_eq_true c1
          obtain ⟨cA, t0, h2, rfl, w4, w7⟩ := w3
          have w8 := w7 _ i2
          exact va_sald hx hb hK hPw r t0 w1 w4 i1 hd (go _ (kc_at.ok i3 w8 ((kc_tyI w8).trans c3.symm)))
        · cases of_decide_eq_true c1
          obtain ⟨cA, t0, h2, rfl, w4, w7⟩ := w3
          have w8 := w7 _ i2
          exact va_lald hx hb hK hPw r t0 w1 w4 i1 hd (go _ (kc_at.ok i3 w8 ((kc_tyL w8).trans c3.symm)))
        · obtain ⟨rfl, hty⟩ := of_decide_eq_true c1
          obtain ⟨cA, t0, h2, rfl, w4, w7⟩ := w3
          have w8 := w7 _ i2
          exact W.aald (v := va_rf (h2 x.toNatClampNeg)) (ty := ty) hx hb (hPw r _ w1) ((hK.2 t0 _ w4).1 len (fun j => va_rf (h2 j))) hty (fun q => by cases q) (by show ¬ (x < 0 ∨ (arrV _ _ _).slots.size ≤ _); rw [arrV_size]; exact i1) (by show (arrV _ _ _).slots[_]? = _; rw [arrV_read _ _ i2]) rfl rfl hd (go _ (kc_at.ok i3 w8 ((kc_tyR w8).trans c3.symm)))
        · cases c1
      · cases h
    · cases h
  · rename_i ni di n d K2
    split at h
    · split at h
      · rename_i hc
        cases h
        obtain ⟨Ln, xs, x1, x2, x3, x4, x5, x6, x7, x8⟩ := hX ⟨n, d, K2, _, rfl⟩
        obtain ⟨vi, st1, rfl, hlti, ⟨x, rfl, exi⟩, hst1⟩ := kc_stk.uncons hst
        obtain ⟨v, st', rfl, hlt, hv, hst'⟩ := kc_stk.uncons hst1
        have hv : v = .ref (β 0) := hv
        subst hv
        have hbi := hE.at (1, ni, di)
        have hb1 := hE.at (1, 1, 0)
        obtain ⟨g1, g2, g3, g4⟩ := hg
        have g1 : nA ≤ E.length := g1
        rw [g4 0 (Nat.zero_le _)]
        rw [g4 0 (Nat.zero_le _)] at hk
        have hr1 := g3 1 x5
        dsimp only at hbi hb1 exi
        have h9 : (x.toNatClampNeg : Int) = x.toInt := Int32.cast_toNatClampNeg x (by
          rw [Int32.le_iff_toInt_le]
          show (0 : Int) ≤ _
          omega)
        have hlt2 : x.toNatClampNeg < Ln := by omega
        have hin : vp_in x Ln := vp_in_iff.mpr ⟨by omega, by omega⟩
        have hj : (kc_lo E (1, ni, di)).toNat = x.toNatClampNeg := by omega
        refine va_sld hx hb x1 x3 x2 hS hin hd ?_
        rw [hj] at k
        refine kc_J.res k hk ⟨g1, g2, g3, g4⟩ hst' (kc_r.old hE (by dsimp only; omega) ⟨_, rfl, ?_⟩)
        dsimp only
        rw [g3 _ (by omega), x8 _ hlt2]
        omega
      · cases h
    · cases h
  · cases h
set_option maxHeartbeats 4000000 in
theorem kc_aln.ok (h : kc_aln E K Hs = some (E', K')) (hx : p.tables.exec = Jvm.exec) (hb : c.code = cc) (hd : decode cc pc = .ok (.arraylength, 1)) (hX : (∃ n d K2, K = (5, n, d) :: K2) → kc_X s A H0 nA ρ0 β0)
    (k : kc_J p l e R s m args below meth c Q D cl A H0 nL nA ρ0 nB β0 (pc + 1) (E', L, K', Hs, cs, ss)) : kc_J p l e R s m args below meth c Q D cl A H0 nL nA ρ0 nB β0 pc (E, L, K, Hs, cs, ss) := by
  intro ρ β ws tys H locs ls lv st hk hg
  have hE : kc_env ρ E := hk.1
  have h0 := hk.2.1
  have hst : kc_stk ρ β Hs.length E.length K st := hk.2.2.2.2.1
  obtain ⟨hK, hPw, hD, hS, hC⟩ := hk.2.2.2.2.2
  unfold kc_aln at h
  split at h
  · rename_i n d K2
    split at h
    · rename_i r kd ci ty len rst e1
      split at h
      · rename_i hc
        cases h
        obtain ⟨v, st', rfl, hlt, hv, hst'⟩ := kc_stk.uncons hst
        obtain ⟨rfl, hH⟩ := kc_cell.ok e1 hE hv
        obtain ⟨e0, w1, w3⟩ := hC.2 _ _ hH
        have go : W p l e R s m args below meth c H locs cs ss Q (F0 m (pc + 1) ls (.int (Int32.ofNat len) :: st')) := kc_J.res k hk hg hst' (kc_r.old hE h0.1 ⟨_, rfl, by dsimp only; rw [kc_nat32 (by omega)]; omega⟩)
        unfold kc_e at w3
        split at w3
        · exact absurd (by assumption) hc.1
        · obtain ⟨cA, t0, h2, rfl, w4, w7⟩ := w3
          exact va_alen hx hb hK hPw r t0 w1 w4 rfl hd go
        · obtain ⟨cA, t0, h2, rfl, w4, w7⟩ := w3
          exact va_alen hx hb hK hPw r t0 w1 w4 rfl hd go
        · obtain ⟨cA, t0, h2, rfl, w4, w7⟩ := w3
          exact va_alen hx hb hK hPw r t0 w1 w4 rfl hd go
        · exact absurd w3 id
      · cases h
    · cases h
  · rename_i n d K2
    cases h
    obtain ⟨Ln, xs, x1, x2, x3, x4, x5, x6, x7, x8⟩ := hX ⟨n, d, K2, rfl⟩
    obtain ⟨v, st', rfl, hlt, hv, hst'⟩ := kc_stk.uncons hst
    have hv : v = .ref (β 0) := hv
    subst hv
    obtain ⟨g1, g2, g3, g4⟩ := hg
    have g1 : nA ≤ E.length := g1
    rw [g4 0 (Nat.zero_le _)]
    rw [g4 0 (Nat.zero_le _)] at hk
    refine va_slen hx hb x1 x3 x2 hS hd ?_
    refine kc_J.res k hk ⟨g1, g2, g3, g4⟩ hst' (kc_r.old hE (by dsimp only; omega) ⟨_, rfl, ?_⟩)
    dsimp only
    rw [g3 1 x5, x7, kc_nat32 (by omega)]
    omega
  · cases h
end KI
end
section
theorem kc_cat.ok {ρ : Nat → Int} {β : Nat → Nat} {N n : Nat} : ∀ {K : List kc_V} {st : List Value}, kc_stk ρ β N n K st → (st.map fun v => v.category).sum = kc_cat K
  | [], [], _ => rfl
  | (t, b, d) :: K, v :: st, h => by
    have h1 := kc_cat.ok h.2.2
    unfold kc_cat at h1 ⊢
    rw [List.map_cons, List.sum_cons, List.map_cons, List.sum_cons, h1]
    by_cases e : t = 2
    · subst e
      rw [kc_cat2 h.2.1]
      rfl
    · rw [kc_cat1 h.2.1 e, if_neg e]
  | [], _ :: _, h => absurd h id
  | _ :: _, [], h => absurd h id
section KJ
variable {p : Program} {l : Launch} {e : Env} {R : Room} {s : State} {m : MethodId} {args : Array Value} {below : List Frame} {meth : Method} {c : Code} {Q : State → Prop}
variable {cc : ByteArray} {nL : Nat} {D : va_G} {cl : List vw_C} {A : Nat → Prop} {H0 : Heap}
variable {nA : Nat} {ρ0 : Nat → Int} {nB : Nat} {β0 : Nat → Nat}
variable {E E' : kc_E} {L K K' : List kc_V} {Hs Hs' : List kc_G} {cs ss pc : Nat}
theorem kc_upd_ne {f : Nat → Int32} {i j : Nat} {x : Int32} (h : j ≠ i) : upd f i x j = f j := pk_un h
theorem kc_upd_eq {f : Nat → Int32} {i : Nat} {x : Int32} : upd f i x i = x := pk_us
/-- a cell changed, all else as it is -/
theorem kc_J.st {ρ : Nat → Int} {β : Nat → Nat} {ws : va_W} {tys : List (ClassId × FieldType)} {H H1 : Heap} {locs locs1 : List Loc} {ls : Array Slot} {lv : List (Nat × Value)} {st st' : List Value} {r : Nat} {g : kc_G} {e' : va_E}
    (k : kc_J p l e R s m args below meth c Q D cl A H0 nL nA ρ0 nB β0 pc (E, L, K', Hs.set r g, cs, ss)) (hk : kc_ok D cl A s H0 nL E L K Hs ρ β ws tys H locs ls lv st) (hg : kc_ag nA ρ0 nB β0 E.length Hs.length ρ β) (hst' : kc_stk ρ β Hs.length E.length K' st')
    (u0 : kc_e ρ β Hs.length E.length tys g e') (u1 : va_P D cl (ws.set r (β (r + 1), e')) H1) (u2 : va_D A (ws.set r (β (r + 1), e'))) (u3 : va_S A H0 H1 locs1) : W p l e R s m args below meth c H1 locs1 cs ss Q (F0 m pc ls st') := by
  obtain ⟨hE, h0, hL, hl, hst, hK, hPw, hD, hS, hC⟩ := hk
  exact k ρ β _ tys H1 locs1 ls lv st' ⟨hE, h0, by dsimp only; rw [List.length_set]; exact hL, hl, by dsimp only; rw [List.length_set]; exact hst', hK, u1, u2, u3, hC.set u0⟩ (by dsimp only; rw [List.length_set]; exact hg)
set_option maxHeartbeats 4000000 in
theorem kc_ast.ok {ins : Instr} (h : kc_ast ins E K Hs = some (K', Hs')) (hx : p.tables.exec = Jvm.exec) (hb : c.code = cc) (hd : decode cc pc = .ok (ins, 1))
    (k : kc_J p l e R s m args below meth c Q D cl A H0 nL nA ρ0 nB β0 (pc + 1) (E, L, K', Hs', cs, ss)) : kc_J p l e R s m args below meth c Q D cl A H0 nL nA ρ0 nB β0 pc (E, L, K, Hs, cs, ss) := by
  intro ρ β ws tys H locs ls lv st hk hg
  have hE : kc_env ρ E := hk.1
  have hst : kc_stk ρ β Hs.length E.length K st := hk.2.2.2.2.1
  obtain ⟨hK, hPw, hD, hS, hC⟩ := hk.2.2.2.2.2
  unfold kc_ast at h
  split at h
  · rename_i a ni di n d K2
    split at h
    · rename_i r kd ci ty len f0 fs vs e1
      split at h
      · rename_i hc
        simp only [Bool.and_eq_true] at hc
        obtain ⟨⟨c1, c2⟩, c3⟩ := hc
        have c3 := of_decide_eq_true c3
        cases h
        obtain ⟨va, st0, rfl, hlta, hva, hst0⟩ := kc_stk.uncons hst
        obtain ⟨vi, st1, rfl, hlti, ⟨x, rfl, exi⟩, hst1⟩ := kc_stk.uncons hst0
        obtain ⟨v, st', rfl, hlt, hv, hst'⟩ := kc_stk.uncons hst1
        obtain ⟨rfl, hH⟩ := kc_cell.ok e1 hE hv
        obtain ⟨e0, w1, w3⟩ := hC.2 _ _ hH
        obtain ⟨i1, i2, i3⟩ := kc_ix.ok c2 hE exi
        have hba := hE.at a
        obtain ⟨at1, an, ad⟩ := a
        dsimp only at hba
        have ht : at1 ≠ 5 → kc_t β Hs.length (kc_fv E (at1, an, ad)) va := fun h5 => hva.write h5 rfl (by unfold kc_fv; dsimp only; omega) (by unfold kc_fv; dsimp only; omega)
        unfold kc_ask kc_fv at c1
        dsimp only at c1
        split at c1
        · obtain ⟨rfl, rfl, rfl⟩ := of_decide_eq_true c1
          obtain ⟨cA, t0, h2, rfl, w4, w7⟩ := w3
          obtain ⟨y, rfl, ey⟩ := hva
          exact va_iast hx hb hK hPw hD hS r t0 w1 w4 i1 hd (fun H1 locs1 u1 u2 u3 => kc_J.st k hk hg hst' ⟨cA, t0, _, rfl, w4, kc_wr.ok (V := fun j => .int (h2 j)) (V' := fun j => .int (upd h2 x.toNatClampNeg y j)) i3 w7 (fun j hj => (kc_tyI (w7 j hj)).trans c3.symm) c3.symm (by rw [kc_upd_eq]; exact ht (by decide)) (fun j hj => by rw [kc_upd_ne hj])⟩ u1 u2 u3)
        · obtain ⟨rfl, hty⟩ := of_decide_eq_true c1
          obtain ⟨cA, t0, h2, rfl, w4, w7⟩ := w3
          rcases hty with ⟨rfl, rfl, b1, b2⟩ | ⟨rfl, rfl, b1, b2⟩
          · obtain ⟨y, rfl, ey⟩ := hva
            dsimp only at ey
            have hy := kc_narb (x := y) (by omega) (by omega)
            exact va_bast hx hb hK hPw hD hS r t0 w1 w4 i1 hd (fun H1 locs1 u1 u2 u3 => kc_J.st k hk hg hst' ⟨cA, t0, _, rfl, w4, kc_wr.ok (V := fun j => .int (h2 j)) (V' := fun j => .int (upd h2 x.toNatClampNeg (vp_nar .byte y) j)) i3 w7 (fun j hj => (kc_tyI (w7 j hj)).trans c3.symm) c3.symm (by rw [kc_upd_eq, hy]; exact ht (by decide)) (fun j hj => by rw [kc_upd_ne hj])⟩ u1 u2 u3)
          · obtain ⟨y, rfl, ey⟩ := hva
            dsimp only at ey
            have hy := kc_narz (x := y) (by omega) (by omega)
            exact va_zast hx hb hK hPw hD hS r t0 w1 w4 i1 hd (fun H1 locs1 u1 u2 u3 => kc_J.st k hk hg hst' ⟨cA, t0, _, rfl, w4, kc_wr.ok (V := fun j => .int (h2 j)) (V' := fun j => .int (upd h2 x.toNatClampNeg (vp_nar .boolean y) j)) i3 w7 (fun j hj => (kc_tyI (w7 j hj)).trans c3.symm) c3.symm (by rw [kc_upd_eq, hy]; exact ht (by decide)) (fun j hj => by rw [kc_upd_ne hj])⟩ u1 u2 u3)
        · obtain ⟨rfl, rfl, rfl, b1, b2⟩ := of_decide_eq_true c1
          obtain ⟨cA, t0, h2, rfl, w4, w7⟩ := w3
          obtain ⟨y, rfl, ey⟩ := hva
          dsimp only at ey
          have hy := kc_nars (x := y) (by omega) (by omega)
          exact va_sast hx hb hK hPw hD hS r t0 w1 w4 i1 hd (fun H1 locs1 u1 u2 u3 => kc_J.st k hk hg hst' ⟨cA, t0, _, rfl, w4, kc_wr.ok (V := fun j => .int (h2 j)) (V' := fun j => .int (upd h2 x.toNatClampNeg (vp_nar .short y) j)) i3 w7 (fun j hj => (kc_tyI (w7 j hj)).trans c3.symm) c3.symm (by rw [kc_upd_eq, hy]; exact ht (by decide)) (fun j hj => by rw [kc_upd_ne hj])⟩ u1 u2 u3)
        · obtain ⟨rfl, rfl⟩ := of_decide_eq_true c1
          obtain ⟨cA, t0, h2, rfl, w4, w7⟩ := w3
          obtain ⟨y, rfl, ey⟩ := hva
          exact va_last hx hb hK hPw hD hS r t0 w1 w4 i1 hd (fun H1 locs1 u1 u2 u3 => kc_J.st k hk hg hst' ⟨cA, t0, _, rfl, w4, kc_wr.ok (V := fun j => .long (h2 j)) (V' := fun j => .long (vp_updL h2 x.toNatClampNeg y j)) i3 w7 (fun j hj => (kc_tyL (w7 j hj)).trans c3.symm) c3.symm (by rw [pk_uLs]; exact ht (by decide)) (fun j hj => by rw [pk_uLn hj])⟩ u1 u2 u3)
        · cases c1
      · cases h
    · cases h
  · cases h
set_option maxHeartbeats 4000000 in
theorem kc_aas.ok {cn : Nat → FieldType} (h : kc_aas cn E K Hs = some (K', Hs')) (hx : p.tables.exec = Jvm.exec) (hb : c.code = cc) (hcn : ∀ (ci : Nat) (z : vw_C), cl[ci]? = some z → cn ci = .object z.1) (hd : decode cc pc = .ok (.aastore, 1))
    (k : kc_J p l e R s m args below meth c Q D cl A H0 nL nA ρ0 nB β0 (pc + 1) (E, L, K', Hs', cs, ss)) : kc_J p l e R s m args below meth c Q D cl A H0 nL nA ρ0 nB β0 pc (E, L, K, Hs, cs, ss) := by
  intro ρ β ws tys H locs ls lv st hk hg
  have hE : kc_env ρ E := hk.1
  have hst : kc_stk ρ β Hs.length E.length K st := hk.2.2.2.2.1
  obtain ⟨hK, hPw, hD, hS, hC⟩ := hk.2.2.2.2.2
  unfold kc_aas at h
  split at h
  · rename_i na da ni di n d K2
    split at h
    · rename_i r ci ty len f0 fs vs r2 ca rst e1 e2
      split at h
      · rename_i hc
        simp only [Bool.and_eq_true] at hc
        obtain ⟨⟨c1, c2⟩, c3⟩ := hc
        have c1 := of_decide_eq_true c1
        have c3 := of_decide_eq_true c3
        cases h
        obtain ⟨va, st0, rfl, hlta, hva, hst0⟩ := kc_stk.uncons hst
        obtain ⟨vi, st1, rfl, hlti, ⟨x, rfl, exi⟩, hst1⟩ := kc_stk.uncons hst0
        obtain ⟨v, st', rfl, hlt, hv, hst'⟩ := kc_stk.uncons hst1
        obtain ⟨rfl, hH⟩ := kc_cell.ok e1 hE hv
        obtain ⟨e0, w1, w3⟩ := hC.2 _ _ hH
        obtain ⟨i1, i2, i3⟩ := kc_ix.ok c2 hE exi
        have hba := hE.at (3, na, da)
        dsimp only at hba
        have ht : kc_t β Hs.length (kc_fv E (3, na, da)) va := hva.write (show (3 : Nat) ≠ 5 by decide) rfl (by unfold kc_fv; dsimp only; omega) (by unfold kc_fv; dsimp only; omega)
        obtain ⟨rfl, hH2⟩ := kc_cell.ok e2 hE hva
        obtain ⟨e3, v1, v3⟩ := hC.2 _ _ hH2
        obtain ⟨fs2, rfl, -⟩ := v3
        have hz0 : ∃ z : vw_C, cl[ca]? = some z ∧ _ := hPw _ _ v1
        obtain ⟨z, hz, -⟩ := hz0
        have hcz := hcn _ _ hz
        obtain ⟨cA, t0, h2, rfl, w4, w7⟩ := w3
        dsimp only at w4
        rw [c1, hcz] at w4
        refine va_astq hx hb hK hPw hD hS r t0 r2 ca w1 w4 v1 hz i1 hd (fun H1 locs1 u1 u2 u3 => ?_)
        refine kc_J.st k hk hg hst' ⟨cA, t0, _, rfl, by dsimp only; rw [c1, hcz]; exact w4, kc_wr.ok (V := fun j => va_rf (h2 j)) (V' := fun j => va_rf (va_up h2 x.toNatClampNeg (some (β (r2 + 1))) j)) i3 w7 (fun j hj => (kc_tyR (w7 j hj)).trans c3.symm) c3.symm (by rw [va_up_self]; exact ht) (fun j hj => by rw [va_up_ne _ _ hj])⟩ u1 u2 u3
      · cases h
    · cases h
  · cases h
set_option maxHeartbeats 4000000 in
theorem kc_acp.ok {own : String} {ix : Nat} (h : kc_acp E K Hs = some (K', Hs')) (hx : p.tables.exec = Jvm.exec) (hb : c.code = cc) (hml : c.maxLocals = nL) (hown : s.vm.findClass own = some m.cls) (hlink : (Cond.methodLink own ix arraycopyName).before args s = true) (hnat : (Cond.native arraycopyName).before args s = true) (hstat : (Cond.static arraycopyName).before args s = true) (hini : (Cond.initialized "java/lang/System").before args s = true)
    (hframes : 1 ≤ R.frames) (hlocals : 8 + (nativeFrameWords "java/lang/System" "arraycopy" 5 + 11) ≤ R.locals) (hd : decode cc pc = .ok (.invokestatic ix, 3))
    (k : kc_J p l e R s m args below meth c Q D cl A H0 nL nA ρ0 nB β0 (pc + 3) (E, L, K', Hs', cs, ss)) : kc_J p l e R s m args below meth c Q D cl A H0 nL nA ρ0 nB β0 pc (E, L, K, Hs, cs, ss) := by
  intro ρ β ws tys H locs ls lv st hk hg
  have hE : kc_env ρ E := hk.1
  have hl : lv_has ls nL lv := hk.2.2.2.1
  have hst : kc_stk ρ β Hs.length E.length K st := hk.2.2.2.2.1
  obtain ⟨hK, hPw, hD, hS, hC⟩ := hk.2.2.2.2.2
  unfold kc_acp at h
  split at h
  · rename_i nl dl nq dq nd dd np dp ns ds K2
    split at h
    · rename_i r1 ci1 len f0 fs vs1 r ci len' f0' fs' vs' e1 e2
      split at h
      · rename_i hc
        obtain ⟨c1, c2, c3, c4, c5, c6, c7, c8⟩ := hc
        cases h
        obtain ⟨v1, st1, rfl, -, ⟨xl, rfl, exl⟩, hst1⟩ := kc_stk.uncons hst
        obtain ⟨v2, st2, rfl, -, ⟨xq, rfl, exq⟩, hst2⟩ := kc_stk.uncons hst1
        obtain ⟨v3, st3, rfl, -, hv3, hst3⟩ := kc_stk.uncons hst2
        obtain ⟨v4, st4, rfl, -, ⟨xp, rfl, exp⟩, hst4⟩ := kc_stk.uncons hst3
        obtain ⟨v5, st5, rfl, -, hv5, hst5⟩ := kc_stk.uncons hst4
        obtain ⟨rfl, hH1⟩ := kc_cell.ok e1 hE hv5
        obtain ⟨rfl, hH2⟩ := kc_cell.ok e2 hE hv3
        obtain ⟨e3, w1, cA, t0, h1, rfl, w4, w7⟩ := hC.2 _ _ hH1
        obtain ⟨e4, w1', cA', t0', h2, rfl, w4', w7'⟩ := hC.2 _ _ hH2
        have b1 := hE.at (1, nl, dl)
        have b2 := hE.at (1, nq, dq)
        have b3 := hE.at (1, np, dp)
        dsimp only at b1 b2 b3 exl exq exp w1 w1' w7 w7'
        have nn : ∀ z : Int32, 0 ≤ z.toInt → ¬ z < 0 ∧ (z.toNatClampNeg : Int) = z.toInt := fun z hz => ⟨fun q => by
          have := Int32.lt_iff_toInt_lt.mp q
          have h9 : (0 : Int32).toInt = 0 := rfl
          omega, Int32.cast_toNatClampNeg z (by rw [Int32.le_iff_toInt_le]; exact hz)⟩
        obtain ⟨l1, l2⟩ := nn xl (by omega)
        obtain ⟨q1, q2⟩ := nn xq (by omega)
        obtain ⟨p1, p2⟩ := nn xp (by omega)
        refine va_copyi hx hb (hml.trans hl.1.symm) hown hlink hnat hstat hini hK hPw hD hS r1 r t0 t0' w1 w1' w4 w4' rfl p1 q1 l1 (by omega) (by omega) (fun _ _ => rfl) hframes (by rw [kc_cat.ok hst5]; omega) hd (fun H1 locs1 u1 u2 u3 => ?_)
        refine kc_J.st k hk hg hst5 ?_ u1 u2 u3
        have hcp : ∀ j, j < len' → kc_t β Hs.length (fs'.getD j f0') (.int (va_cpy h1 h2 xp.toNatClampNeg xq.toNatClampNeg xl.toNatClampNeg j)) ∨ kc_t β Hs.length (kc_joins f0 fs) (.int (va_cpy h1 h2 xp.toNatClampNeg xq.toNatClampNeg xl.toNatClampNeg j)) := fun j hj => by
          by_cases hin : xq.toNatClampNeg ≤ j ∧ j < xq.toNatClampNeg + xl.toNatClampNeg
          · rw [pk_cpy_in hin.1 hin.2]
            have h9 := w7 (xp.toNatClampNeg + (j - xq.toNatClampNeg)) (by omega)
            exact Or.inr (kc_joins.at h9 ((kc_tyI h9).trans c1.symm))
          · rw [pk_cpy_out (by omega)]
            exact Or.inl (w7' j hj)
        split
        · rename_i hs
          obtain ⟨s1, s2⟩ := hs
          subst s2
          refine ⟨cA', t0', _, rfl, w4', fun j hj => ?_⟩
          rcases hcp j hj with h9 | h9
          · exact h9
          · exact kc_sub.ok s1 h9
        · refine ⟨cA', t0', _, rfl, w4', fun j hj => ?_⟩
          dsimp only
          rcases hcp j hj with h9 | h9
          · exact kc_sub.ok (kc_join.l _ _) (kc_joins.at h9 ((kc_tyI h9).trans c2.symm))
          · exact kc_sub.ok (kc_join.r (by rw [kc_joins.ty, kc_joins.ty, c1, c2])) h9
      · cases h
    · cases h
  · cases h
end KJ
end
section
theorem va_AOA.moved {ty : FieldType} {u U : State} (hvm : u.vm.Alike U.vm) (h : va_AOA ty u) : va_AOA ty U := by
  unfold va_AOA Cond.before Cond.holds at h ⊢
  simp only [Cond.value, beq_iff_eq] at h ⊢
  cases hc : u.vm.findClass (FieldType.array ty).toString with
  | none => simp [hc] at h
  | some comp =>
    have f1 : U.vm.findClass (FieldType.array ty).toString = some comp := by rw [hvm.findClass]; exact hc
    simp only [hc, Option.bind_some, Option.bind_eq_some_iff, Option.map_eq_some_iff] at h
    obtain ⟨c, hi, k, hk, hb⟩ := h
    obtain ⟨k', hk', he⟩ := hvm.2.2 _ _ hk
    have e1 := va_idx_bare U.vm comp
    have e2 := va_idx_bare u.vm comp
    have e3 : U.vm.bare = u.vm.bare := by first | exact hvm.bare_eq | exact hvm.bare_eq.symm
    rw [e3] at e1
    have hi2 := e1.symm.trans (e2.trans hi)
    rw [f1, Option.bind_some]
    refine (congrArg (fun o : Option Nat => o.bind _) hi2).trans ?_
    rw [Option.bind_some, hk', Option.map_some]
    have hkk : k'.kind = k.kind := by rw [he]
    rw [hkk, hvm.findClass]
    exact congrArg some hb
theorem kc_up_lt {β : Nat → Nat} {N q k : Nat} (h : k ≤ N) : va_up β (N + 1) q k = β k := va_up_ne _ _ (by omega)
/-- the cells with a new one -/
theorem kc_C.push {ρ : Nat → Int} {β : Nat → Nat} {n q : Nat} {tys tys' : List (ClassId × FieldType)} {Hs : List kc_G} {ws : va_W} {g : kc_G} {e' : va_E} (h : kc_C ρ β n tys Hs ws) (ht : ∀ (k : Nat) (z : ClassId × FieldType), tys[k]? = some z → tys'[k]? = some z) (hg : kc_e ρ (va_up β (Hs.length + 1) q) (Hs.length + 1) n tys' g e') : kc_C ρ (va_up β (Hs.length + 1) q) n tys' (Hs ++ [g]) (ws ++ [(q, e')]) := by
  refine ⟨by simp [h.1], fun k g1 hk => ?_⟩
  rw [List.length_append, List.length_singleton]
  by_cases hl : k < Hs.length
  · rw [List.getElem?_append_left hl] at hk
    obtain ⟨e0, w1, w2⟩ := h.2 k g1 hk
    refine ⟨e0, ?_, w2.ext (fun _ _ => rfl) (fun j hj => kc_up_lt hj) (Nat.le_succ _) (Nat.le_refl _) ht⟩
    rw [List.getElem?_append_left (by rw [h.1]; exact hl), kc_up_lt (by omega)]
    exact w1
  · rw [List.getElem?_append_right (by omega)] at hk
    have h0 : k - Hs.length < 1 := (List.getElem?_eq_some_iff.mp hk).1
    have e0 : k = Hs.length := by omega
    subst e0
    rw [Nat.sub_self] at hk
    cases hk
    refine ⟨e', ?_, hg⟩
    rw [List.getElem?_append_right (by rw [h.1]; exact Nat.le_refl _), h.1, Nat.sub_self, va_up_self]
    rfl
/-- .. with more -/
theorem kc_C.tys {ρ : Nat → Int} {β : Nat → Nat} {n : Nat} {tys tys' : List (ClassId × FieldType)} {Hs : List kc_G} {ws : va_W} (h : kc_C ρ β n tys Hs ws) (ht : ∀ (k : Nat) (z : ClassId × FieldType), tys[k]? = some z → tys'[k]? = some z) : kc_C ρ β n tys' Hs ws := ⟨h.1, fun k g hk => by
  obtain ⟨e, e1, e2⟩ := h.2 k g hk
  exact ⟨e, e1, e2.ext (fun _ _ => rfl) (fun _ _ => rfl) (Nat.le_refl _) (Nat.le_refl _) ht⟩⟩
theorem kc_tys_app {tys t2 : List (ClassId × FieldType)} (k : Nat) (z : ClassId × FieldType) (h : tys[k]? = some z) : (tys ++ t2)[k]? = some z := by
  rw [List.getElem?_append_left (List.getElem?_eq_some_iff.mp h).1]
  exact h
theorem kc_dft.ok {ρ : Nat → Int} {β : Nat → Nat} {N : Nat} {ty : FieldType} (h : kc_pl ty = true) (h0 : ρ 0 = 0) : (kc_dft ty).2.1 = 0 ∧ kc_v ρ β N (kc_dft ty) (defaultValue ty) := by
  unfold kc_pl at h
  split at h
  · exact ⟨rfl, 0, rfl, by show (0 : Int) = ρ 0 + 0; omega⟩
  · exact ⟨rfl, 0, rfl, by show (0 : Int) = ρ 0 + 0; omega⟩
  · exact ⟨rfl, 0, rfl, by show (0 : Int) = ρ 0 + 0; omega⟩
  · exact ⟨rfl, 0, rfl, by show (0 : Int) = ρ 0 + 0; omega⟩
  · exact ⟨rfl, 0, rfl, by show (0 : Int) = ρ 0 + 0; omega⟩
  · exact ⟨rfl, 0, rfl, by show (0 : Int) = ρ 0 + 0; omega⟩
  · exact ⟨rfl, Or.inl ⟨rfl, by show ρ 0 + 0 = 0; omega⟩⟩
  · exact ⟨rfl, Or.inl ⟨rfl, by show ρ 0 + 0 = 0; omega⟩⟩
  · cases h
/-- a class's own links to classes of which it makes objects -/
def kc_NL (cl : List vw_C) (own : String) (Ts : List Jvm.Cond) (nw : Nat → Option Nat) : Prop := ∀ (ix ci : Nat), nw ix = some ci → ∃ z : vw_C, cl[ci]? = some z ∧ Jvm.Cond.classLink own ix z.1 ∈ Ts ∧ Jvm.Cond.instantiable z.1 z.2.2 ∈ Ts ∧ Jvm.Cond.initialized z.1 ∈ Ts
section KK
variable {p : Program} {l : Launch} {e : Env} {R : Room} {s : State} {m : MethodId} {args : Array Value} {below : List Frame} {meth : Method} {c : Code} {Q : State → Prop}
variable {cc : ByteArray} {nL : Nat} {D : va_G} {cl : List vw_C} {A : Nat → Prop} {H0 : Heap}
variable {nA : Nat} {ρ0 : Nat → Int} {nB : Nat} {β0 : Nat → Nat}
variable {E E' : kc_E} {L K K' : List kc_V} {Hs Hs' : List kc_G} {cs ss cs' ss' pc : Nat} {fd : Nat → List (FieldType × Bool)} {Ts : List Jvm.Cond} {own : String} {RC RS : Nat}
/-- the executor's state with a new cell -/
theorem kc_J.cell {ρ : Nat → Int} {β : Nat → Nat} {ws : va_W} {tys tys' : List (ClassId × FieldType)} {H H1 : Heap} {locs locs1 : List Loc} {ls : Array Slot} {lv : List (Nat × Value)} {st st' : List Value} {q : Nat} {g : kc_G} {e' : va_E}
    (k : kc_J p l e R s m args below meth c Q D cl A H0 nL nA ρ0 nB β0 pc (E, L, (3, 0, ((Hs.length + 1 : Nat) : Int)) :: K', Hs ++ [g], cs, ss)) (hk : kc_ok D cl A s H0 nL E L K Hs ρ β ws tys H locs ls lv st) (hg : kc_ag nA ρ0 nB β0 E.length Hs.length ρ β) (hst' : kc_stk ρ β Hs.length E.length K' st')
    (hK1 : va_K D cl tys' s) (u1 : va_P D cl (ws ++ [(q, e')]) H1) (u2 : va_D A (ws ++ [(q, e')])) (u3 : va_S A H0 H1 locs1) (ht : ∀ (k : Nat) (z : ClassId × FieldType), tys[k]? = some z → tys'[k]? = some z)
    (hne : kc_e ρ (va_up β (Hs.length + 1) q) (Hs.length + 1) E.length tys' g e') : W p l e R s m args below meth c H1 locs1 cs ss Q (F0 m pc ls (.ref q :: st')) := by
  obtain ⟨hE, h0, hL, hl, hst, hK, hPw, hD, hS, hC⟩ := hk
  have hlen : (Hs ++ [g]).length = Hs.length + 1 := by simp
  refine k ρ (va_up β (Hs.length + 1) q) _ tys' H1 locs1 ls lv (.ref q :: st') ⟨hE, h0, ?_, hl, ?_, hK1, u1, u2, u3, hC.push ht hne⟩ ?_
  · dsimp only
    rw [hlen]
    exact hL.ext (fun _ _ => rfl) (fun j hj => kc_up_lt hj) (Nat.le_succ _) (Nat.le_refl _)
  · dsimp only
    rw [hlen]
    refine ⟨h0.1, Or.inr ⟨Hs.length + 1, by rw [va_up_self], by omega, Nat.le_refl _, ?_⟩, kc_stk.ext (fun _ _ => rfl) (fun j hj => kc_up_lt hj) (Nat.le_succ _) (Nat.le_refl _) hst'⟩
    dsimp only
    omega
  · dsimp only
    rw [hlen]
    exact hg.ext (fun _ _ => rfl) (fun j hj => kc_up_lt hj) (Nat.le_refl _) (Nat.le_succ _)
set_option maxHeartbeats 4000000 in
theorem kc_new.ok {nw : Nat → Option Nat} {ix : Nat} (h : kc_new nw fd RC RS ix E K Hs cs ss = some (K', Hs', cs', ss')) (hx : p.tables.exec = Jvm.exec) (hb : c.code = cc) (hown : s.vm.findClass own = some m.cls) (hts : ∀ w ∈ Ts, w.before args s = true) (hCL : kc_CL cl fd Ts) (hNL : kc_NL cl own Ts nw) (hRC : RC ≤ R.cells) (hRS : RS ≤ R.slots) (hA : ∀ q, H0.size ≤ q → A q) (hd : decode cc pc = .ok (.new ix, 3))
    (k : kc_J p l e R s m args below meth c Q D cl A H0 nL nA ρ0 nB β0 (pc + 3) (E, L, K', Hs', cs', ss')) : kc_J p l e R s m args below meth c Q D cl A H0 nL nA ρ0 nB β0 pc (E, L, K, Hs, cs, ss) := by
  intro ρ β ws tys H locs ls lv st hk hg
  show W p l e R s m args below meth c H locs cs ss Q (F0 m pc ls st)
  have h0 : 0 < E.length ∧ ρ 0 = 0 := hk.2.1
  have hst : kc_stk ρ β Hs.length E.length K st := hk.2.2.2.2.1
  obtain ⟨hK, hPw, hD, hS, hC⟩ := hk.2.2.2.2.2
  unfold kc_new at h
  split at h
  · rename_i ci e1
    split at h
    · rename_i hc
      obtain ⟨c3, c4⟩ := hc
      cases h
      obtain ⟨z, hz, z2, z3, z4⟩ := hNL _ _ e1
      obtain ⟨q1, q0, q2, q3, q4, q5, q6⟩ := hCL _ _ hz
      rw [q0] at c4 k
      refine va_new (fs := (List.range z.2.2).map (fun j => defaultValue ((fd ci).getD j (.int, false)).1)) hx hb hts q1 (fun j => ((fd ci).getD j (.int, false)).1) q2 hown (hts _ z2) (hts _ z3) (hts _ z4) hK hPw hD hS hA hz (fun j hj => ?_) (by omega) (by omega) hd (fun q H1 u1 u2 u3 => ?_)
      · simp [vp_V, hj]
      · refine kc_J.cell k hk hg hst hK u1 u2 u3 (fun _ _ h => h) ⟨_, rfl, by simp [q0], fun j a v ha hv => ?_⟩
        dsimp only at ha
        rw [List.getElem?_map] at ha
        cases hf : (fd ci)[j]? with
        | none => rw [hf] at ha; cases ha
        | some y =>
          rw [hf] at ha
          cases ha
          have hj : j < z.2.2 := by rw [← q0]; exact (List.getElem?_eq_some_iff.mp hf).1
          have hv1 : v = defaultValue y.1 := by
            rw [List.getElem?_map, List.getElem?_range hj] at hv
            have := Option.some.inj hv
            rw [← this]
            show defaultValue ((fd ci).getD j (.int, false)).1 = _
            rw [List.getD_eq_getElem?_getD, hf]
            rfl
          subst hv1
          obtain ⟨d1, d2⟩ := kc_dft.ok (β := va_up β (Hs.length + 1) q) (N := Hs.length + 1) (q6 y (List.mem_of_getElem? hf)) h0.2
          exact ⟨by rw [d1]; exact h0.1, d2⟩
    · cases h
  · cases h
theorem kc_i32nn {x : Int32} {z : Int} (h : x.toInt = z) (h1 : 0 ≤ z) : ¬ x < 0 ∧ x.toNatClampNeg = z.toNat := by
  have h9 : (x.toNatClampNeg : Int) = x.toInt := Int32.cast_toNatClampNeg x (by rw [Int32.le_iff_toInt_le]; show (0 : Int) ≤ _; omega)
  refine ⟨fun q => ?_, by omega⟩
  have := Int32.lt_iff_toInt_lt.mp q
  have h8 : (0 : Int32).toInt = 0 := rfl
  omega
theorem kc_t0 {β : Nat → Nat} {N : Nat} : kc_t β N (1, 0, 0) (.int 0) := ⟨0, rfl, Int.le_refl _, Int.le_refl _⟩
theorem kc_t0l {β : Nat → Nat} {N : Nat} : kc_t β N (2, 0, 0) (.long 0) := ⟨0, rfl, Int.le_refl _, Int.le_refl _⟩
theorem kc_t0r {β : Nat → Nat} {N : Nat} : kc_t β N (3, 0, 0) (va_rf none) := Or.inl ⟨rfl, Int.le_refl _, Int.le_refl _⟩
set_option maxHeartbeats 4000000 in
theorem kc_nar.ok {t0 : ArrayType} (h : kc_nar RC RS t0 E K Hs cs ss = some (K', Hs', cs', ss')) (hx : p.tables.exec = Jvm.exec) (hb : c.code = cc) (hts : ∀ w ∈ Ts, w.before args s = true) (hAC : ∀ ty : FieldType, ty = .int ∨ ty = .byte ∨ ty = .short ∨ ty = .boolean ∨ ty = .long → Jvm.Cond.arrayClass ty ∈ Ts) (hRC : RC ≤ R.cells) (hRS : RS ≤ R.slots) (hA : ∀ q, H0.size ≤ q → A q) (hd : decode cc pc = .ok (.newarray t0, 2))
    (k : kc_J p l e R s m args below meth c Q D cl A H0 nL nA ρ0 nB β0 (pc + 2) (E, L, K', Hs', cs', ss')) : kc_J p l e R s m args below meth c Q D cl A H0 nL nA ρ0 nB β0 pc (E, L, K, Hs, cs, ss) := by
  intro ρ β ws tys H locs ls lv st hk hg
  show W p l e R s m args below meth c H locs cs ss Q (F0 m pc ls st)
  have hE : kc_env ρ E := hk.1
  have hst : kc_stk ρ β Hs.length E.length K st := hk.2.2.2.2.1
  obtain ⟨hK, hPw, hD, hS, hC⟩ := hk.2.2.2.2.2
  unfold kc_nar at h
  split at h
  · rename_i n d K2
    split at h
    · rename_i hc
      obtain ⟨c1, c2, c3, c4, c5⟩ := hc
      obtain ⟨v, st', rfl, hlt, ⟨x, rfl, ex⟩, hst'⟩ := kc_stk.uncons hst
      have hbn := hE.at (1, n, d)
      dsimp only at hbn ex
      obtain ⟨x1, x2⟩ := kc_i32nn (x := x) (z := kc_lo E (1, n, d)) (by omega) c2
      split at h
      · cases h
        exact va_newa (atype := .int) (ty := .int) (a0 := ((kc_lo E (1, n, d)).toNat, .inl (fun _ => 0))) hx hb (hts _ (hAC .int (by simp))) rfl hK hPw hD hS hA (fun _ => rfl) x1 x2 (by show _ * 4 ≤ _; omega) (by omega) (by omega) hd (fun q cA H1 v1 u1 u2 u3 => kc_J.cell k hk hg hst' v1 u1 u2 u3 kc_tys_app ⟨cA, tys.length, _, rfl, by simp, fun j _ => kc_t0⟩)
      · cases h
        exact va_newa (atype := .byte) (ty := .byte) (a0 := ((kc_lo E (1, n, d)).toNat, .inl (fun _ => 0))) hx hb (hts _ (hAC .byte (by simp))) rfl hK hPw hD hS hA (fun _ => rfl) x1 x2 (by show _ * 1 ≤ _; omega) (by omega) (by omega) hd (fun q cA H1 v1 u1 u2 u3 => kc_J.cell k hk hg hst' v1 u1 u2 u3 kc_tys_app ⟨cA, tys.length, _, rfl, by simp, fun j _ => kc_t0⟩)
      · cases h
        exact va_newa (atype := .short) (ty := .short) (a0 := ((kc_lo E (1, n, d)).toNat, .inl (fun _ => 0))) hx hb (hts _ (hAC .short (by simp))) rfl hK hPw hD hS hA (fun _ => rfl) x1 x2 (by show _ * 2 ≤ _; omega) (by omega) (by omega) hd (fun q cA H1 v1 u1 u2 u3 => kc_J.cell k hk hg hst' v1 u1 u2 u3 kc_tys_app ⟨cA, tys.length, _, rfl, by simp, fun j _ => kc_t0⟩)
      · cases h
        exact va_newa (atype := .boolean) (ty := .boolean) (a0 := ((kc_lo E (1, n, d)).toNat, .inl (fun _ => 0))) hx hb (hts _ (hAC .boolean (by simp))) rfl hK hPw hD hS hA (fun _ => rfl) x1 x2 (by show _ * 1 ≤ _; omega) (by omega) (by omega) hd (fun q cA H1 v1 u1 u2 u3 => kc_J.cell k hk hg hst' v1 u1 u2 u3 kc_tys_app ⟨cA, tys.length, _, rfl, by simp, fun j _ => kc_t0⟩)
      · cases h
        exact va_newa (atype := .long) (ty := .long) (a0 := ((kc_lo E (1, n, d)).toNat, .inr (.inl (fun _ => 0)))) hx hb (hts _ (hAC .long (by simp))) rfl hK hPw hD hS hA (fun _ => rfl) x1 x2 (by show _ * 8 ≤ _; omega) (by omega) (by omega) hd (fun q cA H1 v1 u1 u2 u3 => kc_J.cell k hk hg hst' v1 u1 u2 u3 kc_tys_app ⟨cA, tys.length, _, rfl, by simp, fun j _ => kc_t0l⟩)
      · cases h
    · cases h
  · cases h
/-- a class's own links to components of arrays -/
def kc_AL (own : String) (s : State) (Ts : List Jvm.Cond) (aw : Nat → Option FieldType) : Prop := ∀ (ix : Nat) (ty : FieldType), aw ix = some ty → ∃ C : String, ty = .object C ∧ Jvm.Cond.classLink own ix C ∈ Ts ∧ va_AO C s
set_option maxHeartbeats 4000000 in
theorem kc_ana.ok {aw : Nat → Option FieldType} {ix : Nat} (h : kc_ana aw RC RS ix E K Hs cs ss = some (K', Hs', cs', ss')) (hx : p.tables.exec = Jvm.exec) (hb : c.code = cc) (hown : s.vm.findClass own = some m.cls) (hts : ∀ w ∈ Ts, w.before args s = true) (hAL : kc_AL own s Ts aw) (hRC : RC ≤ R.cells) (hRS : RS ≤ R.slots) (hA : ∀ q, H0.size ≤ q → A q) (hd : decode cc pc = .ok (.anewarray ix, 3))
    (k : kc_J p l e R s m args below meth c Q D cl A H0 nL nA ρ0 nB β0 (pc + 3) (E, L, K', Hs', cs', ss')) : kc_J p l e R s m args below meth c Q D cl A H0 nL nA ρ0 nB β0 pc (E, L, K, Hs, cs, ss) := by
  intro ρ β ws tys H locs ls lv st hk hg
  show W p l e R s m args below meth c H locs cs ss Q (F0 m pc ls st)
  have hE : kc_env ρ E := hk.1
  have hst : kc_stk ρ β Hs.length E.length K st := hk.2.2.2.2.1
  obtain ⟨hK, hPw, hD, hS, hC⟩ := hk.2.2.2.2.2
  unfold kc_ana at h
  split at h
  · rename_i n d K2 ty e1
    split at h
    · rename_i hc
      obtain ⟨c1, c2, c3, c4, c5⟩ := hc
      cases h
      obtain ⟨v, st', rfl, hlt, ⟨x, rfl, ex⟩, hst'⟩ := kc_stk.uncons hst
      have hbn := hE.at (1, n, d)
      dsimp only at hbn ex
      obtain ⟨x1, x2⟩ := kc_i32nn (x := x) (z := kc_lo E (1, n, d)) (by omega) c2
      obtain ⟨C, rfl, y1, y2⟩ := hAL _ _ e1
      exact va_newq hx hb hown (hts _ y1) y2 hK hPw hD hS hA x1 x2 (by omega) (by omega) (by omega) hd (fun q cA H1 v1 u1 u2 u3 => kc_J.cell k hk hg hst' v1 u1 u2 u3 kc_tys_app ⟨cA, tys.length, _, rfl, by simp, fun j _ => kc_t0r⟩)
    · cases h
  · cases h
/-- a class's own constants -/
def kc_KL (own : String) (Ts : List Jvm.Cond) (kw : Nat → Option (Nat × Int)) : Prop := (∀ (ix : Nat) (v : Int), kw ix = some (1, v) → ∃ x : Int32, x.toInt = v ∧ Jvm.Cond.constant own ix x ∈ Ts) ∧ ∀ (ix : Nat) (v : Int), kw ix = some (2, v) → ∃ x : Int64, x.toInt = v ∧ Jvm.Cond.constantLong own ix x ∈ Ts
theorem kc_ldc.ok {kw : Nat → Option (Nat × Int)} {t ix n : Nat} {i : Instr} (h : kc_ldc kw t ix K = some K') (hi : t = 1 ∧ i = .ldc ix ∧ n = 2 ∨ t = 1 ∧ i = .ldc_w ix ∧ n = 3 ∨ t = 2 ∧ i = .ldc2_w ix ∧ n = 3) (hx : p.tables.exec = Jvm.exec) (hb : c.code = cc) (hown : s.vm.findClass own = some m.cls) (hts : ∀ w ∈ Ts, w.before args s = true) (hKL : kc_KL own Ts kw) (hd : decode cc pc = .ok (i, n))
    (k : kc_J p l e R s m args below meth c Q D cl A H0 nL nA ρ0 nB β0 (pc + n) (E, L, K', Hs, cs, ss)) : kc_J p l e R s m args below meth c Q D cl A H0 nL nA ρ0 nB β0 pc (E, L, K, Hs, cs, ss) := by
  intro ρ β ws tys H locs ls lv st hk hg
  show W p l e R s m args below meth c H locs cs ss Q (F0 m pc ls st)
  have h0 : 0 < E.length ∧ ρ 0 = 0 := hk.2.1
  have hst : kc_stk ρ β Hs.length E.length K st := hk.2.2.2.2.1
  unfold kc_ldc at h
  split at h
  · rename_i t' v e1
    split at h
    · rename_i e2
      subst e2
      cases h
      rcases hi with ⟨rfl, rfl, rfl⟩ | ⟨rfl, rfl, rfl⟩ | ⟨rfl, rfl, rfl⟩
      · obtain ⟨x, rfl, hw⟩ := hKL.1 _ _ e1
        exact lv_ldc hx hb hown (hts _ hw) hd (kc_J.res k hk hg hst (kc_r.old hk.1 h0.1 ⟨x, rfl, by dsimp only; omega⟩))
      · obtain ⟨x, rfl, hw⟩ := hKL.1 _ _ e1
        exact lv_ldcw hx hb hown (hts _ hw) hd (kc_J.res k hk hg hst (kc_r.old hk.1 h0.1 ⟨x, rfl, by dsimp only; omega⟩))
      · obtain ⟨x, rfl, hw⟩ := hKL.2 _ _ e1
        exact lv_ldc2 hx hb hown (hts _ hw) hd (kc_J.res k hk hg hst (kc_r.old hk.1 h0.1 ⟨x, rfl, by dsimp only; omega⟩))
    · cases h
  · cases h
end KK
end
section
/-- a class's own links to arrays of arrays of ints -/
def kc_ML (own : String) (s : State) (Ts : List Jvm.Cond) (mw : Nat → Bool) : Prop := ∀ ix : Nat, mw ix = true → Jvm.Cond.classLink own ix ("[" ++ (FieldType.array .int).toString) ∈ Ts ∧ va_AOA .int s
theorem kc_arrI {args : Array Value} {s : State} (h : (Cond.arrayClass .int).before args s = true) : ∃ cy : ClassId, s.vm.findClass (FieldType.array .int).toString = some cy ∧ ArrOfT s cy .int ∧ va_RA s cy .int := by
  obtain ⟨cy, k, comp, h1, h2, h3⟩ := Cond.arrayClass_spec h
  exact ⟨cy, h1, fun n z => ⟨fun k h => (by cases h), k, h2, comp, h3⟩, h1⟩
section KL
variable {p : Program} {l : Launch} {e : Env} {R : Room} {s : State} {m : MethodId} {args : Array Value} {below : List Frame} {meth : Method} {c : Code} {Q : State → Prop}
variable {cc : ByteArray} {nL : Nat} {D : va_G} {cl : List vw_C} {A : Nat → Prop} {H0 : Heap}
variable {nA : Nat} {ρ0 : Nat → Int} {nB : Nat} {β0 : Nat → Nat}
variable {E E' : kc_E} {L K K' : List kc_V} {Hs Hs' : List kc_G} {cs ss cs' ss' pc : Nat} {Ts : List Jvm.Cond} {own : String} {RC RS : Nat}
/-- the cells with an array of arrays -/
theorem kc_C.rows {ρ : Nat → Int} {β β' : Nat → Nat} {n q N1 N2 : Nat} {r : Nat → Nat} {tys tys' : List (ClassId × FieldType)} {Hs : List kc_G} {ws : va_W} {cA cy : ClassId} {tA ty : Nat} (h : kc_C ρ β n tys Hs ws) (ht : ∀ (k : Nat) (z : ClassId × FieldType), tys[k]? = some z → tys'[k]? = some z)
    (b0 : ∀ k, k ≤ Hs.length → β' k = β k) (b1 : β' (Hs.length + 1) = q) (b2 : ∀ j, j < N1 → β' (Hs.length + 2 + j) = r j) (t1 : tys'[tA]? = some (cA, .array .int)) (t2 : tys'[ty]? = some (cy, .int)) :
    kc_C ρ β' n tys' (Hs ++ [(3, 0, .array .int, N1, (3, 0, 0), (List.range N1).map (fun j => (3, ((Hs.length + 2 + j : Nat) : Int), ((Hs.length + 2 + j : Nat) : Int))), [])] ++ List.replicate N1 (1, 0, .int, N2, (1, 0, 0), [], []))
      (ws ++ [(q, .inl (cA, N1, .inr (.inr (.inr (.inr (fun i => if i < N1 then some (r i) else none))))))] ++ (List.range N1).map (fun j => (r j, .inl (cy, N2, .inl (fun _ => 0))))) := by
  have hlen : (Hs ++ [((3, 0, .array .int, N1, (3, 0, 0), (List.range N1).map (fun j => (3, ((Hs.length + 2 + j : Nat) : Int), ((Hs.length + 2 + j : Nat) : Int))), []) : kc_G)] ++ List.replicate N1 ((1, 0, .int, N2, (1, 0, 0), [], []) : kc_G)).length = Hs.length + 1 + N1 := by simp; omega
  refine ⟨by simp [h.1], fun k g hk => ?_⟩
  rw [hlen]
  by_cases h1 : k < Hs.length
  · rw [List.getElem?_append_left (by simp; omega), List.getElem?_append_left h1] at hk
    obtain ⟨e0, w1, w2⟩ := h.2 k g hk
    refine ⟨e0, ?_, w2.ext (fun _ _ => rfl) b0 (by omega) (Nat.le_refl _) ht⟩
    rw [List.getElem?_append_left (by simp [h.1]; omega), List.getElem?_append_left (by rw [h.1]; exact h1), b0 _ (by omega)]
    exact w1
  · by_cases h2 : k = Hs.length
    · subst h2
      rw [List.getElem?_append_left (by simp), List.getElem?_append_right (Nat.le_refl _), Nat.sub_self] at hk
      cases hk
      refine ⟨_, ?_, cA, tA, fun i => if i < N1 then some (r i) else none, rfl, t1, fun j hj => ?_⟩
      · rw [List.getElem?_append_left (by simp [h.1]), List.getElem?_append_right (by rw [h.1]; exact Nat.le_refl _), h.1, Nat.sub_self, b1]
        rfl
      · dsimp only at hj ⊢
        rw [List.getD_eq_getElem?_getD, List.getElem?_map, List.getElem?_range hj, if_pos hj]
        refine Or.inr ⟨Hs.length + 2 + j, by rw [b2 j hj]; rfl, by omega, by omega, Int.le_refl _, Int.le_refl _⟩
    · have hk2 : k - (Hs.length + 1) < N1 := by
        have h3 := (List.getElem?_eq_some_iff.mp hk).1
        rw [hlen] at h3
        omega
      rw [List.getElem?_append_right (by simp; omega)] at hk
      have h4 : (Hs ++ [((3, 0, .array .int, N1, (3, 0, 0), (List.range N1).map (fun j => (3, ((Hs.length + 2 + j : Nat) : Int), ((Hs.length + 2 + j : Nat) : Int))), []) : kc_G)]).length = Hs.length + 1 := by simp
      rw [h4, List.getElem?_replicate, if_pos hk2] at hk
      cases hk
      refine ⟨_, ?_, cy, ty, fun _ => 0, rfl, t2, fun j hj => ?_⟩
      · rw [List.getElem?_append_right (by simp [h.1]; omega)]
        have h5 : (ws ++ [((q, .inl (cA, N1, .inr (.inr (.inr (.inr (fun i => if i < N1 then some (r i) else none)))))) : Nat × va_E)]).length = Hs.length + 1 := by simp [h.1]
        rw [h5, List.getElem?_map, List.getElem?_range hk2]
        have h6 := b2 _ hk2
        rw [show Hs.length + 2 + (k - (Hs.length + 1)) = k + 1 by omega] at h6
        rw [h6]
        rfl
      · exact ⟨0, rfl, Int.le_refl _, Int.le_refl _⟩
set_option maxHeartbeats 4000000 in
theorem kc_mna.ok {mw : Nat → Bool} {ix : Nat} (h : kc_mna mw RC RS ix E K Hs cs ss = some (K', Hs', cs', ss')) (hx : p.tables.exec = Jvm.exec) (hb : c.code = cc) (hown : s.vm.findClass own = some m.cls) (hts : ∀ w ∈ Ts, w.before args s = true) (hML : kc_ML own s Ts mw) (hAC : Jvm.Cond.arrayClass .int ∈ Ts) (hRC : RC ≤ R.cells) (hRS : RS ≤ R.slots) (hA : ∀ q, H0.size ≤ q → A q) (hd : decode cc pc = .ok (.multianewarray ix 2, 4))
    (k : kc_J p l e R s m args below meth c Q D cl A H0 nL nA ρ0 nB β0 (pc + 4) (E, L, K', Hs', cs', ss')) : kc_J p l e R s m args below meth c Q D cl A H0 nL nA ρ0 nB β0 pc (E, L, K, Hs, cs, ss) := by
  intro ρ β ws tys H locs ls lv st hk hg
  show W p l e R s m args below meth c H locs cs ss Q (F0 m pc ls st)
  have hE : kc_env ρ E := hk.1
  have h0 : 0 < E.length ∧ ρ 0 = 0 := hk.2.1
  have hL : kc_loc ρ β Hs.length E.length L lv := hk.2.2.1
  have hl : lv_has ls nL lv := hk.2.2.2.1
  have hst : kc_stk ρ β Hs.length E.length K st := hk.2.2.2.2.1
  have hg : kc_ag nA ρ0 nB β0 E.length Hs.length ρ β := hg
  obtain ⟨hK, hPw, hD, hS, hC⟩ := hk.2.2.2.2.2
  have hC : kc_C ρ β E.length tys Hs ws := hC
  unfold kc_mna at h
  split at h
  · rename_i n2 d2 n1 d1 K2
    split at h
    · rename_i hc
      obtain ⟨c0, c1, c2, c3, c4, c5, c6, c7, c8⟩ := hc
      cases h
      obtain ⟨v2, st1, rfl, -, ⟨x2, rfl, ex2⟩, hst1⟩ := kc_stk.uncons hst
      obtain ⟨v1, st', rfl, -, ⟨x1, rfl, ex1⟩, hst'⟩ := kc_stk.uncons hst1
      have hb1 := hE.at (1, n1, d1)
      have hb2 := hE.at (1, n2, d2)
      dsimp only at hb1 hb2 ex1 ex2
      obtain ⟨y1, y2⟩ := kc_i32nn (x := x1) (z := kc_lo E (1, n1, d1)) (by omega) c2
      obtain ⟨y3, y4⟩ := kc_i32nn (x := x2) (z := kc_lo E (1, n2, d2)) (by omega) c5
      obtain ⟨m1, m2⟩ := hML _ c0
      obtain ⟨cy, g1, g2, g3⟩ := kc_arrI (hts _ hAC)
      generalize hN1 : (kc_lo E (1, n1, d1)).toNat = N1 at *
      generalize hN2 : (kc_lo E (1, n2, d2)).toNat = N2 at *
      have hm : N1 * N2 ≤ 3600000000 := Nat.mul_le_mul (show N1 ≤ 60000 by omega) (show N2 ≤ 60000 by omega)
      refine va_mna (X := ws) (L := []) (f := fun _ => .inr (0, [])) (ty := .int) (N' := N1) (K' := N2) (z := (N2, .inl (fun _ => 0))) hx hb hown (hts _ m1) m2 (hts _ hAC) g1 hK (by rw [show va_pl [] _ = [] from rfl, List.append_nil]; exact hPw) (by rw [show va_pl [] _ = [] from rfl, List.append_nil]; exact hD) hS hA y1 y3 y2 y4 (by omega) (by show N2 * 4 ≤ _; omega) (by omega) rfl rfl (by omega) (by omega) (fun _ => ?_) hd (fun q r cA H1 r1 r2 u0 u1 u2 u3 => ?_)
      · rw [vp_cell_i, ← arrV_new]
        rfl
      · have hpl : va_pl ([] ++ (List.range N1).map r) (vr_up (fun _ => .inr (0, [])) ((List.range N1).map r) (.inl (cy, N2, .inl (fun _ => 0)))) = (List.range N1).map (fun j => (r j, .inl (cy, N2, .inl (fun _ => 0)))) := by
          rw [List.nil_append]
          unfold va_pl
          rw [List.map_map]
          refine List.map_congr_left (fun j hj => ?_)
          show (r j, vr_up _ _ _ (r j)) = _
          rw [vr_up_in (List.mem_map.mpr ⟨j, hj, rfl⟩)]
        rw [hpl] at u1 u2
        have hK2 : va_K D cl ((tys ++ [(cA, .array .int)]) ++ [(cy, .int)]) s := u0.app ⟨hK.1, fun k z hz => by
          have h9 : k < 1 := (List.getElem?_eq_some_iff.mp hz).1
          rw [show k = 0 by omega] at hz
          cases hz
          exact ⟨g2, g3⟩⟩
        have hlen : (Hs ++ [((3, 0, .array .int, N1, (3, 0, 0), (List.range N1).map (fun j => (3, ((Hs.length + 2 + j : Nat) : Int), ((Hs.length + 2 + j : Nat) : Int))), []) : kc_G)] ++ List.replicate N1 ((1, 0, .int, N2, (1, 0, 0), [], []) : kc_G)).length = Hs.length + 1 + N1 := by simp; omega
        have b0 : ∀ k, k ≤ Hs.length → (fun k => if k ≤ Hs.length then β k else if k = Hs.length + 1 then q else r (k - (Hs.length + 2))) k = β k := fun k hk => if_pos hk
        refine k ρ (fun k => if k ≤ Hs.length then β k else if k = Hs.length + 1 then q else r (k - (Hs.length + 2))) _ ((tys ++ [(cA, .array .int)]) ++ [(cy, .int)]) H1 locs ls lv (.ref q :: st') ⟨hE, h0, ?_, hl, ?_, hK2, u1, u2, u3, hC.rows (tA := tys.length) (ty := tys.length + 1) (fun k z hz => kc_tys_app k z (kc_tys_app k z hz)) b0 ?_ (fun j hj => ?_) (by simp) (by simp)⟩ ?_
        · dsimp only
          rw [hlen]
          exact hL.ext (fun _ _ => rfl) b0 (show Hs.length ≤ Hs.length + 1 + N1 by omega) (Nat.le_refl _)
        · dsimp only
          rw [hlen]
          refine ⟨h0.1, Or.inr ⟨Hs.length + 1, ?_, by omega, by omega, by dsimp only; omega⟩, kc_stk.ext (fun _ _ => rfl) b0 (show Hs.length ≤ Hs.length + 1 + N1 by omega) (Nat.le_refl _) hst'⟩
          dsimp only
          rw [if_neg (by omega), if_pos rfl]
        · rw [if_neg (by omega), if_pos rfl]
        · rw [if_neg (by omega), if_neg (by omega)]
          congr 1
          omega
        · dsimp only
          rw [hlen]
          exact hg.ext (fun _ _ => rfl) b0 (Nat.le_refl _) (show Hs.length ≤ Hs.length + 1 + N1 by omega)
    · cases h
  · cases h
end KL
end
section
/-- what holds of a state beside the tables' words, and stays -/
def kc_Dy (AOs : List String) (NWs : List (String × Nat × MethodName × String)) (s : State) : Prop := (∀ C ∈ AOs, va_AO C s) ∧ va_AOA .int s ∧ ∀ q ∈ NWs, va_Nw (.methodLinkNest q.1 q.2.1 q.2.2.1 q.2.2.2) s
theorem kc_Dy.warm {AOs : List String} {NWs : List (String × Nat × MethodName × String)} {s U : State} (hW : s.WarmedH U.vm) (h : kc_Dy AOs NWs s) : kc_Dy AOs NWs U := ⟨fun C hC => (h.1 C hC).moved hW.alike, h.2.1.moved hW.alike, fun q hq => (h.2.2 q hq).warmM hW⟩
/-- a class's number, its name; a method's name, code, answer -/
abbrev kc_U : Type := (Nat → String) × (Nat → MethodName) × (Nat → ByteArray) × (Nat → Option FieldType)
/-- the tables say what the class files say -/
def kc_TV (T : kc_T) (U : kc_U) (cl : List vw_C) (Ts : List Jvm.Cond) (AOs : List String) : Prop :=
  (∀ (y pc : Nat) (i : Instr) (n : Nat), kc_Tcd T y pc = some (i, n) → decode (U.2.2.1 y) pc = .ok (i, n)) ∧ kc_CL cl (kc_Tfd T) Ts ∧ (∀ ci : Nat, kc_FL cl (U.1 ci) Ts (kc_Tfl T ci)) ∧ (∀ ci : Nat, kc_NL cl (U.1 ci) Ts (kc_Tnw T ci)) ∧ (∀ ci : Nat, kc_KL (U.1 ci) Ts (kc_Tkw T ci)) ∧ (∀ (ci : Nat) (z : vw_C), cl[ci]? = some z → kc_Tcn T ci = .object z.1 ∧ z.1 = U.1 ci) ∧ (∀ ty : FieldType, ty = .int ∨ ty = .byte ∨ ty = .short ∨ ty = .boolean ∨ ty = .long → Jvm.Cond.arrayClass ty ∈ Ts) ∧
  (∀ (ci ix : Nat) (ty : FieldType), kc_Taw T ci ix = some ty → ∃ C ∈ AOs, ty = .object C ∧ Jvm.Cond.classLink (U.1 ci) ix C ∈ Ts) ∧ (∀ ci ix : Nat, kc_Tmw T ci ix = true → Jvm.Cond.classLink (U.1 ci) ix ("[" ++ (FieldType.array .int).toString) ∈ Ts)
/-- the method y runs -/
def kc_Cx (T : kc_T) (U : kc_U) (Ts : List Jvm.Cond) (AOs : List String) (NWs : List (String × Nat × MethodName × String)) (y : Nat) (p : Program) (R : Room) (s : State) (m : MethodId) (args : Array Value) (meth : Method) (c : Code) (A : Nat → Prop) (H0 : Heap) (nA : Nat) (ρ0 : Nat → Int) (β0 : Nat → Nat) : Prop :=
  p.tables.exec = Jvm.exec ∧ c.code = U.2.2.1 y ∧ c.maxLocals = (kc_Tmi T y).1 ∧ s.vm.findClass (U.1 (kc_Tmi T y).2.2.2.2.2.2.1) = some m.cls ∧ (∀ w ∈ Ts, w.before args s = true) ∧ kc_Dy AOs NWs s ∧ ((kc_Tmi T y).2.2.2.2.2.2.2 = true → meth.name = "<init>") ∧ (∀ q, H0.size ≤ q → A q) ∧ ((kc_Tmi T y).2.2.1 ≤ R.cells ∧ (kc_Tmi T y).2.2.2.1 ≤ R.slots ∧ (kc_Tmi T y).2.2.2.2.1 ≤ R.frames ∧ (kc_Tmi T y).2.2.2.2.2.1 ≤ R.locals) ∧ kc_X s A H0 nA ρ0 β0
theorem kc_X.mono {s : State} {A : Nat → Prop} {H0 : Heap} {nA nA' : Nat} {ρ0 ρ : Nat → Int} {β0 β : Nat → Nat} (h : kc_X s A H0 nA ρ0 β0) (hn : nA ≤ nA') (h1 : ∀ k, k < nA → ρ k = ρ0 k) (h2 : β 0 = β0 0) : kc_X s A H0 nA' ρ β := by
  obtain ⟨Ln, xs, x1, x2, x3, x4, x5, x6, x7, x8⟩ := h
  unfold kc_X
  rw [h2]
  exact ⟨Ln, xs, x1, x2, x3, x4, by omega, by omega, by rw [h1 1 x5]; exact x7, fun j hj => by rw [h1 _ (by omega)]; exact x8 j hj⟩
section KM
variable {T : kc_T} {U : kc_U} {Ts : List Jvm.Cond} {AOs : List String} {NWs : List (String × Nat × MethodName × String)} {y : Nat}
variable {p : Program} {l : Launch} {e : Env} {R : Room} {s : State} {m : MethodId} {args : Array Value} {below : List Frame} {meth : Method} {c : Code} {Q : State → Prop}
variable {D : va_G} {cl : List vw_C} {A : Nat → Prop} {H0 : Heap}
variable {nA : Nat} {ρ0 : Nat → Int} {nB : Nat} {β0 : Nat → Nat}
set_option maxHeartbeats 8000000 in
theorem kc_s0.ok {i : Instr} {n pc : Nat} {E : kc_E} {L K : List kc_V} {Hs : List kc_G} {cs ss : Nat} {ns : List (Nat × kc_S)} (hV : kc_TV T U cl Ts AOs) (hX : kc_Cx T U Ts AOs NWs y p R s m args meth c A H0 nA ρ0 β0) (hd : decode (U.2.2.1 y) pc = .ok (i, n)) (hl : kc_lenok i n = true) (h : kc_s0 T (kc_Tmi T y) i n pc E L K Hs cs ss = some ns)
    (k : ∀ q ∈ ns, kc_J p l e R s m args below meth c Q D cl A H0 (kc_Tmi T y).1 nA ρ0 nB β0 q.1 q.2) : kc_J p l e R s m args below meth c Q D cl A H0 (kc_Tmi T y).1 nA ρ0 nB β0 pc (E, L, K, Hs, cs, ss) := by
  obtain ⟨v1, v2, v3, v4, v5, v6, v7, v8, v9⟩ := hV
  obtain ⟨hx, hb, hml, hown, hts, hdy, hini, hA, ⟨r1, r2, r3, r4⟩, hXX⟩ := hX
  have hAL : kc_AL (U.1 (kc_Tmi T y).2.2.2.2.2.2.1) s Ts (kc_Taw T (kc_Tmi T y).2.2.2.2.2.2.1) := fun ix ty h => by
    obtain ⟨C, hC, e1, e2⟩ := v8 _ ix ty h
    exact ⟨C, e1, e2, hdy.1 C hC⟩
  have hML : kc_ML (U.1 (kc_Tmi T y).2.2.2.2.2.2.1) s Ts (kc_Tmw T (kc_Tmi T y).2.2.2.2.2.2.1) := fun ix h => ⟨v9 _ ix h, hdy.2.1⟩
  have jump : ∀ (j : Instr) (r : List kc_N), kc_x2 j pc E K = some r → decode (U.2.2.1 y) pc = .ok (j, n) → kc_l2 j n = true → (∀ q ∈ r.map (fun q => (q.1, q.2.1, L, q.2.2, Hs, cs, ss)), kc_J p l e R s m args below meth c Q D cl A H0 (kc_Tmi T y).1 nA ρ0 nB β0 q.1 q.2) → kc_J p l e R s m args below meth c Q D cl A H0 (kc_Tmi T y).1 nA ρ0 nB β0 pc (E, L, K, Hs, cs, ss) := fun j r hr hj hl2 kk => kc_x2.ok hr hx hb hj hl2 (fun q hq => kk _ (List.mem_map.mpr ⟨q, hq, rfl⟩))
  unfold kc_s0 at h
  split at h
  · cases Nat.eq_of_beq_eq_true hl
    obtain ⟨r, hr, rfl⟩ := Option.map_eq_some_iff.mp h
    exact kc_get.ok hr hx hb hown hts v2 (v3 _) hd (k _ List.mem_cons_self)
  · cases Nat.eq_of_beq_eq_true hl
    obtain ⟨r, hr, rfl⟩ := Option.map_eq_some_iff.mp h
    exact kc_put.ok hr hx hb hown hts v2 (v3 _) hini (fun z hz => (v6 _ z hz).2) hd (k _ List.mem_cons_self)
  · cases Nat.eq_of_beq_eq_true hl
    obtain ⟨r, hr, rfl⟩ := Option.map_eq_some_iff.mp h
    exact kc_ald.ok hr hx hb hd (fun _ => hXX) (k _ List.mem_cons_self)
  · cases Nat.eq_of_beq_eq_true hl
    obtain ⟨r, hr, rfl⟩ := Option.map_eq_some_iff.mp h
    exact kc_ald.ok hr hx hb hd (fun _ => hXX) (k _ List.mem_cons_self)
  · cases Nat.eq_of_beq_eq_true hl
    obtain ⟨r, hr, rfl⟩ := Option.map_eq_some_iff.mp h
    exact kc_ald.ok hr hx hb hd (fun _ => hXX) (k _ List.mem_cons_self)
  · cases Nat.eq_of_beq_eq_true hl
    obtain ⟨r, hr, rfl⟩ := Option.map_eq_some_iff.mp h
    exact kc_ald.ok hr hx hb hd (fun _ => hXX) (k _ List.mem_cons_self)
  · cases Nat.eq_of_beq_eq_true hl
    split at h
    · rename_i r hr
      cases h
      exact kc_x4.ok hr (fun q hq => k _ (List.mem_map.mpr ⟨q, hq, rfl⟩))
    · obtain ⟨r, hr, rfl⟩ := Option.map_eq_some_iff.mp h
      exact kc_ald.ok hr hx hb hd (fun _ => hXX) (k _ List.mem_cons_self)
  · cases Nat.eq_of_beq_eq_true hl
    obtain ⟨r, hr, rfl⟩ := Option.map_eq_some_iff.mp h
    exact kc_aln.ok hr hx hb hd (fun _ => hXX) (k _ List.mem_cons_self)
  · cases Nat.eq_of_beq_eq_true hl
    obtain ⟨r, hr, rfl⟩ := Option.map_eq_some_iff.mp h
    exact kc_ast.ok hr hx hb hd (k _ List.mem_cons_self)
  · cases Nat.eq_of_beq_eq_true hl
    obtain ⟨r, hr, rfl⟩ := Option.map_eq_some_iff.mp h
    exact kc_ast.ok hr hx hb hd (k _ List.mem_cons_self)
  · cases Nat.eq_of_beq_eq_true hl
    obtain ⟨r, hr, rfl⟩ := Option.map_eq_some_iff.mp h
    exact kc_ast.ok hr hx hb hd (k _ List.mem_cons_self)
  · cases Nat.eq_of_beq_eq_true hl
    obtain ⟨r, hr, rfl⟩ := Option.map_eq_some_iff.mp h
    exact kc_ast.ok hr hx hb hd (k _ List.mem_cons_self)
  · cases Nat.eq_of_beq_eq_true hl
    split at h
    · rename_i r hr
      cases h
      exact kc_x4.ok hr (fun q hq => k _ (List.mem_map.mpr ⟨q, hq, rfl⟩))
    · obtain ⟨r, hr, rfl⟩ := Option.map_eq_some_iff.mp h
      exact kc_aas.ok hr hx hb (fun ci z hz => (v6 ci z hz).1) hd (k _ List.mem_cons_self)
  · cases Nat.eq_of_beq_eq_true hl
    obtain ⟨r, hr, rfl⟩ := Option.map_eq_some_iff.mp h
    exact kc_new.ok hr hx hb hown hts v2 (v4 _) r1 r2 hA hd (k _ List.mem_cons_self)
  · cases Nat.eq_of_beq_eq_true hl
    obtain ⟨r, hr, rfl⟩ := Option.map_eq_some_iff.mp h
    exact kc_nar.ok hr hx hb hts v7 r1 r2 hA hd (k _ List.mem_cons_self)
  · cases Nat.eq_of_beq_eq_true hl
    obtain ⟨r, hr, rfl⟩ := Option.map_eq_some_iff.mp h
    exact kc_ana.ok hr hx hb hown hts hAL r1 r2 hA hd (k _ List.mem_cons_self)
  · unfold kc_lenok at hl
    dsimp only at hl
    rw [Bool.and_eq_true] at hl
    cases Nat.eq_of_beq_eq_true hl.1
    cases Nat.eq_of_beq_eq_true hl.2
    obtain ⟨r, hr, rfl⟩ := Option.map_eq_some_iff.mp h
    exact kc_mna.ok hr hx hb hown hts hML (v7 _ (Or.inl rfl)) r1 r2 hA hd (k _ List.mem_cons_self)
  · cases Nat.eq_of_beq_eq_true hl
    obtain ⟨r, hr, rfl⟩ := Option.map_eq_some_iff.mp h
    exact kc_ldc.ok hr (Or.inl ⟨rfl, rfl, rfl⟩) hx hb hown hts (v5 _) hd (k _ List.mem_cons_self)
  · cases Nat.eq_of_beq_eq_true hl
    obtain ⟨r, hr, rfl⟩ := Option.map_eq_some_iff.mp h
    exact kc_ldc.ok hr (Or.inr (Or.inl ⟨rfl, rfl, rfl⟩)) hx hb hown hts (v5 _) hd (k _ List.mem_cons_self)
  · cases Nat.eq_of_beq_eq_true hl
    obtain ⟨r, hr, rfl⟩ := Option.map_eq_some_iff.mp h
    exact kc_ldc.ok hr (Or.inr (Or.inr ⟨rfl, rfl, rfl⟩)) hx hb hown hts (v5 _) hd (k _ List.mem_cons_self)
  · obtain ⟨r, hr, rfl⟩ := Option.map_eq_some_iff.mp h
    exact jump _ r hr hd (decide_eq_true (Nat.eq_of_beq_eq_true hl)) k
  · obtain ⟨r, hr, rfl⟩ := Option.map_eq_some_iff.mp h
    exact jump _ r hr hd (decide_eq_true (Nat.eq_of_beq_eq_true hl)) k
  · obtain ⟨r, hr, rfl⟩ := Option.map_eq_some_iff.mp h
    exact jump _ r hr hd (decide_eq_true (Nat.eq_of_beq_eq_true hl)) k
  · obtain ⟨r, hr, rfl⟩ := Option.map_eq_some_iff.mp h
    exact jump _ r hr hd (decide_eq_true (Nat.eq_of_beq_eq_true hl)) k
  · obtain ⟨r, hr, rfl⟩ := Option.map_eq_some_iff.mp h
    exact jump _ r hr hd (decide_eq_true (Nat.eq_of_beq_eq_true hl)) k
  · obtain ⟨r, hr, rfl⟩ := Option.map_eq_some_iff.mp h
    exact jump _ r hr hd rfl k
  · obtain ⟨r, hr, rfl⟩ := Option.map_eq_some_iff.mp h
    exact jump _ r hr hd rfl k
  · split at h
    · rename_i hn
      subst hn
      obtain ⟨r, hr, rfl⟩ := Option.map_eq_some_iff.mp h
      exact kc_x1.ok hr hx hb hd (k _ List.mem_cons_self)
    · split at h
      · split at h
        · rename_i hn
          subst hn
          obtain ⟨r, hr, rfl⟩ := Option.map_eq_some_iff.mp h
          exact kc_x1.okw hr hx hb hd (k _ List.mem_cons_self)
        · cases h
      · cases h
theorem kc_step.ok {i : Instr} {n pc : Nat} {S : kc_S} {ns : List (Nat × kc_S)} (hV : kc_TV T U cl Ts AOs) (hX : kc_Cx T U Ts AOs NWs y p R s m args meth c A H0 nA ρ0 β0) (hc : kc_Tcd T y pc = some (i, n)) (h : kc_step T y pc i n S = some ns)
    (k : ∀ q ∈ ns, kc_J p l e R s m args below meth c Q D cl A H0 (kc_Tmi T y).1 nA ρ0 nB β0 q.1 q.2) : kc_J p l e R s m args below meth c Q D cl A H0 (kc_Tmi T y).1 nA ρ0 nB β0 pc S := by
  have hd := hV.1 _ _ _ _ hc
  obtain ⟨E, L, K, Hs, cs, ss⟩ := S
  unfold kc_step at h
  split at h
  · split at h
    · rename_i j m2 hj
      split at h
      · rename_i hl
        obtain ⟨rfl, rfl⟩ := hl
        obtain ⟨r, hr, rfl⟩ := Option.map_eq_some_iff.mp h
        exact kc_x3.ok hr hX.1 hX.2.1 hd (hV.1 _ _ _ _ hj) (fun q hq => k _ (List.mem_map.mpr ⟨q, hq, rfl⟩))
      · cases h
    · cases h
  · split at h
    · rename_i hl
      exact kc_s0.ok hV hX hd hl h k
    · cases h
end KM
end
section
theorem kc_subL.ok {f : kc_V → kc_V → Bool} : ∀ {as bs : List kc_V}, kc_subL f as bs = true → as.length = bs.length ∧ ∀ (j : Nat) (a b : kc_V), as[j]? = some a → bs[j]? = some b → f a b = true
  | [], [], _ => ⟨rfl, fun j a b h => by simp at h⟩
  | a :: as, b :: bs, h => by
    unfold kc_subL at h
    rw [Bool.and_eq_true] at h
    obtain ⟨h1, h2⟩ := kc_subL.ok h.2
    refine ⟨by rw [List.length_cons, List.length_cons, h1], fun j a1 b1 ha hb => ?_⟩
    cases j with
    | zero => cases ha; cases hb; exact h.1
    | succ j => exact h2 j a1 b1 (by simpa using ha) (by simpa using hb)
  | [], _ :: _, h => by cases h
  | _ :: _, [], h => by cases h
theorem kc_subH.ok {n0 : Nat} {ws : List kc_V} : ∀ {as bs : List kc_G}, kc_subH n0 ws as bs = true → as.length = bs.length ∧ ∀ (j : Nat) (a b : kc_G), as[j]? = some a → bs[j]? = some b → kc_subG n0 ws a b = true
  | [], [], _ => ⟨rfl, fun j a b h => by simp at h⟩
  | a :: as, b :: bs, h => by
    unfold kc_subH at h
    rw [Bool.and_eq_true] at h
    obtain ⟨h1, h2⟩ := kc_subH.ok h.2
    refine ⟨by rw [List.length_cons, List.length_cons, h1], fun j a1 b1 ha hb => ?_⟩
    cases j with
    | zero => cases ha; cases hb; exact h.1
    | succ j => exact h2 j a1 b1 (by simpa using ha) (by simpa using hb)
  | [], _ :: _, h => by cases h
  | _ :: _, [], h => by cases h
theorem kc_subB.ok {E : kc_E} : ∀ {as : List kc_V} {bs : kc_E}, kc_subB E as bs = true → as.length = bs.length ∧ ∀ (j : Nat) (a : kc_V) (b : Int × Int), as[j]? = some a → bs[j]? = some b → a.1 = 1 ∧ a.2.1 < E.length ∧ b.1 ≤ kc_lo E a ∧ kc_hi E a ≤ b.2
  | [], [], _ => ⟨rfl, fun j a b h => by simp at h⟩
  | a :: as, b :: bs, h => by
    unfold kc_subB at h
    rw [Bool.and_eq_true] at h
    obtain ⟨h1, h2⟩ := kc_subB.ok h.2
    refine ⟨by rw [List.length_cons, List.length_cons, h1], fun j a1 b1 ha hb => ?_⟩
    cases j with
    | zero => cases ha; cases hb; exact of_decide_eq_true h.1
    | succ j => exact h2 j a1 b1 (by simpa using ha) (by simpa using hb)
  | [], _ :: _, h => by cases h
  | _ :: _, [], h => by cases h
/-- the numbers of the symbols of the widened state -/
def kc_rw (n0 : Nat) (ws : List kc_V) (ρ : Nat → Int) : Nat → Int := fun k => if k < n0 then ρ k else match ws[k - n0]? with
  | some a => ρ a.2.1 + a.2.2
  | none => 0
theorem kc_rw.lt {n0 : Nat} {ws : List kc_V} {ρ : Nat → Int} {k : Nat} (h : k < n0) : kc_rw n0 ws ρ k = ρ k := if_pos h
theorem kc_rw.ge {n0 : Nat} {ws : List kc_V} {ρ : Nat → Int} {k : Nat} {a : kc_V} (h : n0 ≤ k) (ha : ws[k - n0]? = some a) : kc_rw n0 ws ρ k = ρ a.2.1 + a.2.2 := by
  unfold kc_rw
  rw [if_neg (by omega), ha]
theorem kc_subF.ok {n0 n N : Nat} {ws : List kc_V} {ρ : Nat → Int} {β : Nat → Nat} {a b : kc_V} {v : Value} (h : kc_subF n0 ws a b = true) (hn : n0 + ws.length = n) (hv : kc_v ρ β N a v) : b.2.1 < n ∧ kc_v (kc_rw n0 ws ρ) β N b v := by
  unfold kc_subF at h
  rw [Bool.or_eq_true] at h
  rcases h with h | h
  · obtain ⟨rfl, h2⟩ := of_decide_eq_true h
    exact ⟨by omega, hv.ext h2 (fun k hk => kc_rw.lt hk) (fun _ _ => rfl) (Nat.le_refl _)⟩
  · obtain ⟨h1, h2, h3, h4, h5⟩ := of_decide_eq_true h
    have hl := (List.getElem?_eq_some_iff.mp h5).1
    refine ⟨by omega, ?_⟩
    obtain ⟨t, k, d⟩ := b
    obtain ⟨t', k', d'⟩ := a
    dsimp only at h1 h2 h3 h4 h5
    subst h2; subst h3; subst h4
    obtain ⟨x, rfl, ex⟩ := hv
    refine ⟨x, rfl, ?_⟩
    dsimp only at ex ⊢
    rw [kc_rw.ge h1 h5, ex]
    dsimp only
    omega
theorem kc_subG.ok {n0 n' n N : Nat} {ws : List kc_V} {ρ : Nat → Int} {β : Nat → Nat} {tys : List (ClassId × FieldType)} {g h : kc_G} {e : va_E} (hs : kc_subG n0 ws g h = true) (hn : n0 + ws.length = n) (he : kc_e ρ β N n' tys g e) : kc_e (kc_rw n0 ws ρ) β N n tys h e := by
  obtain ⟨k1, c1, t1, l1, d1, f1, v1⟩ := g
  obtain ⟨k2, c2, t2, l2, d2, f2, v2⟩ := h
  unfold kc_subG at hs
  dsimp only at hs
  rw [Bool.and_eq_true, Bool.and_eq_true] at hs
  obtain ⟨⟨h1, h2⟩, h3⟩ := hs
  obtain ⟨rfl, rfl, rfl, rfl⟩ := of_decide_eq_true h1
  obtain ⟨g1, g2⟩ := kc_subL.ok h3
  have hc : ∀ (j : Nat) (v : Value), kc_t β N (f1.getD j d1) v → kc_t β N (f2.getD j d2) v := fun j v hv => by
    rw [Bool.or_eq_true] at h2
    rcases h2 with h2 | h2
    · obtain ⟨rfl, rfl⟩ := of_decide_eq_true h2
      exact hv
    · rw [Bool.and_eq_true, Bool.and_eq_true] at h2
      obtain ⟨⟨a1, a2⟩, a3⟩ := h2
      have a4 : f2 = [] := List.isEmpty_iff.mp a3
      subst a4
      show kc_t β N d2 v
      rw [List.getD_eq_getElem?_getD] at hv
      cases hq : f1[j]? with
      | none => rw [hq] at hv; exact kc_sub.ok a1 hv
      | some f => rw [hq] at hv; exact kc_sub.ok (List.all_eq_true.mp a2 f (List.mem_of_getElem? hq)) hv
  unfold kc_e at he ⊢
  dsimp only at he ⊢
  split at he
  · obtain ⟨fs, e1, e2, e4⟩ := he
    refine ⟨fs, e1, e2.trans g1, fun j b v hb hv => ?_⟩
    have hj : j < v1.length := by rw [g1]; exact (List.getElem?_eq_some_iff.mp hb).1
    have ha : v1[j]? = some v1[j] := List.getElem?_eq_getElem hj
    exact kc_subF.ok (g2 j _ b ha hb) hn (e4 j _ v ha hv).2
  · obtain ⟨cA, t0, k, e1, e2, e4⟩ := he
    exact ⟨cA, t0, k, e1, e2, fun j hj => hc j _ (e4 j hj)⟩
  · obtain ⟨cA, t0, k, e1, e2, e4⟩ := he
    exact ⟨cA, t0, k, e1, e2, fun j hj => hc j _ (e4 j hj)⟩
  · obtain ⟨cA, t0, k, e1, e2, e4⟩ := he
    exact ⟨cA, t0, k, e1, e2, fun j hj => hc j _ (e4 j hj)⟩
  · exact he
section KN
variable {p : Program} {l : Launch} {e : Env} {R : Room} {s : State} {m : MethodId} {args : Array Value} {below : List Frame} {meth : Method} {c : Code} {Q : State → Prop}
variable {nL : Nat} {D : va_G} {cl : List vw_C} {A : Nat → Prop} {H0 : Heap}
variable {nA : Nat} {ρ0 : Nat → Int} {nB : Nat} {β0 : Nat → Nat}
/-- a state within the widened one is one of its states -/
theorem kc_within.ok {n0 : Nat} {an : kc_A} {W S : kc_S} {up : Bool} {ρ : Nat → Int} {β : Nat → Nat} {ws : va_W} {tys : List (ClassId × FieldType)} {H : Heap} {locs : List Loc} {ls : Array Slot} {lv : List (Nat × Value)} {st : List Value}
    (h : kc_within n0 an W S up = true) (h0 : 0 < n0) (hn0 : n0 ≤ W.1.length) (hk : kc_ok D cl A s H0 nL S.1 S.2.1 S.2.2.1 S.2.2.2.1 ρ β ws tys H locs ls lv st) (hE0 : ∀ k, k < n0 → (W.1.getD k (0, 0)).1 ≤ ρ k ∧ ρ k ≤ (W.1.getD k (0, 0)).2) :
    kc_ok D cl A s H0 nL W.1 W.2.1 W.2.2.1 W.2.2.2.1 (kc_rw n0 (kc_wit an S) ρ) β ws tys H locs ls lv st ∧ S.2.2.2.1.length = W.2.2.2.1.length ∧ (S.2.2.2.2.1 ≤ W.2.2.2.2.1 ∧ S.2.2.2.2.2 ≤ W.2.2.2.2.2) ∧ (up = true → n0 < W.1.length ∧ ρ n0 + 1 ≤ kc_rw n0 (kc_wit an S) ρ n0) := by
  unfold kc_within at h
  simp only [Bool.and_eq_true] at h
  obtain ⟨⟨⟨⟨⟨a1, a2⟩, a3⟩, a4⟩, a5⟩, a6⟩ := h
  obtain ⟨b1, b2⟩ := kc_subB.ok a1
  obtain ⟨c1, c2⟩ := kc_subL.ok a2
  obtain ⟨d1, d2⟩ := of_decide_eq_true a3
  obtain ⟨e1, e2⟩ := kc_subH.ok a4
  have a5 := of_decide_eq_true a5
  obtain ⟨hE, hz, hL, hl, hst, hK, hPw, hD, hS, hC⟩ := hk
  have hlen : n0 + (kc_wit an S).length = W.1.length := by
    rw [b1, List.length_drop]
    omega
  refine ⟨⟨fun k => ?_, ⟨by omega, by rw [kc_rw.lt h0]; exact hz.2⟩, fun i b hb hb0 => ?_, hl, ?_, hK, hPw, hD, hS, ?_⟩, e1, a5, fun hu => ?_⟩
  · by_cases h1 : k < n0
    · rw [kc_rw.lt h1]
      exact hE0 k h1
    · by_cases h2 : k < W.1.length
      · have h3 : k - n0 < (kc_wit an S).length := by omega
        have h4 : (kc_wit an S)[k - n0]? = some (kc_wit an S)[k - n0] := List.getElem?_eq_getElem h3
        have h5 : (W.1.drop n0)[k - n0]? = some W.1[k] := by
          rw [List.getElem?_drop, show n0 + (k - n0) = k by omega]
          exact List.getElem?_eq_getElem h2
        obtain ⟨g1, g2, g3, g4⟩ := b2 _ _ _ h4 h5
        have g5 := hE.at (kc_wit an S)[k - n0]
        rw [kc_rw.ge (by omega) h4, List.getD_eq_getElem?_getD, List.getElem?_eq_getElem h2]
        dsimp only [Option.getD]
        omega
      · have h3 : (kc_wit an S)[k - n0]? = none := List.getElem?_eq_none (by omega)
        rw [List.getD_eq_getElem?_getD, List.getElem?_eq_none (by omega)]
        unfold kc_rw
        rw [if_neg h1, h3]
        exact ⟨Int.le_refl _, Int.le_refl _⟩
  · have hi : i < S.2.1.length := by rw [c1]; exact (List.getElem?_eq_some_iff.mp hb).1
    have ha : S.2.1[i]? = some S.2.1[i] := List.getElem?_eq_getElem hi
    have hs := c2 i _ b ha hb
    unfold kc_subV at hs
    rw [Bool.or_eq_true] at hs
    rcases hs with hs | hs
    · exact absurd (of_decide_eq_true hs) hb0
    · have hne : (S.2.1[i]).1 ≠ 0 := by
        unfold kc_subF at hs
        rw [Bool.or_eq_true] at hs
        rcases hs with q | q
        · rw [(of_decide_eq_true q).1]; exact hb0
        · rw [(of_decide_eq_true q).2.2.2.1]; decide
      obtain ⟨g1, v, g2, g3⟩ := hL i _ ha hne
      obtain ⟨y1, y2⟩ := kc_subF.ok hs hlen g3
      rw [e1] at y2
      exact ⟨y1, v, g2, y2⟩
  · rw [d1] at hst
    rw [d2]
    cases st with
    | nil => trivial
    | cons _ _ => exact absurd hst id
  · refine ⟨hC.1.trans e1, fun k h hh => ?_⟩
    have hi : k < S.2.2.2.1.length := by rw [e1]; exact (List.getElem?_eq_some_iff.mp hh).1
    have ha : S.2.2.2.1[k]? = some S.2.2.2.1[k] := List.getElem?_eq_getElem hi
    obtain ⟨e0, w1, w2⟩ := hC.2 k _ ha
    have w3 := kc_subG.ok (e2 k _ h ha hh) hlen w2
    rw [e1] at w3
    exact ⟨e0, w1, w3⟩
  · subst hu
    simp only [Bool.not_true, Bool.false_or] at a6
    split at a6
    · rename_i a as ha
      obtain ⟨g1, g2⟩ := of_decide_eq_true a6
      have h4 : (kc_wit an S)[n0 - n0]? = some a := by rw [Nat.sub_self, ha]; rfl
      refine ⟨by rw [← hlen, ha]; simp, ?_⟩
      rw [kc_rw.ge (Nat.le_refl _) h4, g1]
      omega
    · cases a6
theorem kc_J.mono {ρ1 : Nat → Int} {β1 : Nat → Nat} {n1 N1 pc : Nat} {S : kc_S} (hg : kc_ag nA ρ0 nB β0 n1 N1 ρ1 β1) (h : kc_J p l e R s m args below meth c Q D cl A H0 nL nA ρ0 nB β0 pc S) : kc_J p l e R s m args below meth c Q D cl A H0 nL n1 ρ1 N1 β1 pc S :=
  fun ρ β ws tys H locs ls lv st hk hg2 => h ρ β ws tys H locs ls lv st hk ⟨Nat.le_trans hg.1 hg2.1, Nat.le_trans hg.2.1 hg2.2.1, fun k hk2 => (hg2.2.2.1 k (Nat.lt_of_lt_of_le hk2 hg.1)).trans (hg.2.2.1 k hk2), fun k hk2 => (hg2.2.2.2 k (Nat.le_trans hk2 hg.2.1)).trans (hg.2.2.2 k hk2)⟩
/-- a loop -/
theorem kc_J.loop {an : kc_A} {pc : Nat} {S Wd : kc_S} {os : List (Nat × kc_S)} (h1 : Wd.1.take S.1.length = S.1) (h2 : kc_within S.1.length an Wd S false = true) (h3 : ∀ o ∈ os, o.1 = pc → kc_within S.1.length an Wd o.2 true = true) (h4 : ∀ o ∈ os, o.1 ≠ pc → kc_J p l e R s m args below meth c Q D cl A H0 nL nA ρ0 nB β0 o.1 o.2)
    (hb : ∀ (ρ1 : Nat → Int) (β1 : Nat → Nat), kc_ag nA ρ0 nB β0 Wd.1.length Wd.2.2.2.1.length ρ1 β1 → (∀ o ∈ os, kc_J p l e R s m args below meth c Q D cl A H0 nL Wd.1.length ρ1 Wd.2.2.2.1.length β1 o.1 o.2) → kc_J p l e R s m args below meth c Q D cl A H0 nL Wd.1.length ρ1 Wd.2.2.2.1.length β1 pc Wd) : kc_J p l e R s m args below meth c Q D cl A H0 nL nA ρ0 nB β0 pc S := by
  have hn0 : S.1.length ≤ Wd.1.length := by
    have := congrArg List.length h1
    rw [List.length_take] at this
    omega
  have main : ∀ (μ : Nat) (ρ : Nat → Int) (β : Nat → Nat) (ws : va_W) (tys : List (ClassId × FieldType)) (H : Heap) (locs : List Loc) (ls : Array Slot) (lv : List (Nat × Value)) (st : List Value), ((Wd.1.getD S.1.length (0, 0)).2 - ρ S.1.length).toNat ≤ μ → 0 < S.1.length → nA ≤ S.1.length → kc_ok D cl A s H0 nL Wd.1 Wd.2.1 Wd.2.2.1 Wd.2.2.2.1 ρ β ws tys H locs ls lv st → kc_ag nA ρ0 nB β0 Wd.1.length Wd.2.2.2.1.length ρ β → W p l e R s m args below meth c H locs Wd.2.2.2.2.1 Wd.2.2.2.2.2 Q (F0 m pc ls st) := by
    intro μ
    induction μ with
    | zero =>
      intro ρ β ws tys H locs ls lv st hμ hz hA0 hk hg
      refine hb ρ β hg (fun o ho => ?_) ρ β ws tys H locs ls lv st hk ⟨Nat.le_refl _, Nat.le_refl _, fun _ _ => rfl, fun _ _ => rfl⟩
      by_cases e1 : o.1 = pc
      · intro ρ' β' ws' tys' H' locs' ls' lv' st' hk' hg'
        obtain ⟨g1, g2, g3, g4⟩ := kc_within.ok (h3 o ho e1) hz hn0 hk' (fun k hk2 => by rw [hg'.2.2.1 k (by omega)]; exact hk.1 k)
        obtain ⟨g5, g6⟩ := g4 rfl
        have g7 := g1.1 S.1.length
        have g8 := hg'.2.2.1 S.1.length g5
        omega
      · exact (h4 o ho e1).mono hg
    | succ μ ih =>
      intro ρ β ws tys H locs ls lv st hμ hz hA0 hk hg
      refine hb ρ β hg (fun o ho => ?_) ρ β ws tys H locs ls lv st hk ⟨Nat.le_refl _, Nat.le_refl _, fun _ _ => rfl, fun _ _ => rfl⟩
      by_cases e1 : o.1 = pc
      · intro ρ' β' ws' tys' H' locs' ls' lv' st' hk' hg'
        obtain ⟨g1, g2, g3, g4⟩ := kc_within.ok (h3 o ho e1) hz hn0 hk' (fun k hk2 => by rw [hg'.2.2.1 k (by omega)]; exact hk.1 k)
        obtain ⟨g5, g6⟩ := g4 rfl
        have g7 := g1.1 S.1.length
        have g8 := hg'.2.2.1 S.1.length g5
        rw [e1]
        refine W.widen g3.1 g3.2 (ih _ β' ws' tys' H' locs' ls' lv' st' (by omega) hz hA0 g1 ⟨by omega, by rw [← g2]; exact Nat.le_trans hg.2.1 (by rw [g2]; exact Nat.le_refl _), fun k hk2 => ?_, fun k hk2 => ?_⟩)
        · rw [kc_rw.lt (by omega), hg'.2.2.1 k (by omega)]
          exact hg.2.2.1 k hk2
        · rw [hg'.2.2.2 k (Nat.le_trans hk2 hg.2.1)]
          exact hg.2.2.2 k hk2
      · exact (h4 o ho e1).mono hg
  intro ρ β ws tys H locs ls lv st hk hg
  have hz : 0 < S.1.length := hk.2.1.1
  obtain ⟨g1, g2, g3, -⟩ := kc_within.ok h2 hz hn0 hk (fun k hk2 => by
    have h5 : Wd.1.getD k (0, 0) = S.1.getD k (0, 0) := by
      conv => rhs; rw [← h1]
      rw [List.getD_eq_getElem?_getD, List.getD_eq_getElem?_getD, List.getElem?_take, if_pos hk2]
    rw [h5]
    exact hk.1 k)
  refine W.widen g3.1 g3.2 (main _ _ β ws tys H locs ls lv st (Nat.le_refl _) hz hg.1 g1 ⟨Nat.le_trans hg.1 hn0, by rw [← g2]; exact hg.2.1, fun k hk2 => ?_, hg.2.2.2⟩)
  rw [kc_rw.lt (Nat.lt_of_lt_of_le hk2 hg.1)]
  exact hg.2.2.1 k hk2
end KN
end
section
theorem kc_alike_eq {u U : State} (h : u.vm = U.vm) : u.vm.Alike U.vm := h ▸ Vm.Alike.refl u.vm
theorem kc_Dy.same {AOs : List String} {NWs : List (String × Nat × MethodName × String)} {u U : State} (h : u.vm = U.vm) (hd : kc_Dy AOs NWs u) : kc_Dy AOs NWs U := ⟨fun C hC => (hd.1 C hC).moved (kc_alike_eq h), hd.2.1.moved (kc_alike_eq h), fun q hq => (hd.2.2 q hq).same rfl h⟩
theorem kc_X.moved {u U : State} {A : Nat → Prop} {H0 H : Heap} {nA : Nat} {ρ0 : Nat → Int} {β0 : Nat → Nat} (hvm : u.vm.Alike U.vm) (hz : H0.size ≤ H.size) (hk : ∀ q : Nat, q < H0.size → ¬ A q → H[q]? = H0[q]?) (h : kc_X u A H0 nA ρ0 β0) : kc_X U A H nA ρ0 β0 := by
  obtain ⟨Ln, xs, x1, x2, x3, x4⟩ := h
  exact ⟨Ln, xs, (x1.moved hvm).kept (hk _ x3 x2), x2, Nat.lt_of_lt_of_le x3 hz, x4⟩
/-- a method's words: its code, and all tables -/
def kc_ws (T : kc_T) (U : kc_U) (Ts : List Jvm.Cond) (y : Nat) : List Jvm.Cond := Cond.code (U.2.1 y) (U.2.2.1 y) (kc_Tmi T y).1 (U.2.2.2 y) :: Ts
def kc_rm (T : kc_T) (y : Nat) : Room := { frames := (kc_Tmi T y).2.2.2.2.1, cells := (kc_Tmi T y).2.2.1, slots := (kc_Tmi T y).2.2.2.1, locals := (kc_Tmi T y).2.2.2.2.2.1 }
/-- what the tables say of a method -/
def kc_MV (T : kc_T) (U : kc_U) (Ts : List Jvm.Cond) (y : Nat) : Prop :=
  Cond.code (U.2.1 y) (U.2.2.1 y) (kc_Tmi T y).1 (U.2.2.2 y) ∈ Ts ∧ Cond.initialized (U.2.1 y).cls ∈ Ts ∧ plainName (U.2.1 y).cls = true ∧ ((U.2.1 y).cls ≠ "java/lang/invoke/MethodHandle" ∧ (U.2.1 y).cls ≠ "java/lang/invoke/VarHandle") ∧ U.1 (kc_Tmi T y).2.2.2.2.2.2.1 = (U.2.1 y).cls ∧ ((kc_Tmi T y).2.2.2.2.2.2.2 = true → (U.2.1 y).name = "<init>") ∧
  (kc_Trk T y = 0 → U.2.2.2 y = none) ∧ (kc_Trk T y = 1 → U.2.2.2 y = some .int) ∧ (kc_Trk T y = 2 → U.2.2.2 y = some .long) ∧ (kc_Trk T y = 3 → ∃ rt, U.2.2.2 y = some rt ∧ ((∃ n, rt = .object n) ∨ ∃ t, rt = .array t)) ∧ (kc_Trk T y = 4 → U.2.2.2 y = some .boolean)
/-- a return that the executor let pass -/
def kc_Ret (T : kc_T) (y : Nat) (o : Nat × kc_S) : Prop := ∃ (i : Instr) (n : Nat), kc_Tcd T y o.1 = some (i, n) ∧ kc_retok (kc_Trk T y) (kc_Tmi T y).2.2.1 (kc_Tmi T y).2.2.2.1 i n o.2 = true
/-- arguments, and the machine's -/
def kc_as (ρ : Nat → Int) (β : Nat → Nat) (N n : Nat) : List kc_V → List Value → Prop := kc_stk ρ β N n
theorem kc_as.app {ρ : Nat → Int} {β : Nat → Nat} {N n : Nat} : ∀ {K1 K2 : List kc_V} {s1 s2 : List Value}, kc_stk ρ β N n K1 s1 → kc_stk ρ β N n K2 s2 → kc_stk ρ β N n (K1 ++ K2) (s1 ++ s2)
  | [], _, [], _, _, h => h
  | _ :: _, _, _ :: _, _, h1, h2 => ⟨h1.1, h1.2.1, kc_as.app h1.2.2 h2⟩
  | [], _, _ :: _, _, h, _ => absurd h id
  | _ :: _, _, [], _, h, _ => absurd h id
/-- arguments off the stack -/
theorem kc_args.ok {ρ : Nat → Int} {β : Nat → Nat} {N n : Nat} : ∀ {ts : List Nat} {K : List kc_V} {as0 : List kc_V} {as K' : List kc_V} {st vs0 : List Value}, kc_args ts K as0 = some (as, K') → kc_stk ρ β N n K st → kc_stk ρ β N n as0 vs0 → ∃ vs rest : List Value, kc_stk ρ β N n as (vs ++ vs0) ∧ kc_stk ρ β N n K' rest ∧ st = vs.reverse ++ rest ∧ vs.length = ts.length ∧ as.map (fun a => a.1) = ts.reverse ++ as0.map (fun a => a.1)
  | [], K, as0, as, K', st, vs0, h, h1, h2 => by
    cases h
    exact ⟨[], st, h2, h1, rfl, rfl, rfl⟩
  | t :: ts, a :: K, as0, as, K', st, vs0, h, h1, h2 => by
    unfold kc_args at h
    split at h
    · rename_i ht
      obtain ⟨v, st', rfl, hlt, hv, hst'⟩ := kc_stk.uncons h1
      obtain ⟨vs, rest, g1, g2, g3, g4, g5⟩ := kc_args.ok (vs0 := v :: vs0) h hst' ⟨hlt, hv, h2⟩
      refine ⟨vs ++ [v], rest, by rw [List.append_assoc]; exact g1, g2, ?_, by rw [List.length_append, g4]; rfl, ?_⟩
      · rw [g3]
        simp
      · rw [g5]
        simp [ht]
    · cases h
  | t :: ts, [], as0, as, K', st, vs0, h, h1, h2 => by cases h
theorem kc_loc0.ok {ρ : Nat → Int} {β : Nat → Nat} {N n : Nat} : ∀ {as : List kc_V} {vs : List Value} (i : Nat), kc_stk ρ β N n as vs → (lg_sl vs).length = (kc_loc0 as).length ∧ ∀ (j : Nat) (a : kc_V), (kc_loc0 as)[j]? = some a → a.1 ≠ 0 → a.2.1 < n ∧ ∃ v : Value, (i + j, v) ∈ lv_args i vs ∧ kc_v ρ β N a v
  | [], [], i, _ => ⟨rfl, fun j a h => by simp [kc_loc0] at h⟩
  | (t, b, d) :: as, v :: vs, i, h => by
    by_cases e : t = 2
    · subst e
      have hc := kc_cat2 h.2.1
      obtain ⟨g1, g2⟩ := kc_loc0.ok (i + 2) h.2.2
      have e1 : kc_loc0 ((2, b, d) :: as) = (2, b, d) :: (0, 0, 0) :: kc_loc0 as := rfl
      have e2 : lv_args i (v :: vs) = (i, v) :: lv_args (i + 2) vs := by
        show (i, v) :: lv_args (if v.category = 2 then i + 2 else i + 1) vs = _
        rw [if_pos hc]
      have e3 : lg_sl (v :: vs) = [.val v, .second] ++ lg_sl vs := by
        unfold lg_sl
        rw [List.flatMap_cons, if_pos hc]
      rw [e1, e2, e3]
      refine ⟨by simp [g1], fun j a ha hne => ?_⟩
      match j, ha with
      | 0, ha => cases ha; exact ⟨h.1, v, List.mem_cons_self, h.2.1⟩
      | 1, ha => cases ha; exact absurd rfl hne
      | j + 2, ha =>
        obtain ⟨y1, w, y2, y3⟩ := g2 j a (by simpa using ha) hne
        exact ⟨y1, w, List.mem_cons_of_mem _ (by rw [show i + (j + 2) = i + 2 + j by omega]; exact y2), y3⟩
    · have hc := kc_cat1 h.2.1 e
      obtain ⟨g1, g2⟩ := kc_loc0.ok (i + 1) h.2.2
      have e1 : kc_loc0 ((t, b, d) :: as) = (t, b, d) :: kc_loc0 as := by
        show (if t = 2 then _ else _) = _
        rw [if_neg e]
      have e2 : lv_args i (v :: vs) = (i, v) :: lv_args (i + 1) vs := by
        show (i, v) :: lv_args (if v.category = 2 then i + 2 else i + 1) vs = _
        rw [if_neg (by rw [hc]; decide)]
      have e3 : lg_sl (v :: vs) = [.val v] ++ lg_sl vs := by
        unfold lg_sl
        rw [List.flatMap_cons, if_neg (by rw [hc]; decide)]
      rw [e1, e2, e3]
      refine ⟨by simp [g1], fun j a ha hne => ?_⟩
      match j, ha with
      | 0, ha => cases ha; exact ⟨h.1, v, List.mem_cons_self, h.2.1⟩
      | j + 1, ha =>
        obtain ⟨y1, w, y2, y3⟩ := g2 j a (by simpa using ha) hne
        exact ⟨y1, w, List.mem_cons_of_mem _ (by rw [show i + (j + 1) = i + 1 + j by omega]; exact y2), y3⟩
  | [], _ :: _, _, h => absurd h id
  | _ :: _, [], _, h => absurd h id
/-- how a method ends: by one of the executor's ends -/
def kc_Qc (D : va_G) (cl : List vw_C) (A : Nat → Prop) (os : List (Nat × kc_S)) (n : Nat) (ρ : Nat → Int) (N : Nat) (β : Nat → Nat) : Array Value → State → Outcome → State → Prop := fun _ st oc t => ∃ o ∈ os, ∃ (ρ' : Nat → Int) (β' : Nat → Nat) (ws' : va_W) (tys' : List (ClassId × FieldType)) (v : Option Value), oc = .returned v ∧ kc_stk ρ' β' o.2.2.2.2.1.length o.2.1.length o.2.2.2.1 v.toList ∧ kc_env ρ' o.2.1 ∧ (0 < o.2.1.length ∧ ρ' 0 = 0) ∧ kc_ag n ρ N β o.2.1.length o.2.2.2.2.1.length ρ' β' ∧ va_K D cl tys' t ∧ va_P D cl ws' t.heap ∧ va_D A ws' ∧ kc_C ρ' β' o.2.1.length tys' o.2.2.2.2.1 ws' ∧ va_F A st t
theorem kc_nz01 {x : Int32} (h1 : 0 ≤ x.toInt) (h2 : x.toInt ≤ 1) : narrow .boolean (.int x) = .int x := by
  rcases (show x.toInt = 0 ∨ x.toInt = 1 by omega) with q | q
  · have : x = 0 := Int32.toInt_inj.mp q
    subst this
    rfl
  · have : x = 1 := Int32.toInt_inj.mp q
    subst this
    rfl
section KO
variable {T : kc_T} {U : kc_U} {Ts : List Jvm.Cond} {AOs : List String} {NWs : List (String × Nat × MethodName × String)} {y : Nat}
variable {p : Program} {l : Launch} {e : Env} {R : Room} {s : State} {m : MethodId} {args : Array Value} {below : List Frame} {meth : Method} {c : Code} {Q : State → Prop}
variable {D : va_G} {cl : List vw_C} {A : Nat → Prop} {H0 : Heap}
variable {nA : Nat} {ρ0 : Nat → Int} {nB : Nat} {β0 : Nat → Nat}
set_option maxHeartbeats 4000000 in
/-- a return, as its method's contract wants it -/
theorem kc_J.ret {o : Nat × kc_S} {os : List (Nat × kc_S)} (hV : kc_TV T U cl Ts AOs) (hM : kc_MV T U Ts y) (hX : kc_Cx T U Ts AOs NWs y p R s m args meth c A H0 nA ρ0 β0) (hr : meth.sig.returnType = U.2.2.2 y) (hlocks : meth.locks = false) (hH : H0 = s.heap) (ho : o ∈ os) (hR : kc_Ret T y o) :
    kc_J p l e R s m args below meth c (MQ below (kc_Qc D cl A os nA ρ0 nB β0) args s (kc_Tmi T y).2.2.1 (kc_Tmi T y).2.2.2.1 A) D cl A H0 (kc_Tmi T y).1 nA ρ0 nB β0 o.1 o.2 := by
  obtain ⟨i, n, hc, hk1⟩ := hR
  have hd := hV.1 _ _ _ _ hc
  obtain ⟨-, -, -, -, -, -, m0, m1, m2, m3, m4⟩ := hM
  intro ρ β ws tys H locs ls lv st hk hg
  obtain ⟨hE, h0, hL, hl, hst, hK, hPw, hD, hS, hC⟩ := hk
  unfold kc_retok at hk1
  rw [Bool.and_eq_true, Bool.and_eq_true] at hk1
  obtain ⟨⟨k1, k2⟩, k3⟩ := hk1
  have k1 := Nat.eq_of_beq_eq_true k1
  subst k1
  have k2 := of_decide_eq_true k2
  have fin : ∀ v : Option Value, kc_stk ρ β o.2.2.2.2.1.length o.2.1.length o.2.2.2.1 v.toList → ∀ t : State, t.heap = H → s.WarmedH t.vm → kc_Qc D cl A os nA ρ0 nB β0 args s (.returned v) t := fun v hv t ht hW => ⟨o, ho, ρ, β, ws, tys, v, rfl, hv, hE, h0, hg, hK.moved hW.alike, by rw [ht]; exact hPw, hD, hC, va_S.F (by rw [← hH]; exact hS) ht⟩
  refine W.widen k2.1 k2.2 ?_
  split at k3
  · rename_i k d hKK
    rw [hKK] at hst fin
    obtain ⟨v, st', rfl, hlt, ⟨x, rfl, ex⟩, hst'⟩ := kc_stk.uncons hst
    cases st' with
    | cons _ _ => exact absurd hst' id
    | nil =>
      rw [Bool.or_eq_true] at k3
      rcases k3 with k3 | k3
      · exact W.iret hX.1 hX.2.1 (hr.trans (m1 (Nat.eq_of_beq_eq_true k3))) (fin (some (.int x)) ⟨hlt, ⟨x, rfl, ex⟩, trivial⟩) hS.2.2 hd hlocks
      · rw [Bool.and_eq_true] at k3
        have hb := of_decide_eq_true k3.2
        have he := hE.at (1, k, d)
        dsimp only at he ex
        exact W.zret hX.1 hX.2.1 (hr.trans (m4 (Nat.eq_of_beq_eq_true k3.1))) (kc_nz01 (by omega) (by omega)) (fin (some (.int x)) ⟨hlt, ⟨x, rfl, ex⟩, trivial⟩) hS.2.2 hd hlocks
  · rename_i hKK
    rw [hKK] at hst fin
    obtain ⟨v, st', rfl, hlt, ⟨x, rfl, ex⟩, hst'⟩ := kc_stk.uncons hst
    cases st' with
    | cons _ _ => exact absurd hst' id
    | nil => exact W.lret hX.1 hX.2.1 (hr.trans (m2 (Nat.eq_of_beq_eq_true k3))) (fin (some (.long x)) ⟨hlt, ⟨x, rfl, ex⟩, trivial⟩) hS.2.2 hd hlocks
  · rename_i hKK
    rw [hKK] at hst fin
    obtain ⟨v, st', rfl, hlt, hv, hst'⟩ := kc_stk.uncons hst
    cases st' with
    | cons _ _ => exact absurd hst' id
    | nil =>
      obtain ⟨rt, hrt, hrt2⟩ := m3 (Nat.eq_of_beq_eq_true k3)
      refine W.aret hX.1 hX.2.1 (hr.trans hrt) hrt2 ?_ (fin (some v) ⟨hlt, hv, trivial⟩) hS.2.2 hd hlocks
      rcases hv with ⟨rfl, -⟩ | ⟨r, rfl, -⟩
      · exact Or.inl rfl
      · exact Or.inr ⟨_, rfl⟩
  · rename_i hKK
    rw [hKK] at hst fin
    cases st with
    | cons _ _ => exact absurd hst id
    | nil => exact W.vret hX.1 hX.2.1 (hr.trans (m0 (Nat.eq_of_beq_eq_true k3))) (fin none trivial) hS.2.2 hd hlocks
  · cases k3
end KO
end
section
/-- what the tables say of a class's links to methods -/
def kc_LV (T : kc_T) (U : kc_U) (Ts : List Jvm.Cond) (NWs : List (String × Nat × MethodName × String)) : Prop := ∀ ci ix kd y : Nat, kc_Tlk T ci ix = some (kd, y) →
  (kd = 3 → Cond.methodLink (U.1 ci) ix Lib.objectInit ∈ Ts ∧ Cond.instanceMethod Lib.objectInit ∈ Ts ∧ Cond.code Lib.objectInit ⟨#[0xb1]⟩ 1 none ∈ Ts) ∧
  (kd = 4 → Cond.methodLink (U.1 ci) ix arraycopyName ∈ Ts ∧ Cond.native arraycopyName ∈ Ts ∧ Cond.static arraycopyName ∈ Ts ∧ Cond.initialized "java/lang/System" ∈ Ts) ∧
  (kd = 5 → Cond.methodLink (U.1 ci) ix Lib.Math.min.name ∈ Ts ∧ Cond.static Lib.Math.min.name ∈ Ts ∧ Cond.initialized "java/lang/Math" ∈ Ts ∧ Cond.code Lib.Math.min.name Lib.Math.min.code 2 (some .int) ∈ Ts) ∧
  (kd = 6 → Cond.methodLink (U.1 ci) ix Lib.Math.max.name ∈ Ts ∧ Cond.static Lib.Math.max.name ∈ Ts ∧ Cond.initialized "java/lang/Math" ∈ Ts ∧ Cond.code Lib.Math.max.name Lib.Math.max.code 2 (some .int) ∈ Ts) ∧
  (kd ≠ 3 → kd ≠ 4 → kd ≠ 5 → kd ≠ 6 → kc_MV T U Ts y ∧ (kd = 0 ∨ kd = 1 ∨ kd = 2 → Cond.methodLink (U.1 ci) ix (U.2.1 y) ∈ Ts) ∧ (kd = 10 ∨ kd = 11 ∨ kd = 12 → ∃ host, (U.1 ci, ix, U.2.1 y, host) ∈ NWs) ∧
    (kd = 0 ∨ kd = 10 → Cond.instanceMethod (U.2.1 y) ∈ Ts ∧ Cond.selects (U.2.1 y).cls (U.2.1 y) (U.2.1 y) ∈ Ts ∧ (parseMethodDescriptor (U.2.1 y).desc).map (fun d => d.parameters.length) = some ((kc_Tmi T y).2.1.length - 1)) ∧
    (kd = 1 ∨ kd = 11 → Cond.static (U.2.1 y) ∈ Ts ∧ (parseMethodDescriptor (U.2.1 y).desc).map (fun d => d.parameters.length) = some (kc_Tmi T y).2.1.length) ∧
    (kd = 2 ∨ kd = 12 → Cond.instanceMethod (U.2.1 y) ∈ Ts ∧ (U.2.1 y).name = "<init>" ∧ U.2.2.2 y = none ∧ (parseMethodDescriptor (U.2.1 y).desc).map (fun d => d.parameters.length) = some ((kc_Tmi T y).2.1.length - 1)))
section KP
variable {T : kc_T} {U : kc_U} {Ts : List Jvm.Cond} {AOs : List String} {NWs : List (String × Nat × MethodName × String)} {y : Nat}
variable {p : Program} {l : Launch} {e : Env} {R : Room} {s : State} {m : MethodId} {args : Array Value} {below : List Frame} {meth : Method} {c : Code} {Q : State → Prop}
variable {D : va_G} {cl : List vw_C} {A : Nat → Prop} {H0 : Heap}
variable {nA : Nat} {ρ0 : Nat → Int} {nB : Nat} {β0 : Nat → Nat}
/-- a method's contract at one call -/
def kc_Pc (AOs : List String) (NWs : List (String × Nat × MethodName × String)) (D : va_G) (cl : List vw_C) (A : Nat → Prop) (vs : List Value) (H : Heap) (tys : List (ClassId × FieldType)) (n : Nat) (ρ : Nat → Int) (β : Nat → Nat) : Array Value → State → Prop := fun v Us => v = vs.toArray ∧ Us.heap = H ∧ kc_Dy AOs NWs Us ∧ va_K D cl tys Us ∧ kc_X Us A H n ρ β
theorem kc_Pc.blind {vs : List Value} {H : Heap} {tys : List (ClassId × FieldType)} {n : Nat} {ρ : Nat → Int} {β : Nat → Nat} : FrameBlind (kc_Pc AOs NWs D cl A vs H tys n ρ β) := fun a Us g mk q => by
  obtain ⟨q1, q2, q3, q4, q5⟩ := q
  have hvm : Us.vm = (Us.calling g mk a).vm := rfl
  exact ⟨q1, q2, q3.same hvm, q4.moved (kc_alike_eq hvm), q5.moved (kc_alike_eq hvm) (Nat.le_refl _) (fun _ _ _ => rfl)⟩
set_option maxHeartbeats 4000000 in
theorem kc_met {as : List kc_V} {S : kc_S} {os : List (Nat × kc_S)} {vs : List Value} {ρ : Nat → Int} {β : Nat → Nat} {ws : va_W} {tys : List (ClassId × FieldType)} {H : Heap} (hV : kc_TV T U cl Ts AOs) (hM : kc_MV T U Ts y) (hE : kc_env ρ S.1) (h0 : 0 < S.1.length ∧ ρ 0 = 0) (has : kc_stk ρ β S.2.2.2.1.length S.1.length as vs) (hP : va_P D cl ws H) (hD : va_D A ws) (hC : kc_C ρ β S.1.length tys S.2.2.2.1 ws) (hA : ∀ q, H.size ≤ q → A q) (hlen : (kc_loc0 as).length ≤ (kc_Tmi T y).1)
    (hrun : ∀ (p : Program) (e : Env) (s : State) (m : MethodId) (args : Array Value) (below : List Frame) (meth : Method) (c : Code) (Q : State → Prop), kc_Cx T U Ts AOs NWs y p (kc_rm T y) s m args meth c A H S.1.length ρ β → (∀ o ∈ os, kc_J p l e (kc_rm T y) s m args below meth c Q D cl A H (kc_Tmi T y).1 S.1.length ρ S.2.2.2.1.length β o.1 o.2) → kc_J p l e (kc_rm T y) s m args below meth c Q D cl A H (kc_Tmi T y).1 S.1.length ρ S.2.2.2.1.length β (kc_ent T y as S).1 (kc_ent T y as S).2)
    (hret : ∀ o ∈ os, kc_Ret T y o) : Met l (U.2.1 y) (kc_ws T U Ts y) (kc_rm T y) (kc_Pc AOs NWs D cl A vs H tys S.1.length ρ β) (kc_Qc D cl A os S.1.length ρ S.2.2.2.1.length β) (kc_Tmi T y).2.2.1 (kc_Tmi T y).2.2.2.1 A := by
  obtain ⟨m1, m2, m3, m4, m5, m6, m7⟩ := hM
  refine Met.ofW (cc := U.2.2.1 y) (maxL := (kc_Tmi T y).1) (ret := U.2.2.2 y) m3 rfl ?_
  intro p e s m args below meth c s₁ B hml hv
  obtain ⟨rfl, hH, hdy, hK, hX⟩ := hv
  have hts : ∀ w ∈ Ts, w.before vs.toArray s = true := fun w hw => atoms_spec (ws := kc_ws T U Ts y) B.pre w (List.mem_cons_of_mem _ hw)
  have Cx : kc_Cx T U Ts AOs NWs y p (kc_rm T y) s m vs.toArray meth c A H S.1.length ρ β := ⟨B.exec, B.bytes, hml, by rw [m5]; exact findClass_of_methodNamed B.named, hts, hdy, fun h => (name_of_methodNamed B.named B.method).1.trans (m6 h), hA, ⟨Nat.le_refl _, Nat.le_refl _, Nat.le_refl _, Nat.le_refl _⟩, hX⟩
  have J0 := hrun p e s m vs.toArray below meth c _ Cx (fun o ho => kc_J.ret (l := l) (e := e) (below := below) (D := D) (nB := S.2.2.2.1.length) hV ⟨m1, m2, m3, m4, m5, m6, m7⟩ Cx B.returns B.notSynchronized hH.symm ho (hret o ho))
  obtain ⟨g1, g2⟩ := kc_loc0.ok 0 has
  have hl := lv_entry vs (n := (kc_Tmi T y).1) (by rw [g1]; exact hlen)
  rw [lg_entry_eq]
  refine J0 ρ β ws tys s.heap [] _ (lv_args 0 vs) [] ⟨hE, h0, fun i a ha hne => ?_, hl, trivial, hK, by rw [hH]; exact hP, hD, by rw [hH]; exact va_S.rf, hC⟩ ⟨Nat.le_refl _, Nat.le_refl _, fun _ _ => rfl, fun _ _ => rfl⟩
  have ha : (kc_loc0 as ++ List.replicate ((kc_Tmi T y).1 - (kc_loc0 as).length) (0, 0, 0))[i]? = some a := ha
  by_cases hi : i < (kc_loc0 as).length
  · rw [List.getElem?_append_left hi] at ha
    have h9 := g2 i a ha hne
    rw [Nat.zero_add] at h9
    exact h9
  · rw [List.getElem?_append_right (by omega), List.getElem?_replicate] at ha
    split at ha
    · cases ha
      exact absurd rfl hne
    · cases ha
/-- behind a call -/
theorem kc_J.after {os : List (Nat × kc_S)} {E : kc_E} {L K K' : List kc_V} {Hs : List kc_G} {cs ss mc ms pc : Nat} {X : Array Value} {ρ : Nat → Int} {β : Nat → Nat} {ws : va_W} {tys : List (ClassId × FieldType)} {H : Heap} {locs : List Loc} {ls : Array Slot} {lv : List (Nat × Value)} {st rest : List Value}
    (hr : va_Run p l e R s m args below meth c H locs cs ss mc ms (F0 m pc ls st) rest (kc_Qc D cl A os E.length ρ Hs.length β X) A) (hk : kc_ok D cl A s H0 (kc_Tmi T y).1 E L K Hs ρ β ws tys H locs ls lv st) (hg : kc_ag nA ρ0 nB β0 E.length Hs.length ρ β) (hrest : kc_stk ρ β Hs.length E.length K' rest)
    (k : ∀ o ∈ os, kc_J p l e R s m args below meth c Q D cl A H0 (kc_Tmi T y).1 nA ρ0 nB β0 (kc_back pc L K' (cs + mc) (ss + ms) o).1 (kc_back pc L K' (cs + mc) (ss + ms) o).2) : W p l e R s m args below meth c H locs cs ss Q (F0 m pc ls st) := by
  intro TT hT XX
  obtain ⟨v, st₀, t, T', L', h0, X', hL', e1, e2, ⟨o, ho, ρ', β', ws', tys', v', hv, q1, q2, q3, q4, q5, q6, q7, q8, q9⟩, stp⟩ := hr TT hT XX
  cases hv
  obtain ⟨hE, hz, hL, hl, hst, hK, hPw, hD, hS, hC⟩ := hk
  obtain ⟨f1, f2⟩ := q9
  rw [h0] at f1 f2
  have g1 : ∀ k, k < E.length → ρ' k = ρ k := q4.2.2.1
  have g2 : ∀ k, k ≤ Hs.length → β' k = β k := q4.2.2.2
  have hKs : va_K D cl tys' s := q5.moved (by rw [← e2]; exact X'.warmed.alike.symm)
  obtain ⟨t2, a1, b1⟩ := k o ho ρ' β' ws' tys' T'.heap (locs ++ L') ls lv (v.toList ++ rest)
    ⟨q2, q3, hL.ext g1 g2 q4.2.1 q4.1, hl, kc_as.app q1 (kc_stk.ext g1 g2 q4.2.1 q4.1 hrest), hKs, by rw [e1]; exact q6, q7, ⟨by rw [e1]; exact Nat.le_trans hS.1 f1, fun q h1 h2 => by rw [e1, f2 q (Nat.lt_of_lt_of_le h1 hS.1) h2]; exact hS.2.1 q h1 h2, fun q hq => by
      rcases List.mem_append.mp hq with h | h
      · exact hS.2.2 q h
      · exact hL' q h⟩, q8⟩ (hg.ext g1 g2 q4.1 q4.2.1) T' rfl X'
  exact ⟨t2, stp t2 a1, b1⟩
theorem kc_recv.ok {kd ci : Nat} {Hs : List kc_G} {E : kc_E} {as : List kc_V} {vs : List Value} {ρ : Nat → Int} {β : Nat → Nat} {N n : Nat} (h : kc_recv kd Hs E as ci = true) (h1 : kd ≠ 1) (h2 : kd ≠ 11) (hE : kc_env ρ E) (hs : kc_stk ρ β N n as vs) : ∃ (r : Nat) (g : kc_G) (As : List Value), vs = .ref (β (r + 1)) :: As ∧ Hs[r]? = some g ∧ g.1 = 0 ∧ g.2.1 = ci := by
  unfold kc_recv at h
  have e1 : Nat.beq kd 1 = false := by
    cases hq : Nat.beq kd 1 with
    | true => exact absurd (Nat.eq_of_beq_eq_true hq) h1
    | false => rfl
  have e2 : Nat.beq kd 11 = false := by
    cases hq : Nat.beq kd 11 with
    | true => exact absurd (Nat.eq_of_beq_eq_true hq) h2
    | false => rfl
  rw [e1, e2, Bool.false_or, Bool.false_or] at h
  split at h
  · rename_i k d as'
    split at h
    · rename_i r ci' rst hc
      obtain ⟨v, As, rfl, -, hv, -⟩ := kc_stk.uncons hs
      obtain ⟨rfl, hH⟩ := kc_cell.ok hc hE hv
      exact ⟨r, _, As, rfl, hH, rfl, (Nat.eq_of_beq_eq_true h).symm⟩
    · cases h
  · cases h
end KP
end
section
theorem kc_lnk_mem {i : Instr} {kd : Nat} (h : kd ∈ (kc_lnk i).2) (h0 : kd ≠ 0) (h1 : kd ≠ 1) (h2 : kd ≠ 2) (h3 : kd ≠ 3) (h4 : kd ≠ 4) (h5 : kd ≠ 5) (h6 : kd ≠ 6) : kd = 10 ∨ kd = 11 ∨ kd = 12 := by
  unfold kc_lnk at h
  split at h
  · rcases List.mem_cons.mp h with h | h
    · exact absurd h h0
    · rcases List.mem_cons.mp h with h | h
      · exact Or.inl h
      · cases h
  · rcases List.mem_cons.mp h with h | h
    · exact absurd h h2
    · rcases List.mem_cons.mp h with h | h
      · exact Or.inr (Or.inr h)
      · rcases List.mem_cons.mp h with h | h
        · exact absurd h h3
        · cases h
  · rcases List.mem_cons.mp h with h | h
    · exact absurd h h1
    · rcases List.mem_cons.mp h with h | h
      · exact Or.inr (Or.inl h)
      · rcases List.mem_cons.mp h with h | h
        · exact absurd h h4
        · rcases List.mem_cons.mp h with h | h
          · exact absurd h h5
          · rcases List.mem_cons.mp h with h | h
            · exact absurd h h6
            · cases h
  · cases h
section KQ
variable {T : kc_T} {U : kc_U} {Ts : List Jvm.Cond} {AOs : List String} {NWs : List (String × Nat × MethodName × String)} {y : Nat}
variable {p : Program} {l : Launch} {e : Env} {R : Room} {s : State} {m : MethodId} {args : Array Value} {below : List Frame} {meth : Method} {c : Code} {Q : State → Prop}
variable {D : va_G} {cl : List vw_C} {A : Nat → Prop} {H0 : Heap}
variable {nA : Nat} {ρ0 : Nat → Int} {nB : Nat} {β0 : Nat → Nat}
set_option maxHeartbeats 4000000 in
/-- a call of Object() or of arraycopy -/
theorem kc_invk.ok1 {i : Instr} {n pc : Nat} {S S' : kc_S} (hV : kc_TV T U cl Ts AOs) (hLV : kc_LV T U Ts NWs) (hX : kc_Cx T U Ts AOs NWs y p R s m args meth c A H0 nA ρ0 β0) (hc : kc_Tcd T y pc = some (i, n)) (hkd : kc_kind i = 2) (h : kc_invk T y i n S = some (.inl S'))
    (k : kc_J p l e R s m args below meth c Q D cl A H0 (kc_Tmi T y).1 nA ρ0 nB β0 (pc + 3) S') : kc_J p l e R s m args below meth c Q D cl A H0 (kc_Tmi T y).1 nA ρ0 nB β0 pc S := by
  have hd := hV.1 _ _ _ _ hc
  obtain ⟨hx, hb, hml, hown, hts, hdy, hini, hA, ⟨r1, r2, r3, r4⟩, hXX⟩ := hX
  obtain ⟨E, L, K, Hs, cs, ss⟩ := S
  unfold kc_invk at h
  split at h
  · rename_i kd y' hlk
    obtain ⟨l3, l4, l5, l6, -⟩ := hLV _ _ _ _ hlk
    split at h
    · rename_i hn
      rw [Bool.and_eq_true] at hn
      obtain ⟨hn1, hn2⟩ := hn
      have hn1 := Nat.eq_of_beq_eq_true hn1
      subst hn1
      split at h
      · rename_i e3
        subst e3
        obtain ⟨w1, w2, w3⟩ := l3 rfl
        dsimp only at h
        split at h
        · rename_i k0 d K'
          split at h
          · rename_i hcd
            obtain ⟨c1, c2, c3, c4, c5⟩ := hcd
            cases h
            have hi : i = .invokespecial (kc_lnk i).1 := by
              cases i <;> first | rfl | (exfalso; revert hn2; simp [kc_lnk]; done) | (exfalso; revert hkd; simp [kc_kind]; done)
            rw [hi] at hd
            intro ρ β ws tys H locs ls lv st hk hg
            have hE : kc_env ρ E := hk.1
            have hst : kc_stk ρ β Hs.length E.length ((3, k0, d) :: K') st := hk.2.2.2.2.1
            obtain ⟨v, st', rfl, hlt, hv, hst'⟩ := kc_stk.uncons hst
            have hbe := hE.at (3, k0, d)
            dsimp only at hbe
            rcases hv with ⟨-, ez⟩ | ⟨r, rfl, e1, e2, ez⟩
            · dsimp only at ez; omega
            · refine W.objInit hx hb hown (hts _ w1) (hts _ w2) (hts _ w3) rfl (hk.2.2.2.1.1.trans hml.symm) rfl hd (by omega) ?_ ?_
              · rw [kc_cat.ok hst']
                show 2 * 0 + _ + 12 ≤ R.locals
                omega
              · exact kc_J.go k hk hg hst'
          · cases h
        · cases h
      · split at h
        · rename_i e3 e4
          subst e4
          obtain ⟨w1, w2, w3, w4⟩ := l4 rfl
          split at h
          · rename_i hcd
            obtain ⟨r, hr, hrS⟩ := Option.map_eq_some_iff.mp h
            cases hrS
            have hi : i = .invokestatic (kc_lnk i).1 := by
              cases i <;> first | rfl | (exfalso; revert hn2; simp [kc_lnk]; done) | (exfalso; revert hkd; simp [kc_kind]; done)
            rw [hi] at hd
            exact kc_acp.ok hr hx hb hml hown (hts _ w1) (hts _ w2) (hts _ w3) (hts _ w4) (by omega) (by show 8 + (7 + 11) ≤ R.locals; omega) hd k
          · cases h
        · split at h
          · rename_i e3 e4 e56
            dsimp only at h
            split at h
            · rename_i n2 d2 n1 d1 K'
              split at h
              · rename_i hcd
                obtain ⟨c1, c2, c3, c4, c5⟩ := hcd
                cases h
                have hi : i = .invokestatic (kc_lnk i).1 := by
                  rcases e56 with rfl | rfl <;> cases i <;> first | rfl | (exfalso; revert hn2; simp [kc_lnk]; done) | (exfalso; revert hkd; simp [kc_kind]; done)
                rw [hi] at hd
                intro ρ β ws tys H locs ls lv st hk hg
                show W p l e R s m args below meth c H locs cs ss Q (F0 m pc ls st)
                have hE : kc_env ρ E := hk.1
                have h0 : 0 < E.length ∧ ρ 0 = 0 := hk.2.1
                have hst : kc_stk ρ β Hs.length E.length ((1, n2, d2) :: (1, n1, d1) :: K') st := hk.2.2.2.2.1
                obtain ⟨v2, st1, rfl, hlt2, ⟨x2, rfl, ex2⟩, hst1⟩ := kc_stk.uncons hst
                obtain ⟨v1, st', rfl, hlt1, ⟨x1, rfl, ex1⟩, hst'⟩ := kc_stk.uncons hst1
                rcases e56 with rfl | rfl
                · obtain ⟨w1, w2, w3, w4⟩ := l5 rfl
                  refine va_mmin hx hb (hml.trans hk.2.2.2.1.1.symm) hown (hts _ w1) (hts _ w2) (hts _ w3) (hts _ w4) (by omega) (by rw [kc_cat.ok hst']; omega) (by omega) (by omega) hd ?_
                  have hm := kc_mm.ok (β := β) (N := Hs.length) false hE h0 hlt1 hlt2 ex1 ex2
                  rw [if_neg (show ¬ (false = true) by decide)] at hm
                  exact kc_J.res k hk hg hst' hm
                · obtain ⟨w1, w2, w3, w4⟩ := l6 rfl
                  refine va_mmax hx hb (hml.trans hk.2.2.2.1.1.symm) hown (hts _ w1) (hts _ w2) (hts _ w3) (hts _ w4) (by omega) (by rw [kc_cat.ok hst']; omega) (by omega) (by omega) hd ?_
                  have hm := kc_mm.ok (β := β) (N := Hs.length) true hE h0 hlt1 hlt2 ex1 ex2
                  rw [if_pos (show true = true from rfl)] at hm
                  exact kc_J.res k hk hg hst' hm
              · cases h
            · cases h
          · split at h
            · split at h
              · cases h
              · cases h
            · cases h
    · cases h
  · cases h
set_option maxHeartbeats 4000000 in
/-- a call of a method -/
theorem kc_invk.ok2 {i : Instr} {n pc : Nat} {S : kc_S} {r : Nat × List kc_V × List kc_V} {os : List (Nat × kc_S)} (hV : kc_TV T U cl Ts AOs) (hLV : kc_LV T U Ts NWs) (hG : GoodIn Ts Ts) (hX : kc_Cx T U Ts AOs NWs y p R s m args meth c A H0 nA ρ0 β0) (hc : kc_Tcd T y pc = some (i, n)) (hkd : kc_kind i = 2) (h : kc_invk T y i n S = some (.inr r))
    (hrun : ∀ (p : Program) (e : Env) (s : State) (m : MethodId) (args : Array Value) (below : List Frame) (meth : Method) (c : Code) (Q : State → Prop) (H : Heap) (ρ : Nat → Int) (β : Nat → Nat), kc_Cx T U Ts AOs NWs r.1 p (kc_rm T r.1) s m args meth c A H S.1.length ρ β → (∀ o ∈ os, kc_J p l e (kc_rm T r.1) s m args below meth c Q D cl A H (kc_Tmi T r.1).1 S.1.length ρ S.2.2.2.1.length β o.1 o.2) → kc_J p l e (kc_rm T r.1) s m args below meth c Q D cl A H (kc_Tmi T r.1).1 S.1.length ρ S.2.2.2.1.length β (kc_ent T r.1 r.2.1 S).1 (kc_ent T r.1 r.2.1 S).2)
    (hret : ∀ o ∈ os, kc_Ret T r.1 o)
    (k : ∀ o ∈ os, kc_J p l e R s m args below meth c Q D cl A H0 (kc_Tmi T y).1 nA ρ0 nB β0 (kc_back pc S.2.1 r.2.2 (S.2.2.2.2.1 + (kc_Tmi T r.1).2.2.1) (S.2.2.2.2.2 + (kc_Tmi T r.1).2.2.2.1) o).1 (kc_back pc S.2.1 r.2.2 (S.2.2.2.2.1 + (kc_Tmi T r.1).2.2.1) (S.2.2.2.2.2 + (kc_Tmi T r.1).2.2.2.1) o).2) : kc_J p l e R s m args below meth c Q D cl A H0 (kc_Tmi T y).1 nA ρ0 nB β0 pc S := by
  have hd := hV.1 _ _ _ _ hc
  obtain ⟨hx, hb, hml, hown, hts, hdy, hini, hA, ⟨r1, r2, r3, r4⟩, hXX⟩ := hX
  obtain ⟨E, L, K, Hs, cs, ss⟩ := S
  unfold kc_invk at h
  split at h
  · rename_i kd y' hlk
    obtain ⟨-, -, -, -, l5⟩ := hLV _ _ _ _ hlk
    split at h
    · rename_i hn
      rw [Bool.and_eq_true] at hn
      obtain ⟨hn1, hn2⟩ := hn
      have hn1 := Nat.eq_of_beq_eq_true hn1
      subst hn1
      split at h
      · dsimp only at h
        split at h
        · split at h
          · cases h
          · cases h
        · cases h
      · rename_i e3
        split at h
        · split at h
          · obtain ⟨r, hr, hrS⟩ := Option.map_eq_some_iff.mp h
            cases hrS
          · cases h
        · rename_i e4
          split at h
          · dsimp only at h
            split at h
            · split at h
              · cases h
              · cases h
            · cases h
          rename_i e56
          have e5 : kd ≠ 5 := fun q => e56 (Or.inl q)
          have e6 : kd ≠ 6 := fun q => e56 (Or.inr q)
          obtain ⟨hM, b1, b2, b3, b4, b5⟩ := l5 e3 e4 e5 e6
          split at h
          · rename_i as K' has0
            split at h
            · rename_i hcd
              rw [Bool.and_eq_true] at hcd
              obtain ⟨hcd, hrc⟩ := hcd
              obtain ⟨c1, c2, c3, c4, c5, c6⟩ := of_decide_eq_true hcd
              cases h
              dsimp only at c2 c3 k hrun hret
              intro ρ β ws tys H locs ls lv st hk hg
              show W p l e R s m args below meth c H locs cs ss Q (F0 m pc ls st)
              have hE : kc_env ρ E := hk.1
              have hst : kc_stk ρ β Hs.length E.length K st := hk.2.2.2.2.1
              obtain ⟨hK, hPw, hD, hS, hC⟩ := hk.2.2.2.2.2
              obtain ⟨vs, rest, q1, q2, rfl, q4, -⟩ := kc_args.ok (vs0 := []) has0 hst trivial
              rw [List.append_nil] at q1
              rw [List.length_reverse] at q4
              have hXH : kc_X s A H E.length ρ β := (hXX.mono hg.1 hg.2.2.1 (hg.2.2.2 0 (Nat.zero_le _))).moved (Vm.Alike.refl _) hS.1 hS.2.1
              have hMet := kc_met (l := l) (y := y') (S := (E, L, K, Hs, cs, ss)) (os := os) hV hM hE hk.2.1 q1 hPw hD hC (fun q hq => hA q (Nat.le_trans hS.1 hq)) c6 (fun p e s m args below meth c Q hCx ho => hrun p e s m args below meth c Q H ρ β hCx ho) hret
              have hGw : GoodIn Ts (kc_ws T U Ts y') := fun w hw => by
                rcases List.mem_cons.mp hw with rfl | hw
                · exact hG _ hM.1
                · exact hG _ hw
              have hRR : (kc_rm T y').frames + 1 ≤ R.frames ∧ 8 + ((kc_Tmi T y').1 + 11) + (kc_rm T y').locals ≤ R.locals := ⟨Nat.le_trans c4 r3, by show 8 + ((kc_Tmi T y').1 + 11) + (kc_Tmi T y').2.2.2.2.2.1 ≤ R.locals; omega⟩
              have hcf : CallFix p m c (U.2.2.1 y) (kc_Tmi T y).1 s args Ts (U.1 (kc_Tmi T y).2.2.2.2.2.2.1) := ⟨hx, hb, hml, hown, hts⟩
              have hPre : ∀ Us : State, Us.heap = H → s.WarmedH Us.vm → kc_Pc AOs NWs D cl A vs H tys E.length ρ β vs.toArray Us := fun Us h1 h2 => ⟨rfl, h1, hdy.warm h2, hK.moved h2.alike, hXH.moved h2.alike (Nat.le_refl _) (fun _ _ _ => rfl)⟩
              have hroom : 2 * (F0 m pc ls (vs.reverse ++ rest)).monitorRoom + (rest.map fun v => v.category).sum ≤ 8 := by
                rw [kc_cat.ok q2]
                show 2 * 0 + kc_cat K' ≤ 8
                omega
              have hcells : cs + (kc_Tmi T y').2.2.1 ≤ R.cells ∧ ss + (kc_Tmi T y').2.2.2.1 ≤ R.slots := ⟨Nat.le_trans c2 r1, Nat.le_trans c3 r2⟩
              have hls : (F0 m pc ls (vs.reverse ++ rest)).locals.size = (kc_Tmi T y).1 := hk.2.2.2.1.1
              have hInit := hts _ hM.2.1
              have hobj : kd ≠ 1 → kd ≠ 11 → ∃ (b : Nat) (As : List Value), vs = .ref b :: As ∧ As.length = (kc_Tmi T y').2.1.length - 1 ∧ ∃ cellB : Cell, H[b]? = some cellB ∧ cellB.vm.isStatics = false ∧ s.vm.findClass (U.2.1 y').cls = some cellB.cls := fun n1 n11 => by
                obtain ⟨rr, g, As, rfl, g1, g2, g3⟩ := kc_recv.ok hrc n1 n11 hE q1
                obtain ⟨e0, w1, w2⟩ := hC.2 _ _ g1
                unfold kc_e at w2
                rw [g2] at w2
                obtain ⟨fs, rfl, -⟩ := w2
                have hz0 : ∃ z : vw_C, cl[g.2.1]? = some z ∧ _ := hPw _ _ w1
                obtain ⟨z, hz, -⟩ := hz0
                have hrv := va_recv hK hPw hz w1
                have hzn := (hV.2.2.2.2.2.1 _ z hz).2
                rw [g3, hM.2.2.2.2.1] at hzn
                rw [hzn] at hrv
                refine ⟨_, As, rfl, ?_, hrv⟩
                rw [← q4]
                rfl
              have hend : ∀ X : Array Value, va_Run p l e R s m args below meth c H locs cs ss (kc_Tmi T y').2.2.1 (kc_Tmi T y').2.2.2.1 (F0 m pc ls (vs.reverse ++ rest)) rest (kc_Qc D cl A os E.length ρ Hs.length β X) A → W p l e R s m args below meth c H locs cs ss Q (F0 m pc ls (vs.reverse ++ rest)) := fun X hr => kc_J.after hr hk hg q2 k
              by_cases k0 : kd = 0
              · subst k0
                have hi : i = .invokevirtual (kc_lnk i).1 := by
                  cases i <;> first | rfl | (exfalso; revert hn2; simp [kc_lnk]; done) | (exfalso; revert hkd; simp [kc_kind]; done)
                rw [hi] at hd
                obtain ⟨b, As, rfl, hAs, hcell⟩ := hobj (by decide) (by decide)
                obtain ⟨s1, s2, s3⟩ := b3 (Or.inl rfl)
                exact hend _ (va_runV (rest := rest) hcf hMet ⟨callB_of _ hts hGw rfl rfl rfl hInit (hts _ (b1 (Or.inl rfl))) ⟨hM.2.2.2.1.1, hM.2.2.2.1.2, s3⟩ hRR, hts _ s1, hts _ s2⟩ ⟨kc_Pc.blind, hcell, hPre⟩ rfl hAs hls (by simp) hroom hd hcells)
              · by_cases k1 : kd = 1
                · subst k1
                  have hi : i = .invokestatic (kc_lnk i).1 := by
                    cases i <;> first | rfl | (exfalso; revert hn2; simp [kc_lnk]; done) | (exfalso; revert hkd; simp [kc_kind]; done)
                  rw [hi] at hd
                  obtain ⟨s1, s3⟩ := b4 (Or.inl rfl)
                  exact hend _ (va_runS (rest := rest) hcf hMet ⟨callB_of _ hts hGw rfl rfl rfl hInit (hts _ (b1 (Or.inr (Or.inl rfl)))) ⟨hM.2.2.2.1.1, hM.2.2.2.1.2, s3⟩ hRR, hts _ s1⟩ ⟨kc_Pc.blind, hPre⟩ rfl q4 hls rfl hroom hd hcells)
                · by_cases k2 : kd = 2
                  · subst k2
                    have hi : i = .invokespecial (kc_lnk i).1 := by
                      cases i <;> first | rfl | (exfalso; revert hn2; simp [kc_lnk]; done) | (exfalso; revert hkd; simp [kc_kind]; done)
                    rw [hi] at hd
                    obtain ⟨b, As, rfl, hAs, hcell⟩ := hobj (by decide) (by decide)
                    obtain ⟨s1, s2, s4, s3⟩ := b5 (Or.inl rfl)
                    have hGw2 := hGw
                    unfold kc_ws at hGw2 hMet
                    rw [s4] at hGw2 hMet
                    exact hend _ (va_runI (rest := rest) hcf hMet ⟨callB_of _ hts hGw2 rfl rfl rfl hInit (hts _ (b1 (Or.inr (Or.inr rfl)))) ⟨hM.2.2.2.1.1, hM.2.2.2.1.2, s3⟩ hRR, s2, hts _ s1⟩ ⟨kc_Pc.blind, hPre⟩ rfl hAs hls (by simp) hroom hd hcells)
                  · have hk3 : kd = 10 ∨ kd = 11 ∨ kd = 12 := by
                      exact kc_lnk_mem (i := i) (by simpa using hn2) k0 k1 k2 e3 e4 e5 e6
                    obtain ⟨host, hhost⟩ := b2 hk3
                    have hnw := hdy.2.2 _ hhost
                    rcases hk3 with rfl | rfl | rfl
                    · have hi : i = .invokevirtual (kc_lnk i).1 := by
                        cases i <;> first | rfl | (exfalso; revert hn2; simp [kc_lnk]; done) | (exfalso; revert hkd; simp [kc_kind]; done)
                      rw [hi] at hd
                      obtain ⟨b, As, rfl, hAs, hcell⟩ := hobj (by decide) (by decide)
                      obtain ⟨s1, s2, s3⟩ := b3 (Or.inr rfl)
                      exact hend _ (va_runVN (rest := rest) hcf hMet ⟨va_cnB _ hts hGw rfl rfl rfl hnw hInit ⟨hM.2.2.2.1.1, hM.2.2.2.1.2, s3⟩ hRR, hts _ s1, hts _ s2⟩ ⟨kc_Pc.blind, hcell, hPre⟩ rfl hAs hls (by simp) hroom hd hcells)
                    · have hi : i = .invokestatic (kc_lnk i).1 := by
                        cases i <;> first | rfl | (exfalso; revert hn2; simp [kc_lnk]; done) | (exfalso; revert hkd; simp [kc_kind]; done)
                      rw [hi] at hd
                      obtain ⟨s1, s3⟩ := b4 (Or.inr rfl)
                      exact hend _ (va_runSN (rest := rest) hcf hMet ⟨va_cnB _ hts hGw rfl rfl rfl hnw hInit ⟨hM.2.2.2.1.1, hM.2.2.2.1.2, s3⟩ hRR, hts _ s1, trivial⟩ ⟨kc_Pc.blind, hPre⟩ rfl q4 hls rfl hroom hd hcells)
                    · have hi : i = .invokespecial (kc_lnk i).1 := by
                        cases i <;> first | rfl | (exfalso; revert hn2; simp [kc_lnk]; done) | (exfalso; revert hkd; simp [kc_kind]; done)
                      rw [hi] at hd
                      obtain ⟨b, As, rfl, hAs, hcell⟩ := hobj (by decide) (by decide)
                      obtain ⟨s1, s2, s4, s3⟩ := b5 (Or.inr rfl)
                      have hGw2 := hGw
                      unfold kc_ws at hGw2 hMet
                      rw [s4] at hGw2 hMet
                      exact hend _ (va_runIN (rest := rest) hcf hMet ⟨va_cnB _ hts hGw2 rfl rfl rfl hnw hInit ⟨hM.2.2.2.1.1, hM.2.2.2.1.2, s3⟩ hRR, s2, hts _ s1⟩ ⟨kc_Pc.blind, hPre⟩ rfl hAs hls (by simp) hroom hd hcells)
            · cases h
          · cases h
    · cases h
  · cases h
/-- every end is a return, or a head that is open -/
theorem kc_run.outs : ∀ (f y : Nat) (op : List Nat) (todo outs outs' : List (Nat × kc_S)), kc_run T f y op todo outs = some outs' → (∀ o ∈ outs, o.1 ∈ op ∨ kc_Ret T y o) → ∀ o ∈ outs', o.1 ∈ op ∨ kc_Ret T y o
  | 0, _, _, _, _, _, h, _ => by
    unfold kc_run at h
    cases h
  | f + 1, y, op, [], outs, outs', h, ho => by
    unfold kc_run at h
    cases h
    exact ho
  | f + 1, y, op, q :: rest, outs, outs', h, ho => by
    unfold kc_run at h
    split at h
    · rename_i hop
      refine kc_run.outs f y op rest (q :: outs) outs' h (fun o h1 => ?_)
      rcases List.mem_cons.mp h1 with rfl | h1
      · exact Or.inl (by simpa using hop)
      · exact ho o h1
    · split at h
      · rename_i an i n h1 h2
        split at h
        · split at h
          · rename_i ns hs
            split at h
            · rename_i os hr
              split at h
              · refine kc_run.outs f y op rest _ outs' h (fun o h3 => ?_)
                rcases List.mem_append.mp h3 with h3 | h3
                · obtain ⟨h4, h5⟩ := List.mem_filter.mp h3
                  have h5 := of_decide_eq_true h5
                  rcases kc_run.outs f y (q.1 :: op) ns [] os hr (fun o h => by cases h) o h4 with h6 | h6
                  · rcases List.mem_cons.mp h6 with h6 | h6
                    · exact absurd h6 h5
                    · exact Or.inl h6
                  · exact Or.inr h6
                · exact ho o h3
              · cases h
            · cases h
          · cases h
        · cases h
      · rename_i i n h1 h2
        split at h
        · split at h
          · rename_i hret
            refine kc_run.outs f y op rest _ outs' h (fun o h3 => ?_)
            rcases List.mem_cons.mp h3 with rfl | h3
            · exact Or.inr ⟨i, n, h2, hret⟩
            · exact ho o h3
          · cases h
        · split at h
          · exact kc_run.outs f y op _ _ outs' h ho
          · split at h
            · exact kc_run.outs f y op _ _ outs' h ho
            · cases h
          · cases h
        · split at h
          · exact kc_run.outs f y op _ _ outs' h ho
          · cases h
      · cases h
set_option maxHeartbeats 4000000 in
/-- what the executor runs to, the machine comes to -/
theorem kc_run.ok (hV : kc_TV T U cl Ts AOs) (hLV : kc_LV T U Ts NWs) (hG : GoodIn Ts Ts) : ∀ (f y : Nat) (op : List Nat) (todo outs outs' : List (Nat × kc_S)), kc_run T f y op todo outs = some outs' → ∀ (p : Program) (e : Env) (R : Room) (s : State) (m : MethodId) (args : Array Value) (below : List Frame) (meth : Method) (c : Code) (Q : State → Prop) (H0 : Heap) (nA : Nat) (ρ0 : Nat → Int) (nB : Nat) (β0 : Nat → Nat), kc_Cx T U Ts AOs NWs y p R s m args meth c A H0 nA ρ0 β0 →
    (∀ o ∈ outs', kc_J p l e R s m args below meth c Q D cl A H0 (kc_Tmi T y).1 nA ρ0 nB β0 o.1 o.2) → (∀ o ∈ todo, kc_J p l e R s m args below meth c Q D cl A H0 (kc_Tmi T y).1 nA ρ0 nB β0 o.1 o.2) ∧ ∀ o ∈ outs, kc_J p l e R s m args below meth c Q D cl A H0 (kc_Tmi T y).1 nA ρ0 nB β0 o.1 o.2
  | 0, _, _, _, _, _, h => by
    unfold kc_run at h
    cases h
  | f + 1, y, op, [], outs, outs', h => by
    unfold kc_run at h
    cases h
    intro p e R s m args below meth c Q H0 nA ρ0 nB β0 hX ho
    exact ⟨fun o h => absurd h List.not_mem_nil, ho⟩
  | f + 1, y, op, q :: rest, outs, outs', h => by
    intro p e R s m args below meth c Q H0 nA ρ0 nB β0 hX ho
    have cons : ∀ {P : Nat × kc_S → Prop}, P q → (∀ o ∈ rest, P o) → ∀ o ∈ q :: rest, P o := fun h1 h2 o h3 => by
      rcases List.mem_cons.mp h3 with rfl | h3
      · exact h1
      · exact h2 o h3
    unfold kc_run at h
    split at h
    · obtain ⟨g1, g2⟩ := kc_run.ok hV hLV hG f y op rest (q :: outs) outs' h p e R s m args below meth c Q H0 nA ρ0 nB β0 hX ho
      exact ⟨cons (g2 q List.mem_cons_self) g1, fun o h1 => g2 o (List.mem_cons_of_mem _ h1)⟩
    · split at h
      · rename_i an i n h1 h2
        split at h
        · rename_i hw
          rw [Bool.and_eq_true] at hw
          split at h
          · rename_i ns hs
            split at h
            · rename_i os hr
              split at h
              · rename_i hall
                obtain ⟨g1, g2⟩ := kc_run.ok hV hLV hG f y op rest _ outs' h p e R s m args below meth c Q H0 nA ρ0 nB β0 hX ho
                refine ⟨cons ?_ g1, fun o h3 => g2 o (List.mem_append.mpr (Or.inr h3))⟩
                refine kc_J.loop (an := an) (Wd := kc_wid an q.2) (os := os) (of_decide_eq_true hw.1) hw.2 (fun o h3 h4 => ?_) (fun o h3 h4 => g2 o (List.mem_append.mpr (Or.inl (List.mem_filter.mpr ⟨h3, decide_eq_true h4⟩)))) (fun ρ1 β1 hg hos => ?_)
                · have h5 := List.all_eq_true.mp hall o h3
                  rw [Bool.or_eq_true] at h5
                  rcases h5 with h5 | h5
                  · exact absurd h4 (of_decide_eq_true h5)
                  · exact h5
                · have hX2 : kc_Cx T U Ts AOs NWs y p R s m args meth c A H0 (kc_wid an q.2).1.length ρ1 β1 := by
                    obtain ⟨x1, x2, x3, x4, x5, x6, x7, x8, x9, x10⟩ := hX
                    exact ⟨x1, x2, x3, x4, x5, x6, x7, x8, x9, x10.mono hg.1 hg.2.2.1 (hg.2.2.2 0 (Nat.zero_le _))⟩
                  exact kc_step.ok hV hX2 h2 hs (kc_run.ok hV hLV hG f y (q.1 :: op) ns [] os hr p e R s m args below meth c Q H0 _ ρ1 _ β1 hX2 hos).1
              · cases h
            · cases h
          · cases h
        · cases h
      · rename_i i n h1 h2
        split at h
        · rename_i hkd
          split at h
          · obtain ⟨g1, g2⟩ := kc_run.ok hV hLV hG f y op rest (q :: outs) outs' h p e R s m args below meth c Q H0 nA ρ0 nB β0 hX ho
            exact ⟨cons (g2 q List.mem_cons_self) g1, fun o h1 => g2 o (List.mem_cons_of_mem _ h1)⟩
          · cases h
        · rename_i hkd
          split at h
          · rename_i S' hi
            obtain ⟨g1, g2⟩ := kc_run.ok hV hLV hG f y op _ outs outs' h p e R s m args below meth c Q H0 nA ρ0 nB β0 hX ho
            exact ⟨cons (kc_invk.ok1 hV hLV hX h2 hkd hi (g1 _ List.mem_cons_self)) (fun o h3 => g1 o (List.mem_cons_of_mem _ h3)), g2⟩
          · rename_i r hi
            split at h
            · rename_i os hr
              obtain ⟨g1, g2⟩ := kc_run.ok hV hLV hG f y op _ outs outs' h p e R s m args below meth c Q H0 nA ρ0 nB β0 hX ho
              refine ⟨cons (kc_invk.ok2 (os := os) hV hLV hG hX h2 hkd hi (fun p e s m args below meth c Q H ρ β hCx hos => (kc_run.ok hV hLV hG f r.1 [] _ [] os hr p e (kc_rm T r.1) s m args below meth c Q H _ ρ _ β hCx hos).1 _ List.mem_cons_self) (fun o h3 => ?_) (fun o h3 => g1 _ (List.mem_append.mpr (Or.inl (List.mem_map.mpr ⟨o, h3, rfl⟩))))) (fun o h3 => g1 o (List.mem_append.mpr (Or.inr h3))), g2⟩
              rcases kc_run.outs f r.1 [] _ [] os hr (fun o h => by cases h) o h3 with h4 | h4
              · cases h4
              · exact h4
            · cases h
          · cases h
        · split at h
          · rename_i ns hs
            obtain ⟨g1, g2⟩ := kc_run.ok hV hLV hG f y op _ outs outs' h p e R s m args below meth c Q H0 nA ρ0 nB β0 hX ho
            exact ⟨cons (kc_step.ok hV hX h2 hs (fun o h3 => g1 o (List.mem_append.mpr (Or.inl h3)))) (fun o h3 => g1 o (List.mem_append.mpr (Or.inr h3))), g2⟩
          · cases h
      · cases h
end KQ
end
section
/-! ===== the tables of this class, its law and its reference (written by wip/p1/gen.py) ===== -/
def kt_0_b0 : List (Nat × Instr × Nat) := [(0, (.new 7, 3)), (3, (.dup, 1)), (4, (.invokespecial 9, 3)), (7, (.astore_n 1, 1)), (8, (.new 10, 3)), (11, (.dup, 1)), (12, (.invokespecial 12, 3)), (15, (.astore_n 2, 1)), (16, (.iconst 0, 1)), (17, (.istore_n 3, 1)), (18, (.iload_n 3, 1)), (19, (.aload_n 0, 1)), (20, (.arraylength, 1)), (21, (.bipush 6, 2)), (23, (.isub, 1)), (24, (.if_icmp .gt 2152, 3)), (27, (.aload_n 0, 1)), (28, (.iload_n 3, 1)), (29, (.iaload, 1)), (30, (.bipush 63, 2)), (32, (.iand, 1)), (33, (.tableswitch 2137 0 55 #[239, 302, 325, 338, 361, 404, 437, 470, 523, 566, 589, 622, 655, 688, 741, 794, 817, 830, 843, 866, 889, 912, 935, 958, 991, 1014, 1047, 1080, 1113, 1156, 1209, 1242, 1275, 1308, 1341, 1364, 1397, 1430, 1463, 1496, 1519, 1572, 1605, 1638, 1681, 1734, 1767, 1790, 1813, 1846, 1889, 1912, 1935, 1958, 2001, 2074], 239)), (272, (.aload_n 1, 1)), (273, (.aload_n 0, 1)), (274, (.iload_n 3, 1)), (275, (.iconst 1, 1)), (276, (.iadd, 1)), (277, (.iaload, 1)), (278, (.aload_n 0, 1)), (279, (.iload_n 3, 1)), (280, (.iconst 2, 1)), (281, (.iadd, 1)), (282, (.iaload, 1)), (283, (.aload_n 0, 1)), (284, (.iload_n 3, 1)), (285, (.iconst 3, 1)), (286, (.iadd, 1)), (287, (.iaload, 1))]
def kt_0_b1 : List (Nat × Instr × Nat) := [(288, (.aload_n 0, 1)), (289, (.iload_n 3, 1)), (290, (.iconst 4, 1)), (291, (.iadd, 1)), (292, (.iaload, 1)), (293, (.aload_n 0, 1)), (294, (.iload_n 3, 1)), (295, (.iconst 5, 1)), (296, (.iadd, 1)), (297, (.iaload, 1)), (298, (.invokevirtual 13, 3)), (301, (.aload_n 2, 1)), (302, (.aload_n 0, 1)), (303, (.iload_n 3, 1)), (304, (.iconst 1, 1)), (305, (.iadd, 1)), (306, (.iaload, 1)), (307, (.aload_n 0, 1)), (308, (.iload_n 3, 1)), (309, (.iconst 2, 1)), (310, (.iadd, 1)), (311, (.iaload, 1)), (312, (.aload_n 0, 1)), (313, (.iload_n 3, 1)), (314, (.iconst 3, 1)), (315, (.iadd, 1)), (316, (.iaload, 1)), (317, (.aload_n 0, 1)), (318, (.iload_n 3, 1)), (319, (.iconst 4, 1)), (320, (.iadd, 1)), (321, (.iaload, 1)), (322, (.aload_n 0, 1)), (323, (.iload_n 3, 1)), (324, (.iconst 5, 1)), (325, (.iadd, 1)), (326, (.iaload, 1)), (327, (.invokevirtual 17, 3))]
def kt_0_b2 : List (Nat × Instr × Nat) := [(330, (.if_icmp .eq 1840, 3)), (335, (.aload_n 1, 1)), (336, (.aload_n 0, 1)), (337, (.iload_n 3, 1)), (338, (.iconst 1, 1)), (339, (.iadd, 1)), (340, (.iaload, 1)), (341, (.invokevirtual 18, 3)), (344, (.aload_n 2, 1)), (345, (.aload_n 0, 1)), (346, (.iload_n 3, 1)), (347, (.iconst 1, 1)), (348, (.iadd, 1)), (349, (.iaload, 1)), (350, (.invokevirtual 22, 3)), (353, (.if_icmp .eq 1817, 3)), (358, (.aload_n 1, 1)), (359, (.invokevirtual 23, 3)), (362, (.aload_n 2, 1)), (363, (.invokevirtual 27, 3)), (366, (.if_icmp .eq 1804, 3)), (371, (.aload_n 1, 1)), (372, (.aload_n 0, 1)), (373, (.iload_n 3, 1)), (374, (.iconst 1, 1)), (375, (.iadd, 1)), (376, (.iaload, 1)), (377, (.invokevirtual 28, 3)), (380, (.aload_n 2, 1)), (381, (.aload_n 0, 1)), (382, (.iload_n 3, 1)), (383, (.iconst 1, 1)), (384, (.iadd, 1)), (385, (.iaload, 1)), (386, (.invokevirtual 31, 3)), (389, (.if_icmp .eq 1781, 3)), (394, (.aload_n 1, 1)), (395, (.aload_n 0, 1))]
def kt_0_b3 : List (Nat × Instr × Nat) := [(396, (.iload_n 3, 1)), (397, (.iconst 1, 1)), (398, (.iadd, 1)), (399, (.iaload, 1)), (400, (.aload_n 0, 1)), (401, (.iload_n 3, 1)), (402, (.iconst 2, 1)), (403, (.iadd, 1)), (404, (.iaload, 1)), (405, (.aload_n 0, 1)), (406, (.iload_n 3, 1)), (407, (.iconst 3, 1)), (408, (.iadd, 1)), (409, (.iaload, 1)), (410, (.invokevirtual 32, 3)), (413, (.aload_n 2, 1)), (414, (.aload_n 0, 1)), (415, (.iload_n 3, 1)), (416, (.iconst 1, 1)), (417, (.iadd, 1)), (418, (.iaload, 1)), (419, (.aload_n 0, 1)), (420, (.iload_n 3, 1)), (421, (.iconst 2, 1)), (422, (.iadd, 1)), (423, (.iaload, 1)), (424, (.aload_n 0, 1)), (425, (.iload_n 3, 1)), (426, (.iconst 3, 1)), (427, (.iadd, 1)), (428, (.iaload, 1)), (429, (.invokevirtual 36, 3)), (432, (.if_icmp .eq 1738, 3)), (437, (.aload_n 1, 1)), (438, (.aload_n 0, 1)), (439, (.iload_n 3, 1)), (440, (.iconst 1, 1)), (441, (.iadd, 1))]
def kt_0_b4 : List (Nat × Instr × Nat) := [(442, (.iaload, 1)), (443, (.aload_n 0, 1)), (444, (.iload_n 3, 1)), (445, (.iconst 2, 1)), (446, (.iadd, 1)), (447, (.iaload, 1)), (448, (.invokevirtual 37, 3)), (451, (.aload_n 2, 1)), (452, (.aload_n 0, 1)), (453, (.iload_n 3, 1)), (454, (.iconst 1, 1)), (455, (.iadd, 1)), (456, (.iaload, 1)), (457, (.aload_n 0, 1)), (458, (.iload_n 3, 1)), (459, (.iconst 2, 1)), (460, (.iadd, 1)), (461, (.iaload, 1)), (462, (.invokevirtual 41, 3)), (465, (.if_icmp .eq 1705, 3)), (470, (.aload_n 1, 1)), (471, (.aload_n 0, 1)), (472, (.iload_n 3, 1)), (473, (.iconst 1, 1)), (474, (.iadd, 1)), (475, (.iaload, 1)), (476, (.aload_n 0, 1)), (477, (.iload_n 3, 1)), (478, (.iconst 2, 1)), (479, (.iadd, 1)), (480, (.iaload, 1)), (481, (.invokevirtual 42, 3)), (484, (.aload_n 2, 1)), (485, (.aload_n 0, 1)), (486, (.iload_n 3, 1)), (487, (.iconst 1, 1)), (488, (.iadd, 1)), (489, (.iaload, 1))]
def kt_0_b5 : List (Nat × Instr × Nat) := [(490, (.aload_n 0, 1)), (491, (.iload_n 3, 1)), (492, (.iconst 2, 1)), (493, (.iadd, 1)), (494, (.iaload, 1)), (495, (.invokevirtual 45, 3)), (498, (.if_icmp .eq 1672, 3)), (503, (.aload_n 1, 1)), (504, (.aload_n 0, 1)), (505, (.iload_n 3, 1)), (506, (.iconst 1, 1)), (507, (.iadd, 1)), (508, (.iaload, 1)), (509, (.aload_n 0, 1)), (510, (.iload_n 3, 1)), (511, (.iconst 2, 1)), (512, (.iadd, 1)), (513, (.iaload, 1)), (514, (.aload_n 0, 1)), (515, (.iload_n 3, 1)), (516, (.iconst 3, 1)), (517, (.iadd, 1)), (518, (.iaload, 1)), (519, (.aload_n 0, 1)), (520, (.iload_n 3, 1)), (521, (.iconst 4, 1)), (522, (.iadd, 1)), (523, (.iaload, 1)), (524, (.invokevirtual 46, 3)), (527, (.aload_n 2, 1)), (528, (.aload_n 0, 1)), (529, (.iload_n 3, 1)), (530, (.iconst 1, 1)), (531, (.iadd, 1)), (532, (.iaload, 1)), (533, (.aload_n 0, 1)), (534, (.iload_n 3, 1)), (535, (.iconst 2, 1))]
def kt_0_b6 : List (Nat × Instr × Nat) := [(536, (.iadd, 1)), (537, (.iaload, 1)), (538, (.aload_n 0, 1)), (539, (.iload_n 3, 1)), (540, (.iconst 3, 1)), (541, (.iadd, 1)), (542, (.iaload, 1)), (543, (.aload_n 0, 1)), (544, (.iload_n 3, 1)), (545, (.iconst 4, 1)), (546, (.iadd, 1)), (547, (.iaload, 1)), (548, (.invokevirtual 50, 3)), (551, (.if_icmp .eq 1619, 3)), (556, (.aload_n 1, 1)), (557, (.aload_n 0, 1)), (558, (.iload_n 3, 1)), (559, (.iconst 1, 1)), (560, (.iadd, 1)), (561, (.iaload, 1)), (562, (.aload_n 0, 1)), (563, (.iload_n 3, 1)), (564, (.iconst 2, 1)), (565, (.iadd, 1)), (566, (.iaload, 1)), (567, (.aload_n 0, 1)), (568, (.iload_n 3, 1)), (569, (.iconst 3, 1)), (570, (.iadd, 1)), (571, (.iaload, 1)), (572, (.invokevirtual 51, 3)), (575, (.aload_n 2, 1)), (576, (.aload_n 0, 1)), (577, (.iload_n 3, 1)), (578, (.iconst 1, 1)), (579, (.iadd, 1)), (580, (.iaload, 1)), (581, (.aload_n 0, 1))]
def kt_0_b7 : List (Nat × Instr × Nat) := [(582, (.iload_n 3, 1)), (583, (.iconst 2, 1)), (584, (.iadd, 1)), (585, (.iaload, 1)), (586, (.aload_n 0, 1)), (587, (.iload_n 3, 1)), (588, (.iconst 3, 1)), (589, (.iadd, 1)), (590, (.iaload, 1)), (591, (.invokevirtual 54, 3)), (594, (.if_icmp .eq 1576, 3)), (599, (.aload_n 1, 1)), (600, (.aload_n 0, 1)), (601, (.iload_n 3, 1)), (602, (.iconst 1, 1)), (603, (.iadd, 1)), (604, (.iaload, 1)), (605, (.invokevirtual 55, 3)), (608, (.aload_n 2, 1)), (609, (.aload_n 0, 1)), (610, (.iload_n 3, 1)), (611, (.iconst 1, 1)), (612, (.iadd, 1)), (613, (.iaload, 1)), (614, (.invokevirtual 58, 3)), (617, (.if_icmp .eq 1553, 3)), (622, (.aload_n 1, 1)), (623, (.aload_n 0, 1)), (624, (.iload_n 3, 1)), (625, (.iconst 1, 1)), (626, (.iadd, 1)), (627, (.iaload, 1)), (628, (.aload_n 0, 1)), (629, (.iload_n 3, 1)), (630, (.iconst 2, 1)), (631, (.iadd, 1)), (632, (.iaload, 1)), (633, (.invokevirtual 59, 3))]
def kt_0_b8 : List (Nat × Instr × Nat) := [(636, (.aload_n 2, 1)), (637, (.aload_n 0, 1)), (638, (.iload_n 3, 1)), (639, (.iconst 1, 1)), (640, (.iadd, 1)), (641, (.iaload, 1)), (642, (.aload_n 0, 1)), (643, (.iload_n 3, 1)), (644, (.iconst 2, 1)), (645, (.iadd, 1)), (646, (.iaload, 1)), (647, (.invokevirtual 62, 3)), (650, (.if_icmp .eq 1520, 3)), (655, (.aload_n 1, 1)), (656, (.aload_n 0, 1)), (657, (.iload_n 3, 1)), (658, (.iconst 1, 1)), (659, (.iadd, 1)), (660, (.iaload, 1)), (661, (.aload_n 0, 1)), (662, (.iload_n 3, 1)), (663, (.iconst 2, 1)), (664, (.iadd, 1)), (665, (.iaload, 1)), (666, (.invokevirtual 63, 3)), (669, (.aload_n 2, 1)), (670, (.aload_n 0, 1)), (671, (.iload_n 3, 1)), (672, (.iconst 1, 1)), (673, (.iadd, 1)), (674, (.iaload, 1)), (675, (.aload_n 0, 1)), (676, (.iload_n 3, 1)), (677, (.iconst 2, 1)), (678, (.iadd, 1)), (679, (.iaload, 1)), (680, (.invokevirtual 66, 3)), (683, (.if_icmp .eq 1487, 3))]
def kt_0_b9 : List (Nat × Instr × Nat) := [(688, (.aload_n 1, 1)), (689, (.aload_n 0, 1)), (690, (.iload_n 3, 1)), (691, (.iconst 1, 1)), (692, (.iadd, 1)), (693, (.iaload, 1)), (694, (.aload_n 0, 1)), (695, (.iload_n 3, 1)), (696, (.iconst 2, 1)), (697, (.iadd, 1)), (698, (.iaload, 1)), (699, (.invokevirtual 67, 3)), (702, (.aload_n 2, 1)), (703, (.aload_n 0, 1)), (704, (.iload_n 3, 1)), (705, (.iconst 1, 1)), (706, (.iadd, 1)), (707, (.iaload, 1)), (708, (.aload_n 0, 1)), (709, (.iload_n 3, 1)), (710, (.iconst 2, 1)), (711, (.iadd, 1)), (712, (.iaload, 1)), (713, (.invokevirtual 70, 3)), (716, (.if_icmp .eq 1454, 3)), (721, (.aload_n 1, 1)), (722, (.aload_n 0, 1)), (723, (.iload_n 3, 1)), (724, (.iconst 1, 1)), (725, (.iadd, 1)), (726, (.iaload, 1)), (727, (.aload_n 0, 1)), (728, (.iload_n 3, 1)), (729, (.iconst 2, 1)), (730, (.iadd, 1)), (731, (.iaload, 1)), (732, (.aload_n 0, 1)), (733, (.iload_n 3, 1))]
def kt_0_b10 : List (Nat × Instr × Nat) := [(734, (.iconst 3, 1)), (735, (.iadd, 1)), (736, (.iaload, 1)), (737, (.aload_n 0, 1)), (738, (.iload_n 3, 1)), (739, (.iconst 4, 1)), (740, (.iadd, 1)), (741, (.iaload, 1)), (742, (.invokevirtual 71, 3)), (745, (.aload_n 2, 1)), (746, (.aload_n 0, 1)), (747, (.iload_n 3, 1)), (748, (.iconst 1, 1)), (749, (.iadd, 1)), (750, (.iaload, 1)), (751, (.aload_n 0, 1)), (752, (.iload_n 3, 1)), (753, (.iconst 2, 1)), (754, (.iadd, 1)), (755, (.iaload, 1)), (756, (.aload_n 0, 1)), (757, (.iload_n 3, 1)), (758, (.iconst 3, 1)), (759, (.iadd, 1)), (760, (.iaload, 1)), (761, (.aload_n 0, 1)), (762, (.iload_n 3, 1)), (763, (.iconst 4, 1)), (764, (.iadd, 1)), (765, (.iaload, 1)), (766, (.invokevirtual 74, 3)), (769, (.if_icmp .eq 1401, 3)), (774, (.aload_n 1, 1)), (775, (.aload_n 0, 1)), (776, (.iload_n 3, 1)), (777, (.iconst 1, 1)), (778, (.iadd, 1)), (779, (.iaload, 1))]
def kt_0_b11 : List (Nat × Instr × Nat) := [(780, (.aload_n 0, 1)), (781, (.iload_n 3, 1)), (782, (.iconst 2, 1)), (783, (.iadd, 1)), (784, (.iaload, 1)), (785, (.aload_n 0, 1)), (786, (.iload_n 3, 1)), (787, (.iconst 3, 1)), (788, (.iadd, 1)), (789, (.iaload, 1)), (790, (.aload_n 0, 1)), (791, (.iload_n 3, 1)), (792, (.iconst 4, 1)), (793, (.iadd, 1)), (794, (.iaload, 1)), (795, (.invokevirtual 75, 3)), (798, (.aload_n 2, 1)), (799, (.aload_n 0, 1)), (800, (.iload_n 3, 1)), (801, (.iconst 1, 1)), (802, (.iadd, 1)), (803, (.iaload, 1)), (804, (.aload_n 0, 1)), (805, (.iload_n 3, 1)), (806, (.iconst 2, 1)), (807, (.iadd, 1)), (808, (.iaload, 1)), (809, (.aload_n 0, 1)), (810, (.iload_n 3, 1)), (811, (.iconst 3, 1)), (812, (.iadd, 1)), (813, (.iaload, 1)), (814, (.aload_n 0, 1)), (815, (.iload_n 3, 1)), (816, (.iconst 4, 1)), (817, (.iadd, 1)), (818, (.iaload, 1)), (819, (.invokevirtual 78, 3))]
def kt_0_b12 : List (Nat × Instr × Nat) := [(822, (.if_icmp .eq 1348, 3)), (827, (.aload_n 1, 1)), (828, (.aload_n 0, 1)), (829, (.iload_n 3, 1)), (830, (.iconst 1, 1)), (831, (.iadd, 1)), (832, (.iaload, 1)), (833, (.invokevirtual 79, 3)), (836, (.aload_n 2, 1)), (837, (.aload_n 0, 1)), (838, (.iload_n 3, 1)), (839, (.iconst 1, 1)), (840, (.iadd, 1)), (841, (.iaload, 1)), (842, (.invokevirtual 82, 3)), (845, (.if_icmp .eq 1325, 3)), (850, (.aload_n 1, 1)), (851, (.invokevirtual 83, 3)), (854, (.aload_n 2, 1)), (855, (.invokevirtual 86, 3)), (858, (.if_icmp .eq 1312, 3)), (863, (.aload_n 1, 1)), (864, (.invokevirtual 87, 3)), (867, (.aload_n 2, 1)), (868, (.invokevirtual 90, 3)), (871, (.if_icmp .eq 1299, 3)), (876, (.aload_n 1, 1)), (877, (.aload_n 0, 1)), (878, (.iload_n 3, 1)), (879, (.iconst 1, 1)), (880, (.iadd, 1)), (881, (.iaload, 1)), (882, (.invokevirtual 91, 3)), (885, (.aload_n 2, 1)), (886, (.aload_n 0, 1)), (887, (.iload_n 3, 1)), (888, (.iconst 1, 1)), (889, (.iadd, 1))]
def kt_0_b13 : List (Nat × Instr × Nat) := [(890, (.iaload, 1)), (891, (.invokevirtual 94, 3)), (894, (.if_icmp .eq 1276, 3)), (899, (.aload_n 1, 1)), (900, (.aload_n 0, 1)), (901, (.iload_n 3, 1)), (902, (.iconst 1, 1)), (903, (.iadd, 1)), (904, (.iaload, 1)), (905, (.invokevirtual 95, 3)), (908, (.aload_n 2, 1)), (909, (.aload_n 0, 1)), (910, (.iload_n 3, 1)), (911, (.iconst 1, 1)), (912, (.iadd, 1)), (913, (.iaload, 1)), (914, (.invokevirtual 98, 3)), (917, (.if_icmp .eq 1253, 3)), (922, (.aload_n 1, 1)), (923, (.aload_n 0, 1)), (924, (.iload_n 3, 1)), (925, (.iconst 1, 1)), (926, (.iadd, 1)), (927, (.iaload, 1)), (928, (.invokevirtual 99, 3)), (931, (.aload_n 2, 1)), (932, (.aload_n 0, 1)), (933, (.iload_n 3, 1)), (934, (.iconst 1, 1)), (935, (.iadd, 1)), (936, (.iaload, 1)), (937, (.invokevirtual 102, 3)), (940, (.if_icmp .eq 1230, 3)), (945, (.aload_n 1, 1)), (946, (.aload_n 0, 1)), (947, (.iload_n 3, 1)), (948, (.iconst 1, 1)), (949, (.iadd, 1))]
def kt_0_b14 : List (Nat × Instr × Nat) := [(950, (.iaload, 1)), (951, (.invokevirtual 103, 3)), (954, (.aload_n 2, 1)), (955, (.aload_n 0, 1)), (956, (.iload_n 3, 1)), (957, (.iconst 1, 1)), (958, (.iadd, 1)), (959, (.iaload, 1)), (960, (.invokevirtual 106, 3)), (963, (.if_icmp .eq 1207, 3)), (968, (.aload_n 1, 1)), (969, (.aload_n 0, 1)), (970, (.iload_n 3, 1)), (971, (.iconst 1, 1)), (972, (.iadd, 1)), (973, (.iaload, 1)), (974, (.invokevirtual 107, 3)), (977, (.aload_n 2, 1)), (978, (.aload_n 0, 1)), (979, (.iload_n 3, 1)), (980, (.iconst 1, 1)), (981, (.iadd, 1)), (982, (.iaload, 1)), (983, (.invokevirtual 110, 3)), (986, (.if_icmp .eq 1184, 3)), (991, (.aload_n 1, 1)), (992, (.aload_n 0, 1)), (993, (.iload_n 3, 1)), (994, (.iconst 1, 1)), (995, (.iadd, 1)), (996, (.iaload, 1)), (997, (.aload_n 0, 1)), (998, (.iload_n 3, 1)), (999, (.iconst 2, 1)), (1000, (.iadd, 1)), (1001, (.iaload, 1)), (1002, (.invokevirtual 111, 3)), (1005, (.aload_n 2, 1))]
def kt_0_b15 : List (Nat × Instr × Nat) := [(1006, (.aload_n 0, 1)), (1007, (.iload_n 3, 1)), (1008, (.iconst 1, 1)), (1009, (.iadd, 1)), (1010, (.iaload, 1)), (1011, (.aload_n 0, 1)), (1012, (.iload_n 3, 1)), (1013, (.iconst 2, 1)), (1014, (.iadd, 1)), (1015, (.iaload, 1)), (1016, (.invokevirtual 114, 3)), (1019, (.if_icmp .eq 1151, 3)), (1024, (.aload_n 1, 1)), (1025, (.aload_n 0, 1)), (1026, (.iload_n 3, 1)), (1027, (.iconst 1, 1)), (1028, (.iadd, 1)), (1029, (.iaload, 1)), (1030, (.invokevirtual 115, 3)), (1033, (.aload_n 2, 1)), (1034, (.aload_n 0, 1)), (1035, (.iload_n 3, 1)), (1036, (.iconst 1, 1)), (1037, (.iadd, 1)), (1038, (.iaload, 1)), (1039, (.invokevirtual 118, 3)), (1042, (.if_icmp .eq 1128, 3)), (1047, (.aload_n 1, 1)), (1048, (.aload_n 0, 1)), (1049, (.iload_n 3, 1)), (1050, (.iconst 1, 1)), (1051, (.iadd, 1)), (1052, (.iaload, 1)), (1053, (.aload_n 0, 1)), (1054, (.iload_n 3, 1)), (1055, (.iconst 2, 1)), (1056, (.iadd, 1)), (1057, (.iaload, 1))]
def kt_0_b16 : List (Nat × Instr × Nat) := [(1058, (.invokevirtual 119, 3)), (1061, (.aload_n 2, 1)), (1062, (.aload_n 0, 1)), (1063, (.iload_n 3, 1)), (1064, (.iconst 1, 1)), (1065, (.iadd, 1)), (1066, (.iaload, 1)), (1067, (.aload_n 0, 1)), (1068, (.iload_n 3, 1)), (1069, (.iconst 2, 1)), (1070, (.iadd, 1)), (1071, (.iaload, 1)), (1072, (.invokevirtual 122, 3)), (1075, (.if_icmp .eq 1095, 3)), (1080, (.aload_n 1, 1)), (1081, (.aload_n 0, 1)), (1082, (.iload_n 3, 1)), (1083, (.iconst 1, 1)), (1084, (.iadd, 1)), (1085, (.iaload, 1)), (1086, (.aload_n 0, 1)), (1087, (.iload_n 3, 1)), (1088, (.iconst 2, 1)), (1089, (.iadd, 1)), (1090, (.iaload, 1)), (1091, (.invokevirtual 123, 3)), (1094, (.aload_n 2, 1)), (1095, (.aload_n 0, 1)), (1096, (.iload_n 3, 1)), (1097, (.iconst 1, 1)), (1098, (.iadd, 1)), (1099, (.iaload, 1)), (1100, (.aload_n 0, 1)), (1101, (.iload_n 3, 1)), (1102, (.iconst 2, 1)), (1103, (.iadd, 1)), (1104, (.iaload, 1)), (1105, (.invokevirtual 126, 3))]
def kt_0_b17 : List (Nat × Instr × Nat) := [(1108, (.if_icmp .eq 1062, 3)), (1113, (.aload_n 1, 1)), (1114, (.aload_n 0, 1)), (1115, (.iload_n 3, 1)), (1116, (.iconst 1, 1)), (1117, (.iadd, 1)), (1118, (.iaload, 1)), (1119, (.aload_n 0, 1)), (1120, (.iload_n 3, 1)), (1121, (.iconst 2, 1)), (1122, (.iadd, 1)), (1123, (.iaload, 1)), (1124, (.invokevirtual 127, 3)), (1127, (.aload_n 2, 1)), (1128, (.aload_n 0, 1)), (1129, (.iload_n 3, 1)), (1130, (.iconst 1, 1)), (1131, (.iadd, 1)), (1132, (.iaload, 1)), (1133, (.aload_n 0, 1)), (1134, (.iload_n 3, 1)), (1135, (.iconst 2, 1)), (1136, (.iadd, 1)), (1137, (.iaload, 1)), (1138, (.invokevirtual 130, 3)), (1141, (.if_icmp .eq 1029, 3)), (1146, (.aload_n 1, 1)), (1147, (.aload_n 0, 1)), (1148, (.iload_n 3, 1)), (1149, (.iconst 1, 1)), (1150, (.iadd, 1)), (1151, (.iaload, 1)), (1152, (.aload_n 0, 1)), (1153, (.iload_n 3, 1)), (1154, (.iconst 2, 1)), (1155, (.iadd, 1)), (1156, (.iaload, 1)), (1157, (.aload_n 0, 1))]
def kt_0_b18 : List (Nat × Instr × Nat) := [(1158, (.iload_n 3, 1)), (1159, (.iconst 3, 1)), (1160, (.iadd, 1)), (1161, (.iaload, 1)), (1162, (.invokevirtual 131, 3)), (1165, (.aload_n 2, 1)), (1166, (.aload_n 0, 1)), (1167, (.iload_n 3, 1)), (1168, (.iconst 1, 1)), (1169, (.iadd, 1)), (1170, (.iaload, 1)), (1171, (.aload_n 0, 1)), (1172, (.iload_n 3, 1)), (1173, (.iconst 2, 1)), (1174, (.iadd, 1)), (1175, (.iaload, 1)), (1176, (.aload_n 0, 1)), (1177, (.iload_n 3, 1)), (1178, (.iconst 3, 1)), (1179, (.iadd, 1)), (1180, (.iaload, 1)), (1181, (.invokevirtual 134, 3)), (1184, (.if_icmp .eq 986, 3)), (1189, (.aload_n 1, 1)), (1190, (.aload_n 0, 1)), (1191, (.iload_n 3, 1)), (1192, (.iconst 1, 1)), (1193, (.iadd, 1)), (1194, (.iaload, 1)), (1195, (.aload_n 0, 1)), (1196, (.iload_n 3, 1)), (1197, (.iconst 2, 1)), (1198, (.iadd, 1)), (1199, (.iaload, 1)), (1200, (.aload_n 0, 1)), (1201, (.iload_n 3, 1)), (1202, (.iconst 3, 1)), (1203, (.iadd, 1))]
def kt_0_b19 : List (Nat × Instr × Nat) := [(1204, (.iaload, 1)), (1205, (.aload_n 0, 1)), (1206, (.iload_n 3, 1)), (1207, (.iconst 4, 1)), (1208, (.iadd, 1)), (1209, (.iaload, 1)), (1210, (.invokevirtual 135, 3)), (1213, (.aload_n 2, 1)), (1214, (.aload_n 0, 1)), (1215, (.iload_n 3, 1)), (1216, (.iconst 1, 1)), (1217, (.iadd, 1)), (1218, (.iaload, 1)), (1219, (.aload_n 0, 1)), (1220, (.iload_n 3, 1)), (1221, (.iconst 2, 1)), (1222, (.iadd, 1)), (1223, (.iaload, 1)), (1224, (.aload_n 0, 1)), (1225, (.iload_n 3, 1)), (1226, (.iconst 3, 1)), (1227, (.iadd, 1)), (1228, (.iaload, 1)), (1229, (.aload_n 0, 1)), (1230, (.iload_n 3, 1)), (1231, (.iconst 4, 1)), (1232, (.iadd, 1)), (1233, (.iaload, 1)), (1234, (.invokevirtual 138, 3)), (1237, (.if_icmp .eq 933, 3)), (1242, (.aload_n 1, 1)), (1243, (.aload_n 0, 1)), (1244, (.iload_n 3, 1)), (1245, (.iconst 1, 1)), (1246, (.iadd, 1)), (1247, (.iaload, 1)), (1248, (.aload_n 0, 1)), (1249, (.iload_n 3, 1))]
def kt_0_b20 : List (Nat × Instr × Nat) := [(1250, (.iconst 2, 1)), (1251, (.iadd, 1)), (1252, (.iaload, 1)), (1253, (.invokevirtual 139, 3)), (1256, (.aload_n 2, 1)), (1257, (.aload_n 0, 1)), (1258, (.iload_n 3, 1)), (1259, (.iconst 1, 1)), (1260, (.iadd, 1)), (1261, (.iaload, 1)), (1262, (.aload_n 0, 1)), (1263, (.iload_n 3, 1)), (1264, (.iconst 2, 1)), (1265, (.iadd, 1)), (1266, (.iaload, 1)), (1267, (.invokevirtual 142, 3)), (1270, (.if_icmp .eq 900, 3)), (1275, (.aload_n 1, 1)), (1276, (.aload_n 0, 1)), (1277, (.iload_n 3, 1)), (1278, (.iconst 1, 1)), (1279, (.iadd, 1)), (1280, (.iaload, 1)), (1281, (.aload_n 0, 1)), (1282, (.iload_n 3, 1)), (1283, (.iconst 2, 1)), (1284, (.iadd, 1)), (1285, (.iaload, 1)), (1286, (.invokevirtual 143, 3)), (1289, (.aload_n 2, 1)), (1290, (.aload_n 0, 1)), (1291, (.iload_n 3, 1)), (1292, (.iconst 1, 1)), (1293, (.iadd, 1)), (1294, (.iaload, 1)), (1295, (.aload_n 0, 1)), (1296, (.iload_n 3, 1)), (1297, (.iconst 2, 1))]
def kt_0_b21 : List (Nat × Instr × Nat) := [(1298, (.iadd, 1)), (1299, (.iaload, 1)), (1300, (.invokevirtual 146, 3)), (1303, (.if_icmp .eq 867, 3)), (1308, (.aload_n 1, 1)), (1309, (.aload_n 0, 1)), (1310, (.iload_n 3, 1)), (1311, (.iconst 1, 1)), (1312, (.iadd, 1)), (1313, (.iaload, 1)), (1314, (.aload_n 0, 1)), (1315, (.iload_n 3, 1)), (1316, (.iconst 2, 1)), (1317, (.iadd, 1)), (1318, (.iaload, 1)), (1319, (.invokevirtual 147, 3)), (1322, (.aload_n 2, 1)), (1323, (.aload_n 0, 1)), (1324, (.iload_n 3, 1)), (1325, (.iconst 1, 1)), (1326, (.iadd, 1)), (1327, (.iaload, 1)), (1328, (.aload_n 0, 1)), (1329, (.iload_n 3, 1)), (1330, (.iconst 2, 1)), (1331, (.iadd, 1)), (1332, (.iaload, 1)), (1333, (.invokevirtual 150, 3)), (1336, (.if_icmp .eq 834, 3)), (1341, (.aload_n 1, 1)), (1342, (.aload_n 0, 1)), (1343, (.iload_n 3, 1)), (1344, (.iconst 1, 1)), (1345, (.iadd, 1)), (1346, (.iaload, 1)), (1347, (.aload_n 0, 1)), (1348, (.iload_n 3, 1)), (1349, (.iconst 2, 1))]
def kt_0_b22 : List (Nat × Instr × Nat) := [(1350, (.iadd, 1)), (1351, (.iaload, 1)), (1352, (.invokevirtual 151, 3)), (1355, (.aload_n 2, 1)), (1356, (.aload_n 0, 1)), (1357, (.iload_n 3, 1)), (1358, (.iconst 1, 1)), (1359, (.iadd, 1)), (1360, (.iaload, 1)), (1361, (.aload_n 0, 1)), (1362, (.iload_n 3, 1)), (1363, (.iconst 2, 1)), (1364, (.iadd, 1)), (1365, (.iaload, 1)), (1366, (.invokevirtual 154, 3)), (1369, (.if_icmp .eq 801, 3)), (1374, (.aload_n 1, 1)), (1375, (.aload_n 0, 1)), (1376, (.iload_n 3, 1)), (1377, (.iconst 1, 1)), (1378, (.iadd, 1)), (1379, (.iaload, 1)), (1380, (.invokevirtual 155, 3)), (1383, (.aload_n 2, 1)), (1384, (.aload_n 0, 1)), (1385, (.iload_n 3, 1)), (1386, (.iconst 1, 1)), (1387, (.iadd, 1)), (1388, (.iaload, 1)), (1389, (.invokevirtual 158, 3)), (1392, (.if_icmp .eq 778, 3)), (1397, (.aload_n 1, 1)), (1398, (.aload_n 0, 1)), (1399, (.iload_n 3, 1)), (1400, (.iconst 1, 1)), (1401, (.iadd, 1)), (1402, (.iaload, 1)), (1403, (.aload_n 0, 1))]
def kt_0_b23 : List (Nat × Instr × Nat) := [(1404, (.iload_n 3, 1)), (1405, (.iconst 2, 1)), (1406, (.iadd, 1)), (1407, (.iaload, 1)), (1408, (.invokevirtual 159, 3)), (1411, (.aload_n 2, 1)), (1412, (.aload_n 0, 1)), (1413, (.iload_n 3, 1)), (1414, (.iconst 1, 1)), (1415, (.iadd, 1)), (1416, (.iaload, 1)), (1417, (.aload_n 0, 1)), (1418, (.iload_n 3, 1)), (1419, (.iconst 2, 1)), (1420, (.iadd, 1)), (1421, (.iaload, 1)), (1422, (.invokevirtual 162, 3)), (1425, (.if_icmp .eq 745, 3)), (1430, (.aload_n 1, 1)), (1431, (.aload_n 0, 1)), (1432, (.iload_n 3, 1)), (1433, (.iconst 1, 1)), (1434, (.iadd, 1)), (1435, (.iaload, 1)), (1436, (.aload_n 0, 1)), (1437, (.iload_n 3, 1)), (1438, (.iconst 2, 1)), (1439, (.iadd, 1)), (1440, (.iaload, 1)), (1441, (.invokevirtual 163, 3)), (1444, (.aload_n 2, 1)), (1445, (.aload_n 0, 1)), (1446, (.iload_n 3, 1)), (1447, (.iconst 1, 1)), (1448, (.iadd, 1)), (1449, (.iaload, 1)), (1450, (.aload_n 0, 1)), (1451, (.iload_n 3, 1))]
def kt_0_b24 : List (Nat × Instr × Nat) := [(1452, (.iconst 2, 1)), (1453, (.iadd, 1)), (1454, (.iaload, 1)), (1455, (.invokevirtual 166, 3)), (1458, (.if_icmp .eq 712, 3)), (1463, (.aload_n 1, 1)), (1464, (.aload_n 0, 1)), (1465, (.iload_n 3, 1)), (1466, (.iconst 1, 1)), (1467, (.iadd, 1)), (1468, (.iaload, 1)), (1469, (.aload_n 0, 1)), (1470, (.iload_n 3, 1)), (1471, (.iconst 2, 1)), (1472, (.iadd, 1)), (1473, (.iaload, 1)), (1474, (.invokevirtual 167, 3)), (1477, (.aload_n 2, 1)), (1478, (.aload_n 0, 1)), (1479, (.iload_n 3, 1)), (1480, (.iconst 1, 1)), (1481, (.iadd, 1)), (1482, (.iaload, 1)), (1483, (.aload_n 0, 1)), (1484, (.iload_n 3, 1)), (1485, (.iconst 2, 1)), (1486, (.iadd, 1)), (1487, (.iaload, 1)), (1488, (.invokevirtual 170, 3)), (1491, (.if_icmp .eq 679, 3)), (1496, (.aload_n 1, 1)), (1497, (.aload_n 0, 1)), (1498, (.iload_n 3, 1)), (1499, (.iconst 1, 1)), (1500, (.iadd, 1)), (1501, (.iaload, 1)), (1502, (.aload_n 0, 1)), (1503, (.iload_n 3, 1))]
def kt_0_b25 : List (Nat × Instr × Nat) := [(1504, (.iconst 2, 1)), (1505, (.iadd, 1)), (1506, (.iaload, 1)), (1507, (.invokevirtual 171, 3)), (1510, (.aload_n 2, 1)), (1511, (.aload_n 0, 1)), (1512, (.iload_n 3, 1)), (1513, (.iconst 1, 1)), (1514, (.iadd, 1)), (1515, (.iaload, 1)), (1516, (.aload_n 0, 1)), (1517, (.iload_n 3, 1)), (1518, (.iconst 2, 1)), (1519, (.iadd, 1)), (1520, (.iaload, 1)), (1521, (.invokevirtual 174, 3)), (1524, (.if_icmp .eq 646, 3)), (1529, (.aload_n 1, 1)), (1530, (.aload_n 0, 1)), (1531, (.iload_n 3, 1)), (1532, (.iconst 1, 1)), (1533, (.iadd, 1)), (1534, (.iaload, 1)), (1535, (.invokevirtual 175, 3)), (1538, (.aload_n 2, 1)), (1539, (.aload_n 0, 1)), (1540, (.iload_n 3, 1)), (1541, (.iconst 1, 1)), (1542, (.iadd, 1)), (1543, (.iaload, 1)), (1544, (.invokevirtual 178, 3)), (1547, (.if_icmp .eq 623, 3)), (1552, (.aload_n 1, 1)), (1553, (.aload_n 0, 1)), (1554, (.iload_n 3, 1)), (1555, (.iconst 1, 1)), (1556, (.iadd, 1)), (1557, (.iaload, 1))]
def kt_0_b26 : List (Nat × Instr × Nat) := [(1558, (.aload_n 0, 1)), (1559, (.iload_n 3, 1)), (1560, (.iconst 2, 1)), (1561, (.iadd, 1)), (1562, (.iaload, 1)), (1563, (.aload_n 0, 1)), (1564, (.iload_n 3, 1)), (1565, (.iconst 3, 1)), (1566, (.iadd, 1)), (1567, (.iaload, 1)), (1568, (.aload_n 0, 1)), (1569, (.iload_n 3, 1)), (1570, (.iconst 4, 1)), (1571, (.iadd, 1)), (1572, (.iaload, 1)), (1573, (.invokevirtual 179, 3)), (1576, (.aload_n 2, 1)), (1577, (.aload_n 0, 1)), (1578, (.iload_n 3, 1)), (1579, (.iconst 1, 1)), (1580, (.iadd, 1)), (1581, (.iaload, 1)), (1582, (.aload_n 0, 1)), (1583, (.iload_n 3, 1)), (1584, (.iconst 2, 1)), (1585, (.iadd, 1)), (1586, (.iaload, 1)), (1587, (.aload_n 0, 1)), (1588, (.iload_n 3, 1)), (1589, (.iconst 3, 1)), (1590, (.iadd, 1)), (1591, (.iaload, 1)), (1592, (.aload_n 0, 1)), (1593, (.iload_n 3, 1)), (1594, (.iconst 4, 1)), (1595, (.iadd, 1)), (1596, (.iaload, 1)), (1597, (.invokevirtual 182, 3))]
def kt_0_b27 : List (Nat × Instr × Nat) := [(1600, (.if_icmp .eq 570, 3)), (1605, (.aload_n 1, 1)), (1606, (.aload_n 0, 1)), (1607, (.iload_n 3, 1)), (1608, (.iconst 1, 1)), (1609, (.iadd, 1)), (1610, (.iaload, 1)), (1611, (.aload_n 0, 1)), (1612, (.iload_n 3, 1)), (1613, (.iconst 2, 1)), (1614, (.iadd, 1)), (1615, (.iaload, 1)), (1616, (.invokevirtual 183, 3)), (1619, (.aload_n 2, 1)), (1620, (.aload_n 0, 1)), (1621, (.iload_n 3, 1)), (1622, (.iconst 1, 1)), (1623, (.iadd, 1)), (1624, (.iaload, 1)), (1625, (.aload_n 0, 1)), (1626, (.iload_n 3, 1)), (1627, (.iconst 2, 1)), (1628, (.iadd, 1)), (1629, (.iaload, 1)), (1630, (.invokevirtual 186, 3)), (1633, (.if_icmp .eq 537, 3)), (1638, (.aload_n 1, 1)), (1639, (.aload_n 0, 1)), (1640, (.iload_n 3, 1)), (1641, (.iconst 1, 1)), (1642, (.iadd, 1)), (1643, (.iaload, 1)), (1644, (.aload_n 0, 1)), (1645, (.iload_n 3, 1)), (1646, (.iconst 2, 1)), (1647, (.iadd, 1)), (1648, (.iaload, 1)), (1649, (.invokevirtual 187, 3))]
def kt_0_b28 : List (Nat × Instr × Nat) := [(1652, (.aload_n 2, 1)), (1653, (.aload_n 0, 1)), (1654, (.iload_n 3, 1)), (1655, (.iconst 1, 1)), (1656, (.iadd, 1)), (1657, (.iaload, 1)), (1658, (.aload_n 0, 1)), (1659, (.iload_n 3, 1)), (1660, (.iconst 2, 1)), (1661, (.iadd, 1)), (1662, (.iaload, 1)), (1663, (.invokevirtual 190, 3)), (1666, (.if_icmp .eq 504, 3)), (1671, (.aload_n 1, 1)), (1672, (.aload_n 0, 1)), (1673, (.iload_n 3, 1)), (1674, (.iconst 1, 1)), (1675, (.iadd, 1)), (1676, (.iaload, 1)), (1677, (.aload_n 0, 1)), (1678, (.iload_n 3, 1)), (1679, (.iconst 2, 1)), (1680, (.iadd, 1)), (1681, (.iaload, 1)), (1682, (.aload_n 0, 1)), (1683, (.iload_n 3, 1)), (1684, (.iconst 3, 1)), (1685, (.iadd, 1)), (1686, (.iaload, 1)), (1687, (.invokevirtual 191, 3)), (1690, (.aload_n 2, 1)), (1691, (.aload_n 0, 1)), (1692, (.iload_n 3, 1)), (1693, (.iconst 1, 1)), (1694, (.iadd, 1)), (1695, (.iaload, 1)), (1696, (.aload_n 0, 1)), (1697, (.iload_n 3, 1))]
def kt_0_b29 : List (Nat × Instr × Nat) := [(1698, (.iconst 2, 1)), (1699, (.iadd, 1)), (1700, (.iaload, 1)), (1701, (.aload_n 0, 1)), (1702, (.iload_n 3, 1)), (1703, (.iconst 3, 1)), (1704, (.iadd, 1)), (1705, (.iaload, 1)), (1706, (.invokevirtual 194, 3)), (1709, (.if_icmp .eq 461, 3)), (1714, (.aload_n 1, 1)), (1715, (.aload_n 0, 1)), (1716, (.iload_n 3, 1)), (1717, (.iconst 1, 1)), (1718, (.iadd, 1)), (1719, (.iaload, 1)), (1720, (.aload_n 0, 1)), (1721, (.iload_n 3, 1)), (1722, (.iconst 2, 1)), (1723, (.iadd, 1)), (1724, (.iaload, 1)), (1725, (.aload_n 0, 1)), (1726, (.iload_n 3, 1)), (1727, (.iconst 3, 1)), (1728, (.iadd, 1)), (1729, (.iaload, 1)), (1730, (.aload_n 0, 1)), (1731, (.iload_n 3, 1)), (1732, (.iconst 4, 1)), (1733, (.iadd, 1)), (1734, (.iaload, 1)), (1735, (.invokevirtual 195, 3)), (1738, (.aload_n 2, 1)), (1739, (.aload_n 0, 1)), (1740, (.iload_n 3, 1)), (1741, (.iconst 1, 1)), (1742, (.iadd, 1)), (1743, (.iaload, 1))]
def kt_0_b30 : List (Nat × Instr × Nat) := [(1744, (.aload_n 0, 1)), (1745, (.iload_n 3, 1)), (1746, (.iconst 2, 1)), (1747, (.iadd, 1)), (1748, (.iaload, 1)), (1749, (.aload_n 0, 1)), (1750, (.iload_n 3, 1)), (1751, (.iconst 3, 1)), (1752, (.iadd, 1)), (1753, (.iaload, 1)), (1754, (.aload_n 0, 1)), (1755, (.iload_n 3, 1)), (1756, (.iconst 4, 1)), (1757, (.iadd, 1)), (1758, (.iaload, 1)), (1759, (.invokevirtual 198, 3)), (1762, (.if_icmp .eq 408, 3)), (1767, (.aload_n 1, 1)), (1768, (.aload_n 0, 1)), (1769, (.iload_n 3, 1)), (1770, (.iconst 1, 1)), (1771, (.iadd, 1)), (1772, (.iaload, 1)), (1773, (.aload_n 0, 1)), (1774, (.iload_n 3, 1)), (1775, (.iconst 2, 1)), (1776, (.iadd, 1)), (1777, (.iaload, 1)), (1778, (.invokevirtual 199, 3)), (1781, (.aload_n 2, 1)), (1782, (.aload_n 0, 1)), (1783, (.iload_n 3, 1)), (1784, (.iconst 1, 1)), (1785, (.iadd, 1)), (1786, (.iaload, 1)), (1787, (.aload_n 0, 1)), (1788, (.iload_n 3, 1)), (1789, (.iconst 2, 1))]
def kt_0_b31 : List (Nat × Instr × Nat) := [(1790, (.iadd, 1)), (1791, (.iaload, 1)), (1792, (.invokevirtual 202, 3)), (1795, (.if_icmp .eq 375, 3)), (1800, (.aload_n 1, 1)), (1801, (.aload_n 0, 1)), (1802, (.iload_n 3, 1)), (1803, (.iconst 1, 1)), (1804, (.iadd, 1)), (1805, (.iaload, 1)), (1806, (.invokevirtual 203, 3)), (1809, (.aload_n 2, 1)), (1810, (.aload_n 0, 1)), (1811, (.iload_n 3, 1)), (1812, (.iconst 1, 1)), (1813, (.iadd, 1)), (1814, (.iaload, 1)), (1815, (.invokevirtual 206, 3)), (1818, (.if_icmp .eq 352, 3)), (1823, (.aload_n 1, 1)), (1824, (.aload_n 0, 1)), (1825, (.iload_n 3, 1)), (1826, (.iconst 1, 1)), (1827, (.iadd, 1)), (1828, (.iaload, 1)), (1829, (.invokevirtual 207, 3)), (1832, (.aload_n 2, 1)), (1833, (.aload_n 0, 1)), (1834, (.iload_n 3, 1)), (1835, (.iconst 1, 1)), (1836, (.iadd, 1)), (1837, (.iaload, 1)), (1838, (.invokevirtual 210, 3)), (1841, (.if_icmp .eq 329, 3)), (1846, (.aload_n 1, 1)), (1847, (.aload_n 0, 1)), (1848, (.iload_n 3, 1)), (1849, (.iconst 1, 1))]
def kt_0_b32 : List (Nat × Instr × Nat) := [(1850, (.iadd, 1)), (1851, (.iaload, 1)), (1852, (.aload_n 0, 1)), (1853, (.iload_n 3, 1)), (1854, (.iconst 2, 1)), (1855, (.iadd, 1)), (1856, (.iaload, 1)), (1857, (.invokevirtual 211, 3)), (1860, (.aload_n 2, 1)), (1861, (.aload_n 0, 1)), (1862, (.iload_n 3, 1)), (1863, (.iconst 1, 1)), (1864, (.iadd, 1)), (1865, (.iaload, 1)), (1866, (.aload_n 0, 1)), (1867, (.iload_n 3, 1)), (1868, (.iconst 2, 1)), (1869, (.iadd, 1)), (1870, (.iaload, 1)), (1871, (.invokevirtual 214, 3)), (1874, (.if_icmp .eq 296, 3)), (1879, (.aload_n 1, 1)), (1880, (.aload_n 0, 1)), (1881, (.iload_n 3, 1)), (1882, (.iconst 1, 1)), (1883, (.iadd, 1)), (1884, (.iaload, 1)), (1885, (.aload_n 0, 1)), (1886, (.iload_n 3, 1)), (1887, (.iconst 2, 1)), (1888, (.iadd, 1)), (1889, (.iaload, 1)), (1890, (.aload_n 0, 1)), (1891, (.iload_n 3, 1)), (1892, (.iconst 3, 1)), (1893, (.iadd, 1)), (1894, (.iaload, 1)), (1895, (.invokevirtual 215, 3))]
def kt_0_b33 : List (Nat × Instr × Nat) := [(1898, (.aload_n 2, 1)), (1899, (.aload_n 0, 1)), (1900, (.iload_n 3, 1)), (1901, (.iconst 1, 1)), (1902, (.iadd, 1)), (1903, (.iaload, 1)), (1904, (.aload_n 0, 1)), (1905, (.iload_n 3, 1)), (1906, (.iconst 2, 1)), (1907, (.iadd, 1)), (1908, (.iaload, 1)), (1909, (.aload_n 0, 1)), (1910, (.iload_n 3, 1)), (1911, (.iconst 3, 1)), (1912, (.iadd, 1)), (1913, (.iaload, 1)), (1914, (.invokevirtual 218, 3)), (1917, (.if_icmp .eq 253, 3)), (1922, (.aload_n 1, 1)), (1923, (.aload_n 0, 1)), (1924, (.iload_n 3, 1)), (1925, (.iconst 1, 1)), (1926, (.iadd, 1)), (1927, (.iaload, 1)), (1928, (.invokevirtual 219, 3)), (1931, (.aload_n 2, 1)), (1932, (.aload_n 0, 1)), (1933, (.iload_n 3, 1)), (1934, (.iconst 1, 1)), (1935, (.iadd, 1)), (1936, (.iaload, 1)), (1937, (.invokevirtual 222, 3)), (1940, (.if_icmp .eq 230, 3)), (1945, (.aload_n 1, 1)), (1946, (.aload_n 0, 1)), (1947, (.iload_n 3, 1)), (1948, (.iconst 1, 1)), (1949, (.iadd, 1))]
def kt_0_b34 : List (Nat × Instr × Nat) := [(1950, (.iaload, 1)), (1951, (.invokevirtual 223, 3)), (1954, (.aload_n 2, 1)), (1955, (.aload_n 0, 1)), (1956, (.iload_n 3, 1)), (1957, (.iconst 1, 1)), (1958, (.iadd, 1)), (1959, (.iaload, 1)), (1960, (.invokevirtual 226, 3)), (1963, (.if_icmp .eq 207, 3)), (1968, (.aload_n 1, 1)), (1969, (.aload_n 0, 1)), (1970, (.iload_n 3, 1)), (1971, (.iconst 1, 1)), (1972, (.iadd, 1)), (1973, (.iaload, 1)), (1974, (.invokevirtual 227, 3)), (1977, (.aload_n 2, 1)), (1978, (.aload_n 0, 1)), (1979, (.iload_n 3, 1)), (1980, (.iconst 1, 1)), (1981, (.iadd, 1)), (1982, (.iaload, 1)), (1983, (.invokevirtual 230, 3)), (1986, (.if_icmp .eq 184, 3)), (1991, (.aload_n 1, 1)), (1992, (.aload_n 0, 1)), (1993, (.iload_n 3, 1)), (1994, (.iconst 1, 1)), (1995, (.iadd, 1)), (1996, (.iaload, 1)), (1997, (.aload_n 0, 1)), (1998, (.iload_n 3, 1)), (1999, (.iconst 2, 1)), (2000, (.iadd, 1)), (2001, (.iaload, 1)), (2002, (.aload_n 0, 1)), (2003, (.iload_n 3, 1))]
def kt_0_b35 : List (Nat × Instr × Nat) := [(2004, (.iconst 3, 1)), (2005, (.iadd, 1)), (2006, (.iaload, 1)), (2007, (.invokevirtual 231, 3)), (2010, (.aload_n 2, 1)), (2011, (.aload_n 0, 1)), (2012, (.iload_n 3, 1)), (2013, (.iconst 1, 1)), (2014, (.iadd, 1)), (2015, (.iaload, 1)), (2016, (.aload_n 0, 1)), (2017, (.iload_n 3, 1)), (2018, (.iconst 2, 1)), (2019, (.iadd, 1)), (2020, (.iaload, 1)), (2021, (.aload_n 0, 1)), (2022, (.iload_n 3, 1)), (2023, (.iconst 3, 1)), (2024, (.iadd, 1)), (2025, (.iaload, 1)), (2026, (.invokevirtual 234, 3)), (2029, (.if_icmp .eq 141, 3)), (2034, (.aload_n 1, 1)), (2035, (.aload_n 0, 1)), (2036, (.iload_n 3, 1)), (2037, (.iconst 1, 1)), (2038, (.iadd, 1)), (2039, (.iaload, 1)), (2040, (.aload_n 0, 1)), (2041, (.iload_n 3, 1)), (2042, (.iconst 2, 1)), (2043, (.iadd, 1)), (2044, (.iaload, 1)), (2045, (.aload_n 0, 1)), (2046, (.iload_n 3, 1)), (2047, (.iconst 3, 1)), (2048, (.iadd, 1)), (2049, (.iaload, 1))]
def kt_0_b36 : List (Nat × Instr × Nat) := [(2050, (.i2l, 1)), (2051, (.bipush 32, 2)), (2053, (.lshl, 1)), (2054, (.aload_n 0, 1)), (2055, (.iload_n 3, 1)), (2056, (.iconst 4, 1)), (2057, (.iadd, 1)), (2058, (.iaload, 1)), (2059, (.i2l, 1)), (2060, (.ldc2_w 235, 3)), (2063, (.land, 1)), (2064, (.lor, 1)), (2065, (.invokevirtual 237, 3)), (2068, (.aload_n 2, 1)), (2069, (.aload_n 0, 1)), (2070, (.iload_n 3, 1)), (2071, (.iconst 1, 1)), (2072, (.iadd, 1)), (2073, (.iaload, 1)), (2074, (.aload_n 0, 1)), (2075, (.iload_n 3, 1)), (2076, (.iconst 2, 1)), (2077, (.iadd, 1)), (2078, (.iaload, 1)), (2079, (.aload_n 0, 1)), (2080, (.iload_n 3, 1)), (2081, (.iconst 3, 1)), (2082, (.iadd, 1)), (2083, (.iaload, 1)), (2084, (.i2l, 1)), (2085, (.bipush 32, 2)), (2087, (.lshl, 1)), (2088, (.aload_n 0, 1)), (2089, (.iload_n 3, 1)), (2090, (.iconst 4, 1)), (2091, (.iadd, 1)), (2092, (.iaload, 1)), (2093, (.i2l, 1))]
def kt_0_b37 : List (Nat × Instr × Nat) := [(2094, (.ldc2_w 235, 3)), (2097, (.land, 1)), (2098, (.lor, 1)), (2099, (.invokevirtual 241, 3)), (2102, (.if_icmp .eq 68, 3)), (2107, (.aload_n 1, 1)), (2108, (.aload_n 0, 1)), (2109, (.iload_n 3, 1)), (2110, (.iconst 1, 1)), (2111, (.iadd, 1)), (2112, (.iaload, 1)), (2113, (.aload_n 0, 1)), (2114, (.iload_n 3, 1)), (2115, (.iconst 2, 1)), (2116, (.iadd, 1)), (2117, (.iaload, 1)), (2118, (.aload_n 0, 1)), (2119, (.iload_n 3, 1)), (2120, (.iconst 3, 1)), (2121, (.iadd, 1)), (2122, (.iaload, 1)), (2123, (.aload_n 0, 1)), (2124, (.iload_n 3, 1)), (2125, (.iconst 4, 1)), (2126, (.iadd, 1)), (2127, (.iaload, 1)), (2128, (.aload_n 0, 1)), (2129, (.iload_n 3, 1)), (2130, (.iconst 5, 1)), (2131, (.iadd, 1)), (2132, (.iaload, 1)), (2133, (.invokevirtual 242, 3)), (2136, (.aload_n 2, 1)), (2137, (.aload_n 0, 1)), (2138, (.iload_n 3, 1)), (2139, (.iconst 1, 1)), (2140, (.iadd, 1)), (2141, (.iaload, 1))]
def kt_0_b38 : List (Nat × Instr × Nat) := [(2142, (.aload_n 0, 1)), (2143, (.iload_n 3, 1)), (2144, (.iconst 2, 1)), (2145, (.iadd, 1)), (2146, (.iaload, 1)), (2147, (.aload_n 0, 1)), (2148, (.iload_n 3, 1)), (2149, (.iconst 3, 1)), (2150, (.iadd, 1)), (2151, (.iaload, 1)), (2152, (.aload_n 0, 1)), (2153, (.iload_n 3, 1)), (2154, (.iconst 4, 1)), (2155, (.iadd, 1)), (2156, (.iaload, 1)), (2157, (.aload_n 0, 1)), (2158, (.iload_n 3, 1)), (2159, (.iconst 5, 1)), (2160, (.iadd, 1)), (2161, (.iaload, 1)), (2162, (.invokevirtual 245, 3)), (2165, (.if_icmp .eq 5, 3)), (2170, (.iinc 3 6, 3)), (2173, (.goto (-2155), 3)), (2176, (.iconst 1, 1)), (2177, (.ireturn, 1))]
def kt_0 : List (Nat × List (Nat × Instr × Nat)) := [(287, kt_0_b0), (327, kt_0_b1), (395, kt_0_b2), (441, kt_0_b3), (489, kt_0_b4), (535, kt_0_b5), (581, kt_0_b6), (633, kt_0_b7), (683, kt_0_b8), (733, kt_0_b9), (779, kt_0_b10), (819, kt_0_b11), (889, kt_0_b12), (949, kt_0_b13), (1005, kt_0_b14), (1057, kt_0_b15), (1105, kt_0_b16), (1157, kt_0_b17), (1203, kt_0_b18), (1249, kt_0_b19), (1297, kt_0_b20), (1349, kt_0_b21), (1403, kt_0_b22), (1451, kt_0_b23), (1503, kt_0_b24), (1557, kt_0_b25), (1597, kt_0_b26), (1649, kt_0_b27), (1697, kt_0_b28), (1743, kt_0_b29), (1789, kt_0_b30), (1849, kt_0_b31), (1895, kt_0_b32), (1949, kt_0_b33), (2003, kt_0_b34), (2049, kt_0_b35), (2093, kt_0_b36), (2141, kt_0_b37), (2177, kt_0_b38)]
def kt_1 : List (Nat × List (Nat × Instr × Nat)) := [(5, [(0, (.iconst 0, 1)), (1, (.istore_n 2, 1)), (2, (.aload_n 0, 1)), (3, (.arraylength, 1)), (4, (.istore_n 3, 1)), (5, (.iload_n 2, 1))]), (13, [(6, (.iload_n 3, 1)), (7, (.if_icmp .ge 13, 3)), (10, (.aload_n 0, 1)), (11, (.iload_n 2, 1)), (12, (.iload_n 1, 1)), (13, (.bastore, 1))]), (20, [(14, (.iinc 2 1, 3)), (17, (.goto (-12), 3)), (20, (.return_, 1))])]
def kt_2 : List (Nat × List (Nat × Instr × Nat)) := [(6, [(0, (.iconst 0, 1)), (1, (.istore_n 3, 1)), (2, (.aload_n 0, 1)), (3, (.arraylength, 1)), (4, (.istore 4, 2)), (6, (.iload_n 3, 1))]), (15, [(7, (.iload 4, 2)), (9, (.if_icmp .ge 13, 3)), (12, (.aload_n 0, 1)), (13, (.iload_n 3, 1)), (14, (.lload_n 1, 1)), (15, (.lastore, 1))]), (22, [(16, (.iinc 3 1, 3)), (19, (.goto (-13), 3)), (22, (.return_, 1))])]
def kt_3 : List (Nat × List (Nat × Instr × Nat)) := [(9, [(0, (.aload_n 0, 1)), (1, (.aload_n 1, 1)), (2, (.getfield 7, 3)), (5, (.putfield 7, 3)), (8, (.aload_n 0, 1)), (9, (.aload_n 1, 1))]), (21, [(10, (.getfield 13, 3)), (13, (.putfield 13, 3)), (16, (.aload_n 0, 1)), (17, (.aload_n 1, 1)), (18, (.getfield 16, 3)), (21, (.putfield 16, 3))]), (32, [(24, (.aload_n 0, 1)), (25, (.aload_n 1, 1)), (26, (.getfield 19, 3)), (29, (.putfield 19, 3)), (32, (.return_, 1))])]
def kt_4 : List (Nat × List (Nat × Instr × Nat)) := [(9, [(0, (.aload_n 0, 1)), (1, (.invokespecial 1, 3)), (4, (.aload_n 0, 1)), (5, (.iconst 0, 1)), (6, (.putfield 7, 3)), (9, (.aload_n 0, 1))]), (19, [(10, (.iconst 0, 1)), (11, (.putfield 13, 3)), (14, (.aload_n 0, 1)), (15, (.iconst 0, 1)), (16, (.putfield 16, 3)), (19, (.aload_n 0, 1))]), (24, [(20, (.iconst 0, 1)), (21, (.putfield 19, 3)), (24, (.return_, 1))])]
def kt_5 : List (Nat × List (Nat × Instr × Nat)) := [(9, [(0, (.aload_n 0, 1)), (1, (.invokevirtual 75, 3)), (4, (.aload_n 0, 1)), (5, (.aload_n 0, 1)), (6, (.getfield 15, 3)), (9, (.aload_n 0, 1))]), (19, [(10, (.getfield 22, 3)), (13, (.iload_n 2, 1)), (14, (.invokevirtual 78, 3)), (17, (.aload_n 0, 1)), (18, (.aload_n 0, 1)), (19, (.getfield 19, 3))]), (31, [(22, (.aload_n 0, 1)), (23, (.getfield 25, 3)), (26, (.iload_n 2, 1)), (27, (.invokevirtual 78, 3)), (30, (.aload_n 0, 1)), (31, (.iload_n 1, 1))]), (36, [(32, (.iload_n 2, 1)), (33, (.invokevirtual 84, 3)), (36, (.ireturn, 1))])]
def kt_6 : List (Nat × List (Nat × Instr × Nat)) := [(7, [(0, (.iconst 0, 1)), (1, (.istore_n 3, 1)), (2, (.iconst 1, 1)), (3, (.istore 4, 2)), (5, (.iload 4, 2)), (7, (.iconst 1, 1))]), (82, [(8, (.iload_n 2, 1)), (9, (.ishl, 1)), (10, (.if_icmp .ge 71, 3)), (81, (.iload_n 3, 1)), (82, (.ireturn, 1))])]
def kt_7 : List (Nat × List (Nat × Instr × Nat)) := [(5, [(0, (.aload_n 0, 1)), (1, (.iconst 0, 1)), (2, (.putfield 37, 3)), (5, (.return_, 1))])]
def kt_8 : List (Nat × List (Nat × Instr × Nat)) := [(8, [(0, (.aload_n 0, 1)), (1, (.invokespecial 3, 3)), (4, (.aload_n 0, 1)), (5, (.iconst 0, 1)), (6, (.newarray .short, 2)), (8, (.putfield 9, 3))]), (19, [(11, (.aload_n 0, 1)), (12, (.iconst 0, 1)), (13, (.newarray .int, 2)), (15, (.putfield 15, 3)), (18, (.aload_n 0, 1)), (19, (.iconst 0, 1))]), (30, [(20, (.newarray .int, 2)), (22, (.putfield 19, 3)), (25, (.aload_n 0, 1)), (26, (.bipush 12, 2)), (28, (.newarray .int, 2)), (30, (.putfield 22, 3))]), (42, [(33, (.aload_n 0, 1)), (34, (.bipush 12, 2)), (36, (.newarray .int, 2)), (38, (.putfield 25, 3)), (41, (.aload_n 0, 1)), (42, (.bipush 12, 2))]), (55, [(44, (.bipush 12, 2)), (46, (.multianewarray 28 2, 4)), (50, (.putfield 30, 3)), (53, (.aload_n 0, 1)), (54, (.iconst 0, 1)), (55, (.putfield 33, 3))]), (63, [(58, (.aload_n 0, 1)), (59, (.iconst 0, 1)), (60, (.putfield 37, 3)), (63, (.return_, 1))])]
def kt_9 : List (Nat × List (Nat × Instr × Nat)) := [(9, [(0, (.aload_n 0, 1)), (1, (.getfield 15, 3)), (4, (.arraylength, 1)), (5, (.ifCond .ne 21, 3)), (8, (.aload_n 0, 1)), (9, (.sipush 4096, 3))]), (23, [(12, (.newarray .int, 2)), (14, (.putfield 15, 3)), (17, (.aload_n 0, 1)), (18, (.sipush 4096, 3)), (21, (.newarray .int, 2)), (23, (.putfield 19, 3))]), (26, [(26, (.return_, 1))])]
def kt_10 : List (Nat × List (Nat × Instr × Nat)) := [(5, [(0, (.aload_n 1, 1)), (1, (.iconst 0, 1)), (2, (.iconst 0, 1)), (3, (.iastore, 1)), (4, (.iconst 1, 1)), (5, (.istore 4, 2))]), (42, [(7, (.iload 4, 2)), (9, (.iconst 1, 1)), (10, (.iload_n 3, 1)), (11, (.ishl, 1)), (12, (.if_icmp .ge 30, 3)), (42, (.return_, 1))])]
def kt_11 : List (Nat × List (Nat × Instr × Nat)) := [(17, [(0, (.aload_n 0, 1)), (1, (.iload_n 1, 1)), (2, (.invokevirtual 140, 3)), (5, (.ifCond .eq 11, 3)), (16, (.iconst (-1), 1)), (17, (.ireturn, 1))])]
def kt_12 : List (Nat × List (Nat × Instr × Nat)) := [(7, [(0, (.aload_n 0, 1)), (1, (.iload_n 1, 1)), (2, (.iload_n 2, 1)), (3, (.iload_n 3, 1)), (4, (.invokevirtual 366, 3)), (7, (.istore 4, 2))]), (16, [(9, (.iload 4, 2)), (11, (.ifCond .ge 6, 3)), (14, (.ldc 164, 2)), (16, (.ireturn, 1))])]
def kt_13 : List (Nat × List (Nat × Instr × Nat)) := [(9, [(0, (.iload_n 1, 1)), (1, (.iconst 0, 1)), (2, (.iconst 2, 1)), (3, (.invokestatic 147, 3)), (6, (.ifCond .ne 6, 3)), (9, (.bipush (-2), 2))]), (18, [(11, (.ireturn, 1)), (12, (.aload_n 0, 1)), (13, (.getfield 44, 3)), (16, (.iload_n 1, 1)), (17, (.aaload, 1)), (18, (.ifnull 12, 3))]), (32, [(30, (.bipush (-6), 2)), (32, (.ireturn, 1))])]
def kt_14 : List (Nat × List (Nat × Instr × Nat)) := [(28, [(0, (.aload_n 0, 1)), (1, (.iload_n 1, 1)), (2, (.invokevirtual 140, 3)), (5, (.ifCond .eq 21, 3)), (26, (.bipush (-2), 2)), (28, (.ireturn, 1))])]
def kt_15 : List (Nat × List (Nat × Instr × Nat)) := [(11, [(0, (.iload_n 1, 1)), (1, (.iconst 0, 1)), (2, (.ldc_w 289, 3)), (5, (.invokestatic 147, 3)), (8, (.ifCond .eq 12, 3)), (11, (.iload_n 2, 1))]), (22, [(12, (.iconst 0, 1)), (13, (.iconst 1, 1)), (14, (.invokestatic 147, 3)), (17, (.ifCond .ne 6, 3)), (20, (.bipush (-2), 2)), (22, (.ireturn, 1))]), (32, [(23, (.aload_n 0, 1)), (24, (.getfield 20, 3)), (27, (.getfield 352, 3)), (30, (.iload_n 2, 1)), (31, (.aaload, 1)), (32, (.astore_n 3, 1))]), (50, [(33, (.aload_n 3, 1)), (34, (.getfield 356, 3)), (37, (.ifCond .eq 11, 3)), (48, (.bipush (-6), 2)), (50, (.ireturn, 1))])]
def kt_16 : List (Nat × List (Nat × Instr × Nat)) := [(18, [(0, (.aload_n 0, 1)), (1, (.iload_n 1, 1)), (2, (.invokevirtual 140, 3)), (5, (.ifCond .eq 11, 3)), (16, (.bipush (-2), 2)), (18, (.ireturn, 1))])]
def kt_17 : List (Nat × List (Nat × Instr × Nat)) := [(17, [(0, (.aload_n 0, 1)), (1, (.iload_n 1, 1)), (2, (.invokevirtual 140, 3)), (5, (.ifCond .eq 10, 3)), (15, (.ldc 164, 2)), (17, (.ireturn, 1))])]
def kt_18 : List (Nat × List (Nat × Instr × Nat)) := [(14, [(0, (.aload_n 0, 1)), (1, (.iload_n 1, 1)), (2, (.invokevirtual 140, 3)), (5, (.ifCond .eq 7, 3)), (12, (.bipush (-2), 2)), (14, (.ireturn, 1))])]
def kt_19 : List (Nat × List (Nat × Instr × Nat)) := [(9, [(0, (.iload_n 2, 1)), (1, (.invokestatic 144, 3)), (4, (.ifCond .eq 14, 3)), (7, (.iload_n 1, 1)), (8, (.iconst 0, 1)), (9, (.ldc_w 380, 3))]), (22, [(12, (.invokestatic 147, 3)), (15, (.ifCond .ne 6, 3)), (18, (.bipush (-2), 2)), (20, (.ireturn, 1)), (21, (.iconst 0, 1)), (22, (.istore_n 3, 1))]), (83, [(23, (.iload_n 3, 1)), (24, (.aload_n 0, 1)), (25, (.getfield 20, 3)), (28, (.getfield 131, 3)), (31, (.if_icmp .ge 52, 3)), (83, (.aload_n 0, 1))]), (95, [(84, (.getfield 76, 3)), (87, (.iload_n 1, 1)), (88, (.aload_n 0, 1)), (89, (.getfield 20, 3)), (92, (.getfield 131, 3)), (95, (.invokevirtual 387, 3))]), (98, [(98, (.ireturn, 1))])]
def kt_20 : List (Nat × List (Nat × Instr × Nat)) := [(51, [(0, (.iload_n 1, 1)), (1, (.tableswitch 127 0 6 #[43, 51, 59, 67, 109, 117, 122], 43)), (44, (.aload_n 0, 1)), (45, (.getfield 20, 3)), (48, (.getfield 131, 3)), (51, (.ireturn, 1))]), (61, [(52, (.aload_n 0, 1)), (53, (.getfield 20, 3)), (56, (.getfield 393, 3)), (59, (.ireturn, 1)), (60, (.aload_n 0, 1)), (61, (.getfield 40, 3))]), (75, [(64, (.getfield 111, 3)), (67, (.ireturn, 1)), (68, (.aload_n 0, 1)), (69, (.getfield 20, 3)), (72, (.getfield 352, 3)), (75, (.iconst 0, 1))]), (89, [(76, (.aaload, 1)), (77, (.getfield 356, 3)), (80, (.ifCond .eq 7, 3)), (87, (.iconst 0, 1)), (88, (.aload_n 0, 1)), (89, (.getfield 20, 3))]), (107, [(92, (.getfield 352, 3)), (95, (.iconst 1, 1)), (96, (.aaload, 1)), (97, (.getfield 356, 3)), (100, (.ifCond .eq 7, 3)), (107, (.iconst 0, 1))]), (117, [(108, (.iadd, 1)), (109, (.ireturn, 1)), (110, (.aload_n 0, 1)), (111, (.getfield 20, 3)), (114, (.getfield 117, 3)), (117, (.ireturn, 1))]), (127, [(118, (.aload_n 0, 1)), (119, (.getfield 13, 3)), (122, (.ireturn, 1)), (123, (.aload_n 0, 1)), (124, (.invokevirtual 466, 3)), (127, (.ireturn, 1))]), (129, [(128, (.iconst (-1), 1)), (129, (.ireturn, 1))])]
def kt_21 : List (Nat × List (Nat × Instr × Nat)) := [(14, [(0, (.aload_n 0, 1)), (1, (.iload_n 1, 1)), (2, (.invokevirtual 140, 3)), (5, (.ifCond .eq 7, 3)), (12, (.bipush (-2), 2)), (14, (.ireturn, 1))])]
def kt_22 : List (Nat × List (Nat × Instr × Nat)) := [(9, [(0, (.iload_n 2, 1)), (1, (.invokestatic 144, 3)), (4, (.ifCond .eq 14, 3)), (7, (.iload_n 1, 1)), (8, (.iconst 0, 1)), (9, (.sipush 9999, 3))]), (22, [(12, (.invokestatic 147, 3)), (15, (.ifCond .ne 6, 3)), (18, (.bipush (-2), 2)), (20, (.ireturn, 1)), (21, (.iconst 0, 1)), (22, (.istore_n 3, 1))]), (32, [(23, (.iconst 0, 1)), (24, (.istore 4, 2)), (26, (.iload 4, 2)), (28, (.aload_n 0, 1)), (29, (.getfield 20, 3)), (32, (.getfield 131, 3))]), (66, [(35, (.if_icmp .ge 30, 3)), (65, (.iload_n 3, 1)), (66, (.ireturn, 1))])]
def kt_23 : List (Nat × List (Nat × Instr × Nat)) := [(9, [(0, (.iload_n 1, 1)), (1, (.ifCond .lt 11, 3)), (4, (.iload_n 1, 1)), (5, (.aload_n 0, 1)), (6, (.getfield 13, 3)), (9, (.if_icmp .le 5, 3))]), (19, [(12, (.iconst (-1), 1)), (13, (.ireturn, 1)), (14, (.aload_n 0, 1)), (15, (.iload_n 1, 1)), (16, (.putfield 13, 3)), (19, (.iload_n 1, 1))]), (20, [(20, (.ireturn, 1))])]
def kt_24 : List (Nat × List (Nat × Instr × Nat)) := [(9, [(0, (.iload_n 1, 1)), (1, (.iconst 0, 1)), (2, (.iconst 2, 1)), (3, (.invokestatic 147, 3)), (6, (.ifCond .eq 12, 3)), (9, (.iload_n 2, 1))]), (20, [(10, (.iconst 0, 1)), (11, (.iconst 3, 1)), (12, (.invokestatic 147, 3)), (15, (.ifCond .ne 6, 3)), (18, (.bipush (-2), 2)), (20, (.ireturn, 1))]), (27, [(21, (.iconst 0, 1)), (22, (.istore_n 3, 1)), (23, (.iconst 0, 1)), (24, (.istore 4, 2)), (26, (.iconst 0, 1)), (27, (.istore 5, 2))]), (37, [(29, (.iconst 0, 1)), (30, (.istore 6, 2)), (32, (.iconst 0, 1)), (33, (.istore 7, 2)), (35, (.iload 7, 2)), (37, (.aload_n 0, 1))]), (136, [(38, (.getfield 40, 3)), (41, (.getfield 111, 3)), (44, (.if_icmp .ge 65, 3)), (109, (.iload_n 2, 1)), (110, (.tableswitch 34 0 2 #[26, 28, 31], 26)), (136, (.iload_n 3, 1))]), (144, [(137, (.ireturn, 1)), (138, (.iload 4, 2)), (140, (.ireturn, 1)), (141, (.iload 5, 2)), (143, (.ireturn, 1)), (144, (.iload 6, 2))]), (146, [(146, (.ireturn, 1))])]
def kt_25 : List (Nat × List (Nat × Instr × Nat)) := [(33, [(0, (.iload_n 1, 1)), (1, (.lookupswitch 37 #[(0, 27), (1, 32)], 27)), (28, (.aload_n 0, 1)), (29, (.getfield 31, 3)), (32, (.ireturn, 1)), (33, (.aload_n 0, 1))]), (39, [(34, (.getfield 34, 3)), (37, (.ireturn, 1)), (38, (.iconst (-1), 1)), (39, (.ireturn, 1))])]
def kt_26 : List (Nat × List (Nat × Instr × Nat)) := [(13, [(0, (.aload_n 0, 1)), (1, (.getfield 13, 3)), (4, (.sipush 1180, 3)), (7, (.if_icmp .le 5, 3)), (12, (.aload_n 0, 1)), (13, (.iload_n 1, 1))]), (23, [(14, (.invokevirtual 94, 3)), (17, (.aload_n 0, 1)), (18, (.iload_n 2, 1)), (19, (.invokevirtual 94, 3)), (22, (.aload_n 0, 1)), (23, (.iload_n 3, 1))]), (34, [(24, (.invokevirtual 94, 3)), (27, (.aload_n 0, 1)), (28, (.iload 4, 2)), (30, (.invokevirtual 94, 3)), (33, (.aload_n 0, 1)), (34, (.iload 5, 2))]), (43, [(36, (.invokevirtual 94, 3)), (39, (.aload_n 0, 1)), (40, (.getfield 13, 3)), (43, (.ireturn, 1))])]
def kt_27 : List (Nat × List (Nat × Instr × Nat)) := [(5, [(0, (.iconst 0, 1)), (1, (.istore_n 1, 1)), (2, (.iconst 0, 1)), (3, (.istore_n 2, 1)), (4, (.iload_n 2, 1)), (5, (.aload_n 0, 1))]), (43, [(6, (.getfield 20, 3)), (9, (.getfield 131, 3)), (12, (.if_icmp .ge 30, 3)), (42, (.iload_n 1, 1)), (43, (.ireturn, 1))])]
def kt_28 : List (Nat × List (Nat × Instr × Nat)) := [(18, [(0, (.aload_n 0, 1)), (1, (.iload_n 1, 1)), (2, (.invokevirtual 140, 3)), (5, (.ifCond .eq 11, 3)), (16, (.bipush (-2), 2)), (18, (.ireturn, 1))])]
def kt_29 : List (Nat × List (Nat × Instr × Nat)) := [(26, [(0, (.aload_n 0, 1)), (1, (.iload_n 1, 1)), (2, (.invokevirtual 140, 3)), (5, (.ifCond .eq 19, 3)), (24, (.bipush (-2), 2)), (26, (.ireturn, 1))])]
def kt_30 : List (Nat × List (Nat × Instr × Nat)) := [(8, [(0, (.aload_n 0, 1)), (1, (.getfield 69, 3)), (4, (.iconst 0, 1)), (5, (.putfield 127, 3)), (8, (.return_, 1))])]
def kt_31 : List (Nat × List (Nat × Instr × Nat)) := [(19, [(0, (.aload_n 0, 1)), (1, (.iload_n 1, 1)), (2, (.invokevirtual 140, 3)), (5, (.ifCond .eq 12, 3)), (17, (.bipush (-2), 2)), (19, (.ireturn, 1))])]
def kt_32 : List (Nat × List (Nat × Instr × Nat)) := [(17, [(0, (.aload_n 0, 1)), (1, (.iload_n 1, 1)), (2, (.invokevirtual 140, 3)), (5, (.ifCond .eq 10, 3)), (15, (.bipush (-2), 2)), (17, (.ireturn, 1))])]
def kt_33 : List (Nat × List (Nat × Instr × Nat)) := [(15, [(0, (.aload_n 0, 1)), (1, (.invokespecial 1, 3)), (4, (.aload_n 0, 1)), (5, (.sipush 1200, 3)), (8, (.newarray .byte, 2)), (10, (.putfield 9, 3)), (13, (.aload_n 0, 1)), (14, (.iconst 0, 1)), (15, (.putfield 13, 3))]), (34, [(18, (.aload_n 0, 1)), (19, (.new 17, 3)), (22, (.dup, 1)), (23, (.invokespecial 19, 3)), (26, (.putfield 20, 3)), (29, (.aload_n 0, 1)), (30, (.new 24, 3)), (33, (.dup, 1)), (34, (.invokespecial 26, 3))]), (51, [(37, (.putfield 27, 3)), (40, (.aload_n 0, 1)), (41, (.iconst 0, 1)), (42, (.putfield 31, 3)), (45, (.aload_n 0, 1)), (46, (.iconst (-1), 1)), (47, (.putfield 34, 3)), (50, (.aload_n 0, 1)), (51, (.new 37, 3))]), (70, [(54, (.dup, 1)), (55, (.invokespecial 39, 3)), (58, (.putfield 40, 3)), (61, (.aload_n 0, 1)), (62, (.iconst 3, 1)), (63, (.anewarray 17, 3)), (66, (.putfield 44, 3)), (69, (.aload_n 0, 1)), (70, (.iconst 3, 1))]), (89, [(71, (.anewarray 37, 3)), (74, (.putfield 48, 3)), (77, (.aload_n 0, 1)), (78, (.new 52, 3)), (81, (.dup, 1)), (82, (.invokespecial 54, 3)), (85, (.putfield 55, 3)), (88, (.aload_n 0, 1)), (89, (.new 59, 3))]), (110, [(92, (.dup, 1)), (93, (.invokespecial 61, 3)), (96, (.putfield 62, 3)), (99, (.aload_n 0, 1)), (100, (.new 66, 3)), (103, (.dup, 1)), (104, (.invokespecial 68, 3)), (107, (.putfield 69, 3)), (110, (.aload_n 0, 1))]), (129, [(111, (.new 73, 3)), (114, (.dup, 1)), (115, (.invokespecial 75, 3)), (118, (.putfield 76, 3)), (121, (.aload_n 0, 1)), (122, (.iconst 4, 1)), (123, (.anewarray 80, 3)), (126, (.putfield 82, 3)), (129, (.aload_n 0, 1))]), (146, [(130, (.bipush 7, 2)), (132, (.newarray .int, 2)), (134, (.putfield 86, 3)), (137, (.aload_n 0, 1)), (138, (.bipush 12, 2)), (140, (.newarray .int, 2)), (142, (.putfield 90, 3)), (145, (.iconst 0, 1)), (146, (.istore_n 1, 1))]), (161, [(147, (.iload_n 1, 1)), (148, (.iconst 4, 1)), (149, (.if_icmp .ge 22, 3)), (152, (.aload_n 0, 1)), (153, (.getfield 82, 3)), (156, (.iload_n 1, 1)), (157, (.new 80, 3)), (160, (.dup, 1)), (161, (.invokespecial 93, 3))]), (171, [(164, (.aastore, 1)), (165, (.iinc 1 1, 3)), (168, (.goto (-21), 3)), (171, (.return_, 1))])]
def kt_34 : List (Nat × List (Nat × Instr × Nat)) := [(11, [(0, (.iload_n 0, 1)), (1, (.ifCond .lt 14, 3)), (4, (.iload_n 0, 1)), (5, (.sipush 730, 3)), (8, (.if_icmp .ge 7, 3)), (11, (.iconst 1, 1))]), (16, [(12, (.goto 4, 3)), (15, (.iconst 0, 1)), (16, (.ireturn, 1))])]
def kt_35 : List (Nat × List (Nat × Instr × Nat)) := [(9, [(0, (.iload_n 1, 1)), (1, (.ifCond .lt 18, 3)), (4, (.iload_n 1, 1)), (5, (.aload_n 0, 1)), (6, (.getfield 20, 3)), (9, (.getfield 131, 3))]), (20, [(12, (.if_icmp .ge 7, 3)), (19, (.iconst 0, 1)), (20, (.ireturn, 1))])]
def kt_36 : List (Nat × List (Nat × Instr × Nat)) := [(9, [(0, (.iload_n 0, 1)), (1, (.ifCond .lt 12, 3)), (4, (.iload_n 0, 1)), (5, (.iconst 4, 1)), (6, (.if_icmp .ge 7, 3)), (9, (.iconst 1, 1))]), (14, [(10, (.goto 4, 3)), (13, (.iconst 0, 1)), (14, (.ireturn, 1))])]
def kt_37 : List (Nat × List (Nat × Instr × Nat)) := [(32, [(0, (.aload_n 0, 1)), (1, (.getfield 20, 3)), (4, (.getfield 131, 3)), (7, (.ifCond .le 24, 3)), (31, (.iconst 0, 1)), (32, (.ireturn, 1))])]
def kt_38 : List (Nat × List (Nat × Instr × Nat)) := [(7, [(0, (.iload_n 0, 1)), (1, (.iload_n 1, 1)), (2, (.if_icmp .lt 12, 3)), (5, (.iload_n 0, 1)), (6, (.iload_n 2, 1)), (7, (.if_icmp .gt 7, 3))]), (15, [(10, (.iconst 1, 1)), (11, (.goto 4, 3)), (14, (.iconst 0, 1)), (15, (.ireturn, 1))])]
def kt_39 : List (Nat × List (Nat × Instr × Nat)) := [(9, [(0, (.iload_n 1, 1)), (1, (.invokestatic 478, 3)), (4, (.ifCond .eq 18, 3)), (7, (.aload_n 0, 1)), (8, (.iload_n 2, 1)), (9, (.invokevirtual 140, 3))]), (24, [(12, (.ifCond .eq 10, 3)), (22, (.bipush (-2), 2)), (24, (.ireturn, 1))])]
def kt_40 : List (Nat × List (Nat × Instr × Nat)) := [(9, [(0, (.iload_n 1, 1)), (1, (.iconst 0, 1)), (2, (.iconst 2, 1)), (3, (.invokestatic 147, 3)), (6, (.ifCond .ne 6, 3)), (9, (.bipush (-2), 2))]), (18, [(11, (.ireturn, 1)), (12, (.aload_n 0, 1)), (13, (.getfield 44, 3)), (16, (.iload_n 1, 1)), (17, (.aaload, 1)), (18, (.ifnonnull 16, 3))]), (30, [(21, (.aload_n 0, 1)), (22, (.getfield 44, 3)), (25, (.iload_n 1, 1)), (26, (.new 17, 3)), (29, (.dup, 1)), (30, (.invokespecial 19, 3))]), (40, [(33, (.aastore, 1)), (34, (.aload_n 0, 1)), (35, (.getfield 48, 3)), (38, (.iload_n 1, 1)), (39, (.aaload, 1)), (40, (.ifnonnull 16, 3))]), (52, [(43, (.aload_n 0, 1)), (44, (.getfield 48, 3)), (47, (.iload_n 1, 1)), (48, (.new 37, 3)), (51, (.dup, 1)), (52, (.invokespecial 39, 3))]), (62, [(55, (.aastore, 1)), (56, (.aload_n 0, 1)), (57, (.getfield 44, 3)), (60, (.iload_n 1, 1)), (61, (.aaload, 1)), (62, (.aload_n 0, 1))]), (74, [(63, (.getfield 20, 3)), (66, (.invokevirtual 472, 3)), (69, (.aload_n 0, 1)), (70, (.getfield 48, 3)), (73, (.iload_n 1, 1)), (74, (.aaload, 1))]), (83, [(75, (.aload_n 0, 1)), (76, (.getfield 40, 3)), (79, (.invokevirtual 475, 3)), (82, (.iconst 0, 1)), (83, (.ireturn, 1))])]
def kt_41 : List (Nat × List (Nat × Instr × Nat)) := [(9, [(0, (.iload_n 1, 1)), (1, (.iconst 0, 1)), (2, (.iconst 3, 1)), (3, (.invokestatic 147, 3)), (6, (.ifCond .ne 5, 3)), (9, (.iconst (-1), 1))]), (19, [(10, (.ireturn, 1)), (11, (.aload_n 0, 1)), (12, (.getfield 69, 3)), (15, (.aload_n 0, 1)), (16, (.getfield 20, 3)), (19, (.aload_n 0, 1))]), (31, [(20, (.getfield 40, 3)), (23, (.aload_n 0, 1)), (24, (.getfield 55, 3)), (27, (.invokevirtual 302, 3)), (30, (.iload_n 1, 1)), (31, (.tableswitch 49 0 2 #[25, 33, 41], 25))]), (65, [(56, (.aload_n 0, 1)), (57, (.getfield 69, 3)), (60, (.getfield 306, 3)), (63, (.ireturn, 1)), (64, (.aload_n 0, 1)), (65, (.getfield 69, 3))]), (79, [(68, (.getfield 309, 3)), (71, (.ireturn, 1)), (72, (.aload_n 0, 1)), (73, (.getfield 69, 3)), (76, (.getfield 312, 3)), (79, (.ireturn, 1))]), (87, [(80, (.aload_n 0, 1)), (81, (.getfield 69, 3)), (84, (.getfield 315, 3)), (87, (.ireturn, 1))])]
def kt_42 : List (Nat × List (Nat × Instr × Nat)) := [(9, [(0, (.iload_n 2, 1)), (1, (.invokestatic 144, 3)), (4, (.ifCond .eq 14, 3)), (7, (.iload_n 1, 1)), (8, (.iconst 0, 1)), (9, (.ldc_w 426, 3))]), (22, [(12, (.invokestatic 147, 3)), (15, (.ifCond .ne 6, 3)), (18, (.bipush (-2), 2)), (20, (.ireturn, 1)), (21, (.iconst 0, 1)), (22, (.istore_n 3, 1))]), (33, [(23, (.sipush 9999, 3)), (26, (.istore 4, 2)), (28, (.iconst 0, 1)), (29, (.istore 5, 2)), (31, (.iload 5, 2)), (33, (.bipush 20, 2))]), (45, [(35, (.if_icmp .ge 48, 3)), (38, (.iload_n 3, 1)), (39, (.iload 4, 2)), (41, (.if_icmp .ge 42, 3)), (44, (.iload_n 3, 1)), (45, (.iload 4, 2))]), (52, [(47, (.iadd, 1)), (48, (.iconst 1, 1)), (49, (.iadd, 1)), (50, (.iconst 2, 1)), (51, (.idiv, 1)), (52, (.istore 6, 2))]), (62, [(54, (.aload_n 0, 1)), (55, (.iload 6, 2)), (57, (.iload_n 2, 1)), (58, (.invokevirtual 427, 3)), (61, (.iload_n 1, 1)), (62, (.if_icmp .gt 9, 3))]), (83, [(65, (.iload 6, 2)), (67, (.istore_n 3, 1)), (68, (.goto 9, 3)), (77, (.iinc 5 1, 3)), (80, (.goto (-49), 3)), (83, (.iload_n 3, 1))]), (84, [(84, (.ireturn, 1))])]
def kt_43 : List (Nat × List (Nat × Instr × Nat)) := [(11, [(0, (.aload_n 0, 1)), (1, (.getfield 55, 3)), (4, (.aload_n 0, 1)), (5, (.getfield 20, 3)), (8, (.invokevirtual 120, 3)), (11, (.aload_n 0, 1))]), (23, [(12, (.getfield 76, 3)), (15, (.invokevirtual 124, 3)), (18, (.aload_n 0, 1)), (19, (.getfield 69, 3)), (22, (.iconst 0, 1)), (23, (.putfield 127, 3))]), (26, [(26, (.return_, 1))])]
def kt_44 : List (Nat × List (Nat × Instr × Nat)) := [(28, [(0, (.aload_n 0, 1)), (1, (.iload_n 1, 1)), (2, (.invokevirtual 140, 3)), (5, (.ifCond .eq 21, 3)), (26, (.ldc 164, 2)), (28, (.ireturn, 1))])]
def kt_45 : List (Nat × List (Nat × Instr × Nat)) := [(11, [(0, (.iload_n 1, 1)), (1, (.iconst 0, 1)), (2, (.ldc_w 451, 3)), (5, (.invokestatic 147, 3)), (8, (.ifCond .eq 37, 3)), (11, (.iload_n 2, 1))]), (23, [(12, (.iconst 1, 1)), (13, (.aload_n 0, 1)), (14, (.getfield 20, 3)), (17, (.getfield 131, 3)), (20, (.invokestatic 147, 3)), (23, (.ifCond .eq 22, 3))]), (47, [(45, (.bipush (-2), 2)), (47, (.ireturn, 1))])]
def kt_46 : List (Nat × List (Nat × Instr × Nat)) := [(10, [(0, (.iload_n 1, 1)), (1, (.invokestatic 144, 3)), (4, (.ifCond .ne 6, 3)), (7, (.bipush (-2), 2)), (9, (.ireturn, 1)), (10, (.iconst (-1), 1))]), (17, [(11, (.istore_n 2, 1)), (12, (.iconst 0, 1)), (13, (.istore_n 3, 1)), (14, (.iconst 0, 1)), (15, (.istore 4, 2)), (17, (.iload 4, 2))]), (57, [(19, (.aload_n 0, 1)), (20, (.getfield 20, 3)), (23, (.getfield 131, 3)), (26, (.if_icmp .ge 30, 3)), (56, (.iload_n 2, 1)), (57, (.ireturn, 1))])]
def kt_47 : List (Nat × List (Nat × Instr × Nat)) := [(10, [(0, (.aload_n 0, 1)), (1, (.iload_n 1, 1)), (2, (.invokevirtual 140, 3)), (5, (.ifCond .ne 6, 3)), (8, (.bipush (-2), 2)), (10, (.ireturn, 1))])]
def kt_48 : List (Nat × List (Nat × Instr × Nat)) := [(10, [(0, (.iload_n 1, 1)), (1, (.invokestatic 144, 3)), (4, (.ifCond .ne 6, 3)), (7, (.bipush (-2), 2)), (9, (.ireturn, 1)), (10, (.iconst (-1), 1))]), (17, [(11, (.istore_n 2, 1)), (12, (.iconst (-1), 1)), (13, (.istore_n 3, 1)), (14, (.iconst 0, 1)), (15, (.istore 4, 2)), (17, (.iload 4, 2))]), (70, [(19, (.aload_n 0, 1)), (20, (.getfield 20, 3)), (23, (.getfield 131, 3)), (26, (.if_icmp .ge 43, 3)), (69, (.iload_n 2, 1)), (70, (.ireturn, 1))])]
def kt_49 : List (Nat × List (Nat × Instr × Nat)) := [(17, [(0, (.aload_n 0, 1)), (1, (.iload_n 1, 1)), (2, (.invokevirtual 140, 3)), (5, (.ifCond .eq 10, 3)), (15, (.bipush (-2), 2)), (17, (.ireturn, 1))])]
def kt_50 : List (Nat × List (Nat × Instr × Nat)) := [(17, [(0, (.aload_n 0, 1)), (1, (.iload_n 1, 1)), (2, (.invokevirtual 140, 3)), (5, (.ifCond .eq 10, 3)), (15, (.ldc 164, 2)), (17, (.ireturn, 1))])]
def kt_51 : List (Nat × List (Nat × Instr × Nat)) := [(10, [(0, (.iload 4, 2)), (2, (.iconst 0, 1)), (3, (.iconst 1, 1)), (4, (.invokestatic 147, 3)), (7, (.ifCond .ne 6, 3)), (10, (.ldc 164, 2))]), (17, [(12, (.ireturn, 1)), (13, (.aload_n 0, 1)), (14, (.iload_n 1, 1)), (15, (.iload_n 2, 1)), (16, (.iload_n 3, 1)), (17, (.invokevirtual 366, 3))]), (29, [(20, (.istore 5, 2)), (22, (.iload 5, 2)), (24, (.ifCond .ge 6, 3)), (27, (.ldc 164, 2)), (29, (.ireturn, 1))])]
def kt_52 : List (Nat × List (Nat × Instr × Nat)) := [(11, [(0, (.iload_n 1, 1)), (1, (.invokestatic 478, 3)), (4, (.ifCond .eq 10, 3)), (7, (.iload_n 3, 1)), (8, (.invokestatic 478, 3)), (11, (.ifCond .ne 6, 3))]), (22, [(14, (.bipush (-2), 2)), (16, (.ireturn, 1)), (17, (.aload_n 0, 1)), (18, (.getfield 82, 3)), (21, (.iload_n 1, 1)), (22, (.aaload, 1))]), (31, [(23, (.astore 6, 2)), (25, (.aload_n 0, 1)), (26, (.getfield 82, 3)), (29, (.iload_n 3, 1)), (30, (.aaload, 1)), (31, (.astore 7, 2))]), (51, [(33, (.aload 6, 2)), (35, (.getfield 469, 3)), (38, (.ifCond .eq 11, 3)), (49, (.bipush (-6), 2)), (51, (.ireturn, 1))])]
def kt_53 : List (Nat × List (Nat × Instr × Nat)) := [(8, [(0, (.bipush 24, 2)), (2, (.istore_n 2, 1)), (3, (.iload_n 2, 1)), (4, (.ifCond .lt 42, 3)), (7, (.aload_n 0, 1)), (8, (.getfield 13, 3))]), (22, [(11, (.sipush 1200, 3)), (14, (.if_icmp .ge 26, 3)), (17, (.aload_n 0, 1)), (18, (.getfield 9, 3)), (21, (.aload_n 0, 1)), (22, (.getfield 13, 3))]), (30, [(25, (.iload_n 1, 1)), (26, (.iload_n 2, 1)), (27, (.ishr, 1)), (28, (.i2b, 1)), (29, (.bastore, 1)), (30, (.aload_n 0, 1))]), (40, [(31, (.dup, 1)), (32, (.getfield 13, 3)), (35, (.iconst 1, 1)), (36, (.iadd, 1)), (37, (.putfield 13, 3)), (40, (.iinc 2 (-8), 3))]), (46, [(43, (.goto (-40), 3)), (46, (.return_, 1))])]
def kt_54 : List (Nat × List (Nat × Instr × Nat)) := [(39, [(0, (.aload_n 0, 1)), (1, (.iload_n 1, 1)), (2, (.invokevirtual 140, 3)), (5, (.ifCond .eq 32, 3)), (37, (.bipush (-2), 2)), (39, (.ireturn, 1))])]
def kt_55 : List (Nat × List (Nat × Instr × Nat)) := [(49, [(0, (.aload_n 0, 1)), (1, (.iload_n 1, 1)), (2, (.invokevirtual 140, 3)), (5, (.ifCond .eq 42, 3)), (47, (.bipush (-2), 2)), (49, (.ireturn, 1))])]
def kt_56 : List (Nat × List (Nat × Instr × Nat)) := [(19, [(0, (.aload_n 0, 1)), (1, (.iload_n 1, 1)), (2, (.invokevirtual 140, 3)), (5, (.ifCond .eq 12, 3)), (17, (.bipush (-2), 2)), (19, (.ireturn, 1))])]
def kt_57 : List (Nat × List (Nat × Instr × Nat)) := [(17, [(0, (.aload_n 0, 1)), (1, (.iload_n 1, 1)), (2, (.invokevirtual 140, 3)), (5, (.ifCond .eq 10, 3)), (15, (.bipush (-2), 2)), (17, (.ireturn, 1))])]
def kt_58 : List (Nat × List (Nat × Instr × Nat)) := [(9, [(0, (.iload_n 2, 1)), (1, (.invokestatic 144, 3)), (4, (.ifCond .eq 24, 3)), (7, (.iload_n 1, 1)), (8, (.iconst 0, 1)), (9, (.sipush 9999, 3))]), (25, [(12, (.invokestatic 147, 3)), (15, (.ifCond .eq 13, 3)), (18, (.aload_n 0, 1)), (19, (.getfield 20, 3)), (22, (.getfield 131, 3)), (25, (.ifCond .ne 6, 3))]), (30, [(28, (.bipush (-2), 2)), (30, (.ireturn, 1))])]
def kt_59 : List (Nat × List (Nat × Instr × Nat)) := [(9, [(0, (.iload_n 1, 1)), (1, (.invokestatic 478, 3)), (4, (.ifCond .eq 18, 3)), (7, (.iload_n 2, 1)), (8, (.iconst 0, 1)), (9, (.iconst 3, 1))]), (22, [(10, (.invokestatic 147, 3)), (13, (.ifCond .eq 9, 3)), (16, (.iload_n 3, 1)), (17, (.bipush 60, 2)), (19, (.if_icmp .le 6, 3)), (22, (.bipush (-2), 2))]), (32, [(24, (.ireturn, 1)), (25, (.iload_n 3, 1)), (26, (.ifCond .ge 6, 3)), (29, (.bipush (-3), 2)), (31, (.ireturn, 1)), (32, (.aload_n 0, 1))]), (40, [(33, (.getfield 82, 3)), (36, (.iload_n 1, 1)), (37, (.aaload, 1)), (38, (.iload_n 2, 1)), (39, (.iload_n 3, 1)), (40, (.invokevirtual 488, 3))]), (44, [(43, (.iconst 0, 1)), (44, (.ireturn, 1))])]
def kt_60 : List (Nat × List (Nat × Instr × Nat)) := [(5, [(0, (.iconst 0, 1)), (1, (.istore_n 1, 1)), (2, (.iconst 0, 1)), (3, (.istore_n 2, 1)), (4, (.iload_n 2, 1)), (5, (.iconst 4, 1))]), (15, [(6, (.if_icmp .ge 29, 3)), (9, (.iload_n 1, 1)), (10, (.aload_n 0, 1)), (11, (.getfield 82, 3)), (14, (.iload_n 2, 1)), (15, (.aaload, 1))]), (29, [(16, (.getfield 469, 3)), (19, (.ifCond .eq 7, 3)), (26, (.iconst 0, 1)), (27, (.iadd, 1)), (28, (.istore_n 1, 1)), (29, (.iinc 2 1, 3))]), (36, [(32, (.goto (-28), 3)), (35, (.iload_n 1, 1)), (36, (.ireturn, 1))])]
def kt_61 : List (Nat × List (Nat × Instr × Nat)) := [(5, [(0, (.iconst 1, 1)), (1, (.istore_n 1, 1)), (2, (.iconst 0, 1)), (3, (.istore_n 2, 1)), (4, (.iload_n 2, 1)), (5, (.aload_n 0, 1))]), (53, [(6, (.getfield 20, 3)), (9, (.getfield 131, 3)), (12, (.if_icmp .ge 40, 3)), (52, (.iload_n 1, 1)), (53, (.ireturn, 1))])]
def kt_62 : List (Nat × List (Nat × Instr × Nat)) := [(43, [(0, (.aload_n 0, 1)), (1, (.iload_n 1, 1)), (2, (.invokevirtual 140, 3)), (5, (.ifCond .eq 36, 3)), (41, (.bipush (-2), 2)), (43, (.ireturn, 1))])]
def kt_63 : List (Nat × List (Nat × Instr × Nat)) := [(10, [(0, (.aload_n 0, 1)), (1, (.iload_n 1, 1)), (2, (.invokevirtual 140, 3)), (5, (.ifCond .ne 6, 3)), (8, (.bipush (-2), 2)), (10, (.ireturn, 1))])]
def kt_64 : List (Nat × List (Nat × Instr × Nat)) := [(10, [(0, (.aload_n 0, 1)), (1, (.iload_n 1, 1)), (2, (.invokevirtual 333, 3)), (5, (.ifCond .ne 6, 3)), (8, (.bipush (-2), 2)), (10, (.ireturn, 1))])]
def kt_65 : List (Nat × List (Nat × Instr × Nat)) := [(9, [(0, (.iload_n 1, 1)), (1, (.ifCond .lt 14, 3)), (4, (.iload_n 1, 1)), (5, (.aload_n 0, 1)), (6, (.getfield 40, 3)), (9, (.getfield 111, 3))]), (16, [(12, (.if_icmp .lt 5, 3)), (15, (.iconst (-1), 1)), (16, (.ireturn, 1))])]
def kt_66 : List (Nat × List (Nat × Instr × Nat)) := [(9, [(0, (.aload_n 0, 1)), (1, (.getfield 27, 3)), (4, (.aload_n 0, 1)), (5, (.getfield 9, 3)), (8, (.aload_n 0, 1)), (9, (.getfield 13, 3))]), (23, [(12, (.invokevirtual 98, 3)), (15, (.aload_n 0, 1)), (16, (.aload_n 0, 1)), (17, (.getfield 27, 3)), (20, (.getfield 102, 3)), (23, (.putfield 31, 3))]), (37, [(26, (.aload_n 0, 1)), (27, (.aload_n 0, 1)), (28, (.getfield 27, 3)), (31, (.getfield 105, 3)), (34, (.putfield 34, 3)), (37, (.aload_n 0, 1))]), (52, [(38, (.getfield 31, 3)), (41, (.ifCond .eq 6, 3)), (47, (.aload_n 0, 1)), (48, (.getfield 20, 3)), (51, (.astore_n 1, 1)), (52, (.aload_n 0, 1))]), (64, [(53, (.aload_n 0, 1)), (54, (.getfield 27, 3)), (57, (.getfield 108, 3)), (60, (.putfield 20, 3)), (63, (.aload_n 0, 1)), (64, (.getfield 27, 3))]), (76, [(67, (.aload_n 1, 1)), (68, (.putfield 108, 3)), (71, (.aload_n 0, 1)), (72, (.iconst 0, 1)), (73, (.putfield 13, 3)), (76, (.aload_n 0, 1))]), (88, [(77, (.getfield 40, 3)), (80, (.iconst 0, 1)), (81, (.putfield 111, 3)), (84, (.aload_n 0, 1)), (85, (.invokevirtual 114, 3)), (88, (.aload_n 0, 1))]), (95, [(89, (.getfield 20, 3)), (92, (.getfield 117, 3)), (95, (.ireturn, 1))])]
def kt_67 : List (Nat × List (Nat × Instr × Nat)) := [(17, [(0, (.aload_n 0, 1)), (1, (.iload_n 1, 1)), (2, (.invokevirtual 140, 3)), (5, (.ifCond .eq 10, 3)), (15, (.ldc 164, 2)), (17, (.ireturn, 1))])]
def kt_68 : List (Nat × List (Nat × Instr × Nat)) := [(9, [(0, (.iload_n 1, 1)), (1, (.ifCond .lt 14, 3)), (4, (.iload_n 1, 1)), (5, (.aload_n 0, 1)), (6, (.getfield 40, 3)), (9, (.getfield 111, 3))]), (22, [(12, (.if_icmp .le 6, 3)), (15, (.bipush (-2), 2)), (17, (.ireturn, 1)), (18, (.aload_n 0, 1)), (19, (.getfield 40, 3)), (22, (.dup, 1))]), (32, [(23, (.getfield 111, 3)), (26, (.iload_n 1, 1)), (27, (.isub, 1)), (28, (.putfield 111, 3)), (31, (.aload_n 0, 1)), (32, (.invokevirtual 226, 3))]), (42, [(35, (.aload_n 0, 1)), (36, (.getfield 40, 3)), (39, (.getfield 111, 3)), (42, (.ireturn, 1))])]
def kt_69 : List (Nat × List (Nat × Instr × Nat)) := [(17, [(0, (.aload_n 0, 1)), (1, (.iload_n 1, 1)), (2, (.invokevirtual 140, 3)), (5, (.ifCond .eq 10, 3)), (15, (.bipush (-2), 2)), (17, (.ireturn, 1))])]
def kt_70 : List (Nat × List (Nat × Instr × Nat)) := [(7, [(0, (.iconst 0, 1)), (1, (.istore_n 3, 1)), (2, (.iconst 0, 1)), (3, (.istore 4, 2)), (5, (.iload 4, 2)), (7, (.aload_n 0, 1))]), (41, [(8, (.getfield 20, 3)), (11, (.getfield 131, 3)), (14, (.if_icmp .ge 26, 3)), (40, (.iload_n 3, 1)), (41, (.ireturn, 1))])]
def kt_71 : List (Nat × List (Nat × Instr × Nat)) := [(22, [(0, (.aload_n 0, 1)), (1, (.iload_n 1, 1)), (2, (.invokevirtual 140, 3)), (5, (.ifCond .eq 15, 3)), (20, (.bipush (-2), 2)), (22, (.ireturn, 1))])]
def kt_72 : List (Nat × List (Nat × Instr × Nat)) := [(22, [(0, (.aload_n 0, 1)), (1, (.iload_n 1, 1)), (2, (.invokevirtual 333, 3)), (5, (.ifCond .eq 15, 3)), (20, (.bipush (-2), 2)), (22, (.ireturn, 1))])]
def kt_73 : List (Nat × List (Nat × Instr × Nat)) := [(10, [(0, (.aload_n 0, 1)), (1, (.iload_n 1, 1)), (2, (.invokevirtual 140, 3)), (5, (.ifCond .ne 6, 3)), (8, (.bipush (-2), 2)), (10, (.ireturn, 1))])]
def kt_74 : List (Nat × List (Nat × Instr × Nat)) := [(17, [(0, (.aload_n 0, 1)), (1, (.iload_n 1, 1)), (2, (.invokevirtual 140, 3)), (5, (.ifCond .eq 10, 3)), (15, (.bipush (-2), 2)), (17, (.ireturn, 1))])]
def kt_75 : List (Nat × List (Nat × Instr × Nat)) := [(17, [(0, (.aload_n 0, 1)), (1, (.iload_n 1, 1)), (2, (.invokevirtual 140, 3)), (5, (.ifCond .eq 10, 3)), (15, (.bipush (-2), 2)), (17, (.ireturn, 1))])]
def kt_76 : List (Nat × List (Nat × Instr × Nat)) := [(10, [(0, (.iload_n 1, 1)), (1, (.invokestatic 144, 3)), (4, (.ifCond .ne 6, 3)), (7, (.bipush (-2), 2)), (9, (.ireturn, 1)), (10, (.iconst (-1), 1))]), (17, [(11, (.istore_n 2, 1)), (12, (.iconst 0, 1)), (13, (.istore_n 3, 1)), (14, (.iconst 0, 1)), (15, (.istore 4, 2)), (17, (.iload 4, 2))]), (57, [(19, (.aload_n 0, 1)), (20, (.getfield 20, 3)), (23, (.getfield 131, 3)), (26, (.if_icmp .ge 30, 3)), (56, (.iload_n 2, 1)), (57, (.ireturn, 1))])]
def kt_77 : List (Nat × List (Nat × Instr × Nat)) := [(10, [(0, (.iload_n 1, 1)), (1, (.invokestatic 478, 3)), (4, (.ifCond .ne 6, 3)), (7, (.bipush (-2), 2)), (9, (.ireturn, 1)), (10, (.aload_n 0, 1))]), (20, [(11, (.getfield 82, 3)), (14, (.iload_n 1, 1)), (15, (.aaload, 1)), (16, (.astore 5, 2)), (18, (.aload 5, 2)), (20, (.getfield 469, 3))]), (28, [(23, (.ifCond .ne 6, 3)), (26, (.bipush (-6), 2)), (28, (.ireturn, 1))])]
def kt_78 : List (Nat × List (Nat × Instr × Nat)) := [(7, [(0, (.aload_n 0, 1)), (1, (.iconst 0, 1)), (2, (.putfield 171, 3)), (5, (.aload_n 0, 1)), (6, (.iload_n 1, 1)), (7, (.invokevirtual 390, 3))]), (21, [(10, (.ifCond .eq 10, 3)), (20, (.iconst (-1), 1)), (21, (.ireturn, 1))])]
def kt_79 : List (Nat × List (Nat × Instr × Nat)) := [(7, [(0, (.aload_n 0, 1)), (1, (.iconst 0, 1)), (2, (.putfield 171, 3)), (5, (.aload_n 0, 1)), (6, (.iload_n 1, 1)), (7, (.invokevirtual 390, 3))]), (24, [(10, (.ifCond .eq 11, 3)), (21, (.ldc_w 400, 3)), (24, (.ireturn, 1))])]
def kt_80 : List (Nat × List (Nat × Instr × Nat)) := [(7, [(0, (.aload_n 0, 1)), (1, (.iconst 0, 1)), (2, (.putfield 171, 3)), (5, (.iload_n 1, 1)), (6, (.i2l, 1)), (7, (.lconst 0, 1))]), (20, [(8, (.ldc2_w 430, 3)), (11, (.invokestatic 176, 3)), (14, (.ifCond .ne 6, 3)), (17, (.bipush (-2), 2)), (19, (.ireturn, 1)), (20, (.aload_n 0, 1))]), (31, [(21, (.getfield 122, 3)), (24, (.iload_n 1, 1)), (25, (.baload, 1)), (26, (.ifCond .ne 6, 3)), (29, (.bipush (-6), 2)), (31, (.ireturn, 1))])]
def kt_81 : List (Nat × List (Nat × Instr × Nat)) := [(7, [(0, (.aload_n 0, 1)), (1, (.iconst 0, 1)), (2, (.putfield 171, 3)), (5, (.aload_n 0, 1)), (6, (.iload_n 1, 1)), (7, (.invokevirtual 390, 3))]), (34, [(10, (.ifCond .eq 22, 3)), (32, (.bipush (-2), 2)), (34, (.ireturn, 1))])]
def kt_82 : List (Nat × List (Nat × Instr × Nat)) := [(7, [(0, (.aload_n 0, 1)), (1, (.iconst 0, 1)), (2, (.putfield 223, 3)), (5, (.aload_n 0, 1)), (6, (.iconst (-1), 1)), (7, (.putfield 226, 3))]), (19, [(10, (.aload_n 0, 1)), (11, (.iconst 0, 1)), (12, (.putfield 195, 3)), (15, (.aload_n 0, 1)), (16, (.invokevirtual 233, 3)), (19, (.return_, 1))])]
def kt_83 : List (Nat × List (Nat × Instr × Nat)) := [(7, [(0, (.iconst 0, 1)), (1, (.istore_n 1, 1)), (2, (.iload_n 1, 1)), (3, (.aload_n 0, 1)), (4, (.getfield 34, 3)), (7, (.iconst 0, 1))]), (50, [(8, (.iaload, 1)), (9, (.if_icmp .ge 41, 3)), (50, (.return_, 1))])]
def kt_84 : List (Nat × List (Nat × Instr × Nat)) := [(7, [(0, (.aload_n 0, 1)), (1, (.iconst 0, 1)), (2, (.putfield 171, 3)), (5, (.iload_n 1, 1)), (6, (.i2l, 1)), (7, (.lconst 0, 1))]), (19, [(8, (.ldc2_w 466, 3)), (11, (.invokestatic 176, 3)), (14, (.ifCond .eq 13, 3)), (17, (.iload_n 2, 1)), (18, (.i2l, 1)), (19, (.lconst 0, 1))]), (30, [(20, (.lconst 1, 1)), (21, (.invokestatic 176, 3)), (24, (.ifCond .ne 6, 3)), (27, (.bipush (-2), 2)), (29, (.ireturn, 1)), (30, (.aload_n 0, 1))]), (51, [(31, (.getfield 106, 3)), (34, (.iload_n 2, 1)), (35, (.baload, 1)), (36, (.ifCond .eq 13, 3)), (49, (.bipush (-6), 2)), (51, (.ireturn, 1))])]
def kt_85 : List (Nat × List (Nat × Instr × Nat)) := [(7, [(0, (.aload_n 0, 1)), (1, (.iconst 0, 1)), (2, (.putfield 171, 3)), (5, (.aload_n 0, 1)), (6, (.iload_n 1, 1)), (7, (.invokevirtual 390, 3))]), (33, [(10, (.ifCond .eq 21, 3)), (31, (.bipush (-2), 2)), (33, (.ireturn, 1))])]
def kt_86 : List (Nat × List (Nat × Instr × Nat)) := [(7, [(0, (.aload_n 0, 1)), (1, (.iconst 0, 1)), (2, (.putfield 171, 3)), (5, (.aload_n 0, 1)), (6, (.iload_n 1, 1)), (7, (.invokevirtual 390, 3))]), (32, [(10, (.ifCond .eq 19, 3)), (29, (.ldc_w 400, 3)), (32, (.ireturn, 1))])]
def kt_87 : List (Nat × List (Nat × Instr × Nat)) := [(7, [(0, (.aload_n 0, 1)), (1, (.iconst 0, 1)), (2, (.putfield 171, 3)), (5, (.aload_n 0, 1)), (6, (.iload_n 1, 1)), (7, (.invokevirtual 390, 3))]), (19, [(10, (.ifCond .eq 7, 3)), (17, (.bipush (-2), 2)), (19, (.ireturn, 1))])]
def kt_88 : List (Nat × List (Nat × Instr × Nat)) := [(7, [(0, (.aload_n 0, 1)), (1, (.invokevirtual 457, 3)), (4, (.iconst 0, 1)), (5, (.istore_n 1, 1)), (6, (.iload_n 1, 1)), (7, (.aload_n 0, 1))]), (34, [(8, (.getfield 34, 3)), (11, (.iconst 0, 1)), (12, (.iaload, 1)), (13, (.if_icmp .ge 20, 3)), (33, (.iconst 1, 1)), (34, (.ireturn, 1))])]
def kt_89 : List (Nat × List (Nat × Instr × Nat)) := [(7, [(0, (.aload_n 0, 1)), (1, (.iconst 0, 1)), (2, (.putfield 171, 3)), (5, (.iload_n 1, 1)), (6, (.i2l, 1)), (7, (.lconst 0, 1))]), (21, [(8, (.ldc2_w 539, 3)), (11, (.invokestatic 176, 3)), (14, (.ifCond .eq 10, 3)), (17, (.iload_n 2, 1)), (18, (.invokestatic 393, 3)), (21, (.ifCond .ne 6, 3))]), (30, [(24, (.bipush (-2), 2)), (26, (.ireturn, 1)), (27, (.aload_n 0, 1)), (28, (.iload_n 2, 1)), (29, (.iconst 1, 1)), (30, (.invokevirtual 396, 3))]), (39, [(33, (.iconst 0, 1)), (34, (.istore_n 3, 1)), (35, (.lconst 0, 1)), (36, (.lstore 4, 2)), (38, (.iconst 0, 1)), (39, (.istore 6, 2))]), (48, [(41, (.iconst 1, 1)), (42, (.istore 7, 2)), (44, (.iload 7, 2)), (46, (.iconst 1, 1)), (47, (.aload_n 0, 1)), (48, (.getfield 34, 3))]), (178, [(51, (.iconst 0, 1)), (52, (.iaload, 1)), (53, (.ishl, 1)), (54, (.if_icmp .ge 123, 3)), (177, (.iload_n 3, 1)), (178, (.ireturn, 1))])]
def kt_90 : List (Nat × List (Nat × Instr × Nat)) := [(9, [(0, (.aload_n 0, 1)), (1, (.getfield 134, 3)), (4, (.iload_n 2, 1)), (5, (.aload_n 0, 1)), (6, (.getfield 134, 3)), (9, (.iload_n 1, 1))]), (15, [(10, (.iaload, 1)), (11, (.iastore, 1)), (12, (.iconst 0, 1)), (13, (.istore_n 3, 1)), (14, (.iload_n 3, 1)), (15, (.aload_n 0, 1))]), (118, [(16, (.getfield 134, 3)), (19, (.iload_n 1, 1)), (20, (.iaload, 1)), (21, (.if_icmp .ge 97, 3)), (118, (.return_, 1))])]
def kt_91_b0 : List (Nat × Instr × Nat) := [(0, (.aload_n 0, 1)), (1, (.getfield 31, 3)), (4, (.iload_n 2, 1)), (5, (.aload_n 0, 1)), (6, (.getfield 31, 3)), (9, (.iload_n 1, 1)), (10, (.iaload, 1)), (11, (.iastore, 1)), (12, (.aload_n 0, 1)), (13, (.getfield 34, 3)), (16, (.iload_n 2, 1)), (17, (.aload_n 0, 1)), (18, (.getfield 34, 3)), (21, (.iload_n 1, 1)), (22, (.iaload, 1)), (23, (.iastore, 1)), (24, (.aload_n 0, 1)), (25, (.getfield 64, 3)), (28, (.iload_n 2, 1))]
def kt_91_b1 : List (Nat × Instr × Nat) := [(29, (.aload_n 0, 1)), (30, (.getfield 64, 3)), (33, (.iload_n 1, 1)), (34, (.iaload, 1)), (35, (.iastore, 1)), (36, (.iconst 0, 1)), (37, (.istore_n 3, 1)), (38, (.iload_n 3, 1)), (39, (.bipush 12, 2)), (41, (.if_icmp .ge 179, 3)), (44, (.bipush 12, 2)), (46, (.iload_n 1, 1)), (47, (.imul, 1)), (48, (.iload_n 3, 1)), (49, (.iadd, 1)), (50, (.istore 4, 2)), (52, (.bipush 12, 2)), (54, (.iload_n 2, 1)), (55, (.imul, 1))]
def kt_91_b2 : List (Nat × Instr × Nat) := [(56, (.iload_n 3, 1)), (57, (.iadd, 1)), (58, (.istore 5, 2)), (60, (.aload_n 0, 1)), (61, (.getfield 37, 3)), (64, (.iload 5, 2)), (66, (.aload_n 0, 1)), (67, (.getfield 37, 3)), (70, (.iload 4, 2)), (72, (.iaload, 1)), (73, (.iastore, 1)), (74, (.aload_n 0, 1)), (75, (.getfield 40, 3)), (78, (.iload 5, 2)), (80, (.aload_n 0, 1)), (81, (.getfield 40, 3)), (84, (.iload 4, 2)), (86, (.iaload, 1)), (87, (.iastore, 1))]
def kt_91_b3 : List (Nat × Instr × Nat) := [(88, (.aload_n 0, 1)), (89, (.getfield 43, 3)), (92, (.iload 5, 2)), (94, (.aload_n 0, 1)), (95, (.getfield 43, 3)), (98, (.iload 4, 2)), (100, (.iaload, 1)), (101, (.iastore, 1)), (102, (.aload_n 0, 1)), (103, (.getfield 46, 3)), (106, (.iload 5, 2)), (108, (.aload_n 0, 1)), (109, (.getfield 46, 3)), (112, (.iload 4, 2)), (114, (.iaload, 1)), (115, (.iastore, 1)), (116, (.aload_n 0, 1)), (117, (.getfield 49, 3)), (120, (.iload 5, 2))]
def kt_91_b4 : List (Nat × Instr × Nat) := [(122, (.aload_n 0, 1)), (123, (.getfield 49, 3)), (126, (.iload 4, 2)), (128, (.iaload, 1)), (129, (.iastore, 1)), (130, (.aload_n 0, 1)), (131, (.getfield 52, 3)), (134, (.iload 5, 2)), (136, (.aload_n 0, 1)), (137, (.getfield 52, 3)), (140, (.iload 4, 2)), (142, (.iaload, 1)), (143, (.iastore, 1)), (144, (.aload_n 0, 1)), (145, (.getfield 55, 3)), (148, (.iload 5, 2)), (150, (.aload_n 0, 1)), (151, (.getfield 55, 3)), (154, (.iload 4, 2))]
def kt_91_b5 : List (Nat × Instr × Nat) := [(156, (.iaload, 1)), (157, (.iastore, 1)), (158, (.aload_n 0, 1)), (159, (.getfield 58, 3)), (162, (.iload 5, 2)), (164, (.aload_n 0, 1)), (165, (.getfield 58, 3)), (168, (.iload 4, 2)), (170, (.iaload, 1)), (171, (.iastore, 1)), (172, (.aload_n 0, 1)), (173, (.getfield 61, 3)), (176, (.iload 5, 2)), (178, (.aload_n 0, 1)), (179, (.getfield 61, 3)), (182, (.iload 4, 2)), (184, (.iaload, 1)), (185, (.iastore, 1)), (186, (.aload_n 0, 1))]
def kt_91_b6 : List (Nat × Instr × Nat) := [(187, (.getfield 100, 3)), (190, (.iload 5, 2)), (192, (.aload_n 0, 1)), (193, (.getfield 100, 3)), (196, (.iload 4, 2)), (198, (.iaload, 1)), (199, (.iastore, 1)), (200, (.aload_n 0, 1)), (201, (.getfield 103, 3)), (204, (.iload 5, 2)), (206, (.aload_n 0, 1)), (207, (.getfield 103, 3)), (210, (.iload 4, 2)), (212, (.iaload, 1)), (213, (.iastore, 1)), (214, (.iinc 3 1, 3)), (217, (.goto (-179), 3)), (220, (.aload_n 0, 1)), (221, (.getfield 76, 3))]
def kt_91_b7 : List (Nat × Instr × Nat) := [(224, (.iload_n 2, 1)), (225, (.aload_n 0, 1)), (226, (.getfield 76, 3)), (229, (.iload_n 1, 1)), (230, (.iaload, 1)), (231, (.iastore, 1)), (232, (.aload_n 0, 1)), (233, (.getfield 88, 3)), (236, (.iload_n 2, 1)), (237, (.aload_n 0, 1)), (238, (.getfield 88, 3)), (241, (.iload_n 1, 1)), (242, (.iaload, 1)), (243, (.iastore, 1)), (244, (.iconst 0, 1)), (245, (.istore_n 3, 1)), (246, (.iload_n 3, 1)), (247, (.bipush 6, 2)), (249, (.if_icmp .ge 207, 3))]
def kt_91_b8 : List (Nat × Instr × Nat) := [(252, (.aload_n 0, 1)), (253, (.getfield 67, 3)), (256, (.bipush 6, 2)), (258, (.iload_n 2, 1)), (259, (.imul, 1)), (260, (.iload_n 3, 1)), (261, (.iadd, 1)), (262, (.aload_n 0, 1)), (263, (.getfield 67, 3)), (266, (.bipush 6, 2)), (268, (.iload_n 1, 1)), (269, (.imul, 1)), (270, (.iload_n 3, 1)), (271, (.iadd, 1)), (272, (.iaload, 1)), (273, (.iastore, 1)), (274, (.aload_n 0, 1)), (275, (.getfield 70, 3)), (278, (.bipush 6, 2))]
def kt_91_b9 : List (Nat × Instr × Nat) := [(280, (.iload_n 2, 1)), (281, (.imul, 1)), (282, (.iload_n 3, 1)), (283, (.iadd, 1)), (284, (.aload_n 0, 1)), (285, (.getfield 70, 3)), (288, (.bipush 6, 2)), (290, (.iload_n 1, 1)), (291, (.imul, 1)), (292, (.iload_n 3, 1)), (293, (.iadd, 1)), (294, (.iaload, 1)), (295, (.iastore, 1)), (296, (.aload_n 0, 1)), (297, (.getfield 73, 3)), (300, (.bipush 6, 2)), (302, (.iload_n 2, 1)), (303, (.imul, 1)), (304, (.iload_n 3, 1))]
def kt_91_b10 : List (Nat × Instr × Nat) := [(305, (.iadd, 1)), (306, (.aload_n 0, 1)), (307, (.getfield 73, 3)), (310, (.bipush 6, 2)), (312, (.iload_n 1, 1)), (313, (.imul, 1)), (314, (.iload_n 3, 1)), (315, (.iadd, 1)), (316, (.iaload, 1)), (317, (.iastore, 1)), (318, (.aload_n 0, 1)), (319, (.getfield 79, 3)), (322, (.bipush 6, 2)), (324, (.iload_n 2, 1)), (325, (.imul, 1)), (326, (.iload_n 3, 1)), (327, (.iadd, 1)), (328, (.aload_n 0, 1)), (329, (.getfield 79, 3))]
def kt_91_b11 : List (Nat × Instr × Nat) := [(332, (.bipush 6, 2)), (334, (.iload_n 1, 1)), (335, (.imul, 1)), (336, (.iload_n 3, 1)), (337, (.iadd, 1)), (338, (.iaload, 1)), (339, (.iastore, 1)), (340, (.aload_n 0, 1)), (341, (.getfield 82, 3)), (344, (.bipush 6, 2)), (346, (.iload_n 2, 1)), (347, (.imul, 1)), (348, (.iload_n 3, 1)), (349, (.iadd, 1)), (350, (.aload_n 0, 1)), (351, (.getfield 82, 3)), (354, (.bipush 6, 2)), (356, (.iload_n 1, 1)), (357, (.imul, 1))]
def kt_91_b12 : List (Nat × Instr × Nat) := [(358, (.iload_n 3, 1)), (359, (.iadd, 1)), (360, (.iaload, 1)), (361, (.iastore, 1)), (362, (.aload_n 0, 1)), (363, (.getfield 85, 3)), (366, (.bipush 6, 2)), (368, (.iload_n 2, 1)), (369, (.imul, 1)), (370, (.iload_n 3, 1)), (371, (.iadd, 1)), (372, (.aload_n 0, 1)), (373, (.getfield 85, 3)), (376, (.bipush 6, 2)), (378, (.iload_n 1, 1)), (379, (.imul, 1)), (380, (.iload_n 3, 1)), (381, (.iadd, 1)), (382, (.iaload, 1))]
def kt_91_b13 : List (Nat × Instr × Nat) := [(383, (.iastore, 1)), (384, (.aload_n 0, 1)), (385, (.getfield 91, 3)), (388, (.bipush 6, 2)), (390, (.iload_n 2, 1)), (391, (.imul, 1)), (392, (.iload_n 3, 1)), (393, (.iadd, 1)), (394, (.aload_n 0, 1)), (395, (.getfield 91, 3)), (398, (.bipush 6, 2)), (400, (.iload_n 1, 1)), (401, (.imul, 1)), (402, (.iload_n 3, 1)), (403, (.iadd, 1)), (404, (.iaload, 1)), (405, (.iastore, 1)), (406, (.aload_n 0, 1)), (407, (.getfield 94, 3))]
def kt_91_b14 : List (Nat × Instr × Nat) := [(410, (.bipush 6, 2)), (412, (.iload_n 2, 1)), (413, (.imul, 1)), (414, (.iload_n 3, 1)), (415, (.iadd, 1)), (416, (.aload_n 0, 1)), (417, (.getfield 94, 3)), (420, (.bipush 6, 2)), (422, (.iload_n 1, 1)), (423, (.imul, 1)), (424, (.iload_n 3, 1)), (425, (.iadd, 1)), (426, (.iaload, 1)), (427, (.iastore, 1)), (428, (.aload_n 0, 1)), (429, (.getfield 97, 3)), (432, (.bipush 6, 2)), (434, (.iload_n 2, 1)), (435, (.imul, 1))]
def kt_91_b15 : List (Nat × Instr × Nat) := [(436, (.iload_n 3, 1)), (437, (.iadd, 1)), (438, (.aload_n 0, 1)), (439, (.getfield 97, 3)), (442, (.bipush 6, 2)), (444, (.iload_n 1, 1)), (445, (.imul, 1)), (446, (.iload_n 3, 1)), (447, (.iadd, 1)), (448, (.iaload, 1)), (449, (.iastore, 1)), (450, (.iinc 3 1, 3)), (453, (.goto (-207), 3)), (456, (.iconst 0, 1)), (457, (.istore_n 3, 1)), (458, (.iload_n 3, 1)), (459, (.iconst 2, 1)), (460, (.if_icmp .ge 109, 3)), (463, (.aload_n 0, 1))]
def kt_91_b16 : List (Nat × Instr × Nat) := [(464, (.getfield 106, 3)), (467, (.iconst 2, 1)), (468, (.iload_n 2, 1)), (469, (.imul, 1)), (470, (.iload_n 3, 1)), (471, (.iadd, 1)), (472, (.aload_n 0, 1)), (473, (.getfield 106, 3)), (476, (.iconst 2, 1)), (477, (.iload_n 1, 1)), (478, (.imul, 1)), (479, (.iload_n 3, 1)), (480, (.iadd, 1)), (481, (.baload, 1)), (482, (.bastore, 1)), (483, (.aload_n 0, 1)), (484, (.getfield 110, 3)), (487, (.iconst 2, 1)), (488, (.iload_n 2, 1))]
def kt_91_b17 : List (Nat × Instr × Nat) := [(489, (.imul, 1)), (490, (.iload_n 3, 1)), (491, (.iadd, 1)), (492, (.aload_n 0, 1)), (493, (.getfield 110, 3)), (496, (.iconst 2, 1)), (497, (.iload_n 1, 1)), (498, (.imul, 1)), (499, (.iload_n 3, 1)), (500, (.iadd, 1)), (501, (.iaload, 1)), (502, (.iastore, 1)), (503, (.aload_n 0, 1)), (504, (.getfield 113, 3)), (507, (.iconst 2, 1)), (508, (.iload_n 2, 1)), (509, (.imul, 1)), (510, (.iload_n 3, 1)), (511, (.iadd, 1))]
def kt_91_b18 : List (Nat × Instr × Nat) := [(512, (.aload_n 0, 1)), (513, (.getfield 113, 3)), (516, (.iconst 2, 1)), (517, (.iload_n 1, 1)), (518, (.imul, 1)), (519, (.iload_n 3, 1)), (520, (.iadd, 1)), (521, (.iaload, 1)), (522, (.iastore, 1)), (523, (.aload_n 0, 1)), (524, (.getfield 116, 3)), (527, (.iconst 2, 1)), (528, (.iload_n 2, 1)), (529, (.imul, 1)), (530, (.iload_n 3, 1)), (531, (.iadd, 1)), (532, (.aload_n 0, 1)), (533, (.getfield 116, 3)), (536, (.iconst 2, 1))]
def kt_91_b19 : List (Nat × Instr × Nat) := [(537, (.iload_n 1, 1)), (538, (.imul, 1)), (539, (.iload_n 3, 1)), (540, (.iadd, 1)), (541, (.iaload, 1)), (542, (.iastore, 1)), (543, (.aload_n 0, 1)), (544, (.getfield 119, 3)), (547, (.iconst 2, 1)), (548, (.iload_n 2, 1)), (549, (.imul, 1)), (550, (.iload_n 3, 1)), (551, (.iadd, 1)), (552, (.aload_n 0, 1)), (553, (.getfield 119, 3)), (556, (.iconst 2, 1)), (557, (.iload_n 1, 1)), (558, (.imul, 1)), (559, (.iload_n 3, 1))]
def kt_91_b20 : List (Nat × Instr × Nat) := [(560, (.iadd, 1)), (561, (.iaload, 1)), (562, (.iastore, 1)), (563, (.iinc 3 1, 3)), (566, (.goto (-108), 3)), (569, (.return_, 1))]
def kt_91 : List (Nat × List (Nat × Instr × Nat)) := [(28, kt_91_b0), (55, kt_91_b1), (87, kt_91_b2), (120, kt_91_b3), (154, kt_91_b4), (186, kt_91_b5), (221, kt_91_b6), (249, kt_91_b7), (278, kt_91_b8), (304, kt_91_b9), (329, kt_91_b10), (357, kt_91_b11), (382, kt_91_b12), (407, kt_91_b13), (435, kt_91_b14), (463, kt_91_b15), (488, kt_91_b16), (511, kt_91_b17), (536, kt_91_b18), (559, kt_91_b19), (569, kt_91_b20)]
def kt_92 : List (Nat × List (Nat × Instr × Nat)) := [(52, [(0, (.aload_n 0, 1)), (1, (.iconst 0, 1)), (2, (.putfield 171, 3)), (5, (.iconst 0, 1)), (6, (.istore_n 2, 1)), (7, (.iload_n 1, 1)), (8, (.tableswitch 140 0 6 #[44, 51, 58, 65, 95, 102, 107], 44)), (52, (.aload_n 0, 1))]), (64, [(53, (.getfield 34, 3)), (56, (.iconst 0, 1)), (57, (.iaload, 1)), (58, (.ireturn, 1)), (59, (.aload_n 0, 1)), (60, (.getfield 64, 3)), (63, (.iconst 0, 1)), (64, (.iaload, 1))]), (74, [(65, (.ireturn, 1)), (66, (.aload_n 0, 1)), (67, (.getfield 134, 3)), (70, (.iconst 0, 1)), (71, (.iaload, 1)), (72, (.ireturn, 1)), (73, (.aload_n 0, 1)), (74, (.getfield 106, 3))]), (92, [(77, (.iconst 0, 1)), (78, (.baload, 1)), (79, (.ifCond .eq 7, 3)), (86, (.iconst 0, 1)), (87, (.aload_n 0, 1)), (88, (.getfield 106, 3)), (91, (.iconst 1, 1)), (92, (.baload, 1))]), (108, [(93, (.ifCond .eq 7, 3)), (100, (.iconst 0, 1)), (101, (.iadd, 1)), (102, (.ireturn, 1)), (103, (.aload_n 0, 1)), (104, (.getfield 31, 3)), (107, (.iconst 0, 1)), (108, (.iaload, 1))]), (118, [(109, (.ireturn, 1)), (110, (.aload_n 0, 1)), (111, (.getfield 188, 3)), (114, (.ireturn, 1)), (115, (.iconst 0, 1)), (116, (.istore_n 3, 1)), (117, (.iload_n 3, 1)), (118, (.iconst 4, 1))]), (130, [(119, (.if_icmp .ge 27, 3)), (122, (.iload_n 2, 1)), (123, (.aload_n 0, 1)), (124, (.getfield 7, 3)), (127, (.iload_n 3, 1)), (128, (.iaload, 1)), (129, (.iconst (-1), 1)), (130, (.if_icmp .ne 7, 3))]), (147, [(133, (.iconst 0, 1)), (134, (.goto 4, 3)), (138, (.iadd, 1)), (139, (.istore_n 2, 1)), (140, (.iinc 3 1, 3)), (143, (.goto (-26), 3)), (146, (.iload_n 2, 1)), (147, (.ireturn, 1))]), (149, [(148, (.iconst (-1), 1)), (149, (.ireturn, 1))])]
def kt_93 : List (Nat × List (Nat × Instr × Nat)) := [(7, [(0, (.aload_n 0, 1)), (1, (.iconst 0, 1)), (2, (.putfield 171, 3)), (5, (.aload_n 0, 1)), (6, (.iload_n 1, 1)), (7, (.invokevirtual 390, 3))]), (19, [(10, (.ifCond .eq 7, 3)), (17, (.bipush (-2), 2)), (19, (.ireturn, 1))])]
def kt_94 : List (Nat × List (Nat × Instr × Nat)) := [(7, [(0, (.aload_n 0, 1)), (1, (.iconst 0, 1)), (2, (.putfield 171, 3)), (5, (.iload_n 1, 1)), (6, (.i2l, 1)), (7, (.lconst 0, 1))]), (21, [(8, (.ldc2_w 523, 3)), (11, (.invokestatic 176, 3)), (14, (.ifCond .eq 10, 3)), (17, (.iload_n 2, 1)), (18, (.invokestatic 393, 3)), (21, (.ifCond .ne 6, 3))]), (30, [(24, (.bipush (-2), 2)), (26, (.ireturn, 1)), (27, (.iconst 0, 1)), (28, (.istore_n 3, 1)), (29, (.iconst 0, 1)), (30, (.istore 4, 2))]), (40, [(32, (.iload 4, 2)), (34, (.aload_n 0, 1)), (35, (.getfield 34, 3)), (38, (.iconst 0, 1)), (39, (.iaload, 1)), (40, (.if_icmp .ge 31, 3))]), (72, [(71, (.iload_n 3, 1)), (72, (.ireturn, 1))])]
def kt_95 : List (Nat × List (Nat × Instr × Nat)) := [(7, [(0, (.aload_n 0, 1)), (1, (.iconst 0, 1)), (2, (.putfield 171, 3)), (5, (.iload_n 1, 1)), (6, (.i2l, 1)), (7, (.lconst 0, 1))]), (19, [(8, (.aload_n 0, 1)), (9, (.getfield 188, 3)), (12, (.i2l, 1)), (13, (.invokestatic 176, 3)), (16, (.ifCond .ne 5, 3)), (19, (.iconst (-1), 1))]), (27, [(20, (.ireturn, 1)), (21, (.aload_n 0, 1)), (22, (.iload_n 1, 1)), (23, (.putfield 188, 3)), (26, (.iload_n 1, 1)), (27, (.ireturn, 1))])]
def kt_96 : List (Nat × List (Nat × Instr × Nat)) := [(8, [(0, (.aload_n 0, 1)), (1, (.iconst 0, 1)), (2, (.putfield 171, 3)), (5, (.iload_n 1, 1)), (6, (.i2l, 1)), (7, (.lconst 0, 1)), (8, (.ldc2_w 430, 3))]), (23, [(11, (.invokestatic 176, 3)), (14, (.ifCond .eq 15, 3)), (17, (.iload_n 2, 1)), (18, (.i2l, 1)), (19, (.lconst 0, 1)), (20, (.ldc2_w 174, 3)), (23, (.invokestatic 176, 3))]), (35, [(26, (.ifCond .ne 6, 3)), (29, (.bipush (-2), 2)), (31, (.ireturn, 1)), (32, (.iconst 0, 1)), (33, (.istore_n 3, 1)), (34, (.iconst 0, 1)), (35, (.istore 4, 2))]), (47, [(37, (.iconst 0, 1)), (38, (.istore 5, 2)), (40, (.iconst 0, 1)), (41, (.istore 6, 2)), (43, (.aload_n 0, 1)), (44, (.invokevirtual 415, 3)), (47, (.iconst 0, 1))]), (61, [(48, (.istore 7, 2)), (50, (.iload 7, 2)), (52, (.sipush 730, 3)), (55, (.if_icmp .ge 175, 3)), (58, (.aload_n 0, 1)), (59, (.iload 7, 2)), (61, (.invokevirtual 418, 3))]), (74, [(64, (.iconst 0, 1)), (65, (.istore 8, 2)), (67, (.iload 8, 2)), (69, (.aload_n 0, 1)), (70, (.getfield 134, 3)), (73, (.iconst 0, 1)), (74, (.iaload, 1))]), (235, [(75, (.if_icmp .ge 149, 3)), (224, (.iinc 7 1, 3)), (227, (.goto (-177), 3)), (230, (.iload_n 2, 1)), (231, (.ifCond .ne 7, 3)), (234, (.iload_n 3, 1)), (235, (.goto 25, 3))]), (249, [(238, (.iload_n 2, 1)), (239, (.iconst 1, 1)), (240, (.if_icmp .ne 8, 3)), (243, (.iload 4, 2)), (245, (.goto 15, 3)), (248, (.iload_n 2, 1)), (249, (.iconst 2, 1))]), (260, [(250, (.if_icmp .ne 8, 3)), (253, (.iload 5, 2)), (255, (.goto 5, 3)), (258, (.iload 6, 2)), (260, (.ireturn, 1))])]
def kt_97 : List (Nat × List (Nat × Instr × Nat)) := [(9, [(0, (.aload_n 0, 1)), (1, (.iconst 0, 1)), (2, (.putfield 171, 3)), (5, (.iload_n 1, 1)), (6, (.ifCond .ne 10, 3)), (9, (.aload_n 0, 1))]), (21, [(10, (.getfield 250, 3)), (13, (.goto 16, 3)), (16, (.iload_n 1, 1)), (17, (.iconst 1, 1)), (18, (.if_icmp .ne 10, 3)), (21, (.aload_n 0, 1))]), (29, [(22, (.getfield 27, 3)), (25, (.goto 4, 3)), (28, (.iconst (-1), 1)), (29, (.ireturn, 1))])]
def kt_98 : List (Nat × List (Nat × Instr × Nat)) := [(9, [(0, (.aload_n 0, 1)), (1, (.iconst 0, 1)), (2, (.putfield 171, 3)), (5, (.aload_n 0, 1)), (6, (.getfield 188, 3)), (9, (.bipush 20, 2))]), (22, [(11, (.iadd, 1)), (12, (.sipush 1200, 3)), (15, (.if_icmp .le 5, 3)), (20, (.aload_n 0, 1)), (21, (.iload_n 1, 1)), (22, (.invokevirtual 191, 3))]), (32, [(25, (.aload_n 0, 1)), (26, (.iload_n 2, 1)), (27, (.invokevirtual 191, 3)), (30, (.aload_n 0, 1)), (31, (.iload_n 3, 1)), (32, (.invokevirtual 191, 3))]), (44, [(35, (.aload_n 0, 1)), (36, (.iload 4, 2)), (38, (.invokevirtual 191, 3)), (41, (.aload_n 0, 1)), (42, (.iload 5, 2)), (44, (.invokevirtual 191, 3))]), (51, [(47, (.aload_n 0, 1)), (48, (.getfield 188, 3)), (51, (.ireturn, 1))])]
def kt_99 : List (Nat × List (Nat × Instr × Nat)) := [(9, [(0, (.aload_n 0, 1)), (1, (.iconst 0, 1)), (2, (.putfield 171, 3)), (5, (.aload_n 0, 1)), (6, (.invokevirtual 460, 3)), (9, (.ifCond .ne 5, 3))]), (19, [(14, (.iconst 0, 1)), (15, (.istore_n 1, 1)), (16, (.iconst 0, 1)), (17, (.istore_n 2, 1)), (18, (.iload_n 2, 1)), (19, (.aload_n 0, 1))]), (55, [(20, (.getfield 34, 3)), (23, (.iconst 0, 1)), (24, (.iaload, 1)), (25, (.if_icmp .ge 29, 3)), (54, (.iload_n 1, 1)), (55, (.ireturn, 1))])]
def kt_100 : List (Nat × List (Nat × Instr × Nat)) := [(7, [(0, (.aload_n 0, 1)), (1, (.iconst 0, 1)), (2, (.putfield 171, 3)), (5, (.aload_n 0, 1)), (6, (.iload_n 1, 1)), (7, (.invokevirtual 390, 3))]), (15, [(10, (.ifCond .ne 6, 3)), (13, (.bipush (-2), 2)), (15, (.ireturn, 1))])]
def kt_101 : List (Nat × List (Nat × Instr × Nat)) := [(7, [(0, (.iconst 0, 1)), (1, (.istore_n 1, 1)), (2, (.iload_n 1, 1)), (3, (.aload_n 0, 1)), (4, (.getfield 34, 3)), (7, (.iconst 0, 1))]), (31, [(8, (.iaload, 1)), (9, (.if_icmp .ge 17, 3)), (26, (.aload_n 0, 1)), (27, (.invokevirtual 415, 3)), (30, (.iconst 0, 1)), (31, (.istore_n 1, 1))]), (41, [(32, (.iload_n 1, 1)), (33, (.sipush 730, 3)), (36, (.if_icmp .ge 109, 3)), (39, (.aload_n 0, 1)), (40, (.iload_n 1, 1)), (41, (.invokevirtual 418, 3))]), (51, [(44, (.iconst 0, 1)), (45, (.istore_n 2, 1)), (46, (.iload_n 2, 1)), (47, (.aload_n 0, 1)), (48, (.getfield 134, 3)), (51, (.iconst 0, 1))]), (145, [(52, (.iaload, 1)), (53, (.if_icmp .ge 86, 3)), (139, (.iinc 1 1, 3)), (142, (.goto (-110), 3)), (145, (.return_, 1))])]
def kt_102 : List (Nat × List (Nat × Instr × Nat)) := [(7, [(0, (.aload_n 0, 1)), (1, (.iconst 0, 1)), (2, (.putfield 171, 3)), (5, (.aload_n 0, 1)), (6, (.iload_n 1, 1)), (7, (.invokevirtual 390, 3))]), (34, [(10, (.ifCond .eq 22, 3)), (32, (.bipush (-2), 2)), (34, (.ireturn, 1))])]
def kt_103 : List (Nat × List (Nat × Instr × Nat)) := [(7, [(0, (.iconst 0, 1)), (1, (.istore_n 3, 1)), (2, (.iload_n 3, 1)), (3, (.aload_n 0, 1)), (4, (.getfield 34, 3)), (7, (.iconst 0, 1))]), (43, [(8, (.iaload, 1)), (9, (.if_icmp .ge 29, 3)), (38, (.aload_n 0, 1)), (39, (.getfield 34, 3)), (42, (.iconst 0, 1)), (43, (.iaload, 1))]), (95, [(44, (.iconst 1, 1)), (45, (.isub, 1)), (46, (.istore_n 3, 1)), (47, (.iload_n 3, 1)), (48, (.ifCond .le 47, 3)), (95, (.return_, 1))])]
def kt_104 : List (Nat × List (Nat × Instr × Nat)) := [(8, [(0, (.bipush 24, 2)), (2, (.istore_n 2, 1)), (3, (.iload_n 2, 1)), (4, (.ifCond .lt 32, 3)), (7, (.aload_n 0, 1)), (8, (.getfield 23, 3))]), (18, [(11, (.aload_n 0, 1)), (12, (.getfield 188, 3)), (15, (.iload_n 1, 1)), (16, (.iload_n 2, 1)), (17, (.ishr, 1)), (18, (.i2b, 1))]), (26, [(19, (.bastore, 1)), (20, (.aload_n 0, 1)), (21, (.dup, 1)), (22, (.getfield 188, 3)), (25, (.iconst 1, 1)), (26, (.iadd, 1))]), (36, [(27, (.putfield 188, 3)), (30, (.iinc 2 (-8), 3)), (33, (.goto (-30), 3)), (36, (.return_, 1))])]
def kt_105 : List (Nat × List (Nat × Instr × Nat)) := [(7, [(0, (.aload_n 0, 1)), (1, (.iconst 0, 1)), (2, (.putfield 171, 3)), (5, (.aload_n 0, 1)), (6, (.iload_n 1, 1)), (7, (.invokevirtual 390, 3))]), (25, [(10, (.ifCond .eq 13, 3)), (23, (.bipush (-2), 2)), (25, (.ireturn, 1))])]
def kt_106 : List (Nat × List (Nat × Instr × Nat)) := [(7, [(0, (.aload_n 0, 1)), (1, (.invokevirtual 415, 3)), (4, (.iconst 0, 1)), (5, (.istore_n 2, 1)), (6, (.iload_n 2, 1)), (7, (.iload_n 1, 1))]), (19, [(8, (.if_icmp .gt 14, 3)), (11, (.aload_n 0, 1)), (12, (.iload_n 2, 1)), (13, (.invokevirtual 418, 3)), (16, (.iinc 2 1, 3)), (19, (.goto (-13), 3))]), (22, [(22, (.return_, 1))])]
def kt_107 : List (Nat × List (Nat × Instr × Nat)) := [(7, [(0, (.aload_n 0, 1)), (1, (.iconst 0, 1)), (2, (.putfield 171, 3)), (5, (.aload_n 0, 1)), (6, (.iload_n 1, 1)), (7, (.invokevirtual 390, 3))]), (22, [(10, (.ifCond .eq 10, 3)), (20, (.bipush (-2), 2)), (22, (.ireturn, 1))])]
def kt_108 : List (Nat × List (Nat × Instr × Nat)) := [(7, [(0, (.lload_n 0, 1)), (1, (.lload_n 2, 1)), (2, (.lcmp, 1)), (3, (.ifCond .lt 14, 3)), (6, (.lload_n 0, 1)), (7, (.lload 4, 2))]), (18, [(9, (.lcmp, 1)), (10, (.ifCond .gt 7, 3)), (13, (.iconst 1, 1)), (14, (.goto 4, 3)), (17, (.iconst 0, 1)), (18, (.ireturn, 1))])]
def kt_109_b0 : List (Nat × Instr × Nat) := [(0, (.aload_n 0, 1)), (1, (.invokespecial 1, 3)), (4, (.aload_n 0, 1)), (5, (.iconst 4, 1)), (6, (.newarray .int, 2)), (8, (.putfield 7, 3)), (11, (.aload_n 0, 1)), (12, (.iconst 4, 1)), (13, (.newarray .int, 2)), (15, (.putfield 13, 3)), (18, (.aload_n 0, 1)), (19, (.sipush 240, 3)), (22, (.newarray .long, 2)), (24, (.putfield 16, 3))]
def kt_109_b1 : List (Nat × Instr × Nat) := [(27, (.aload_n 0, 1)), (28, (.bipush 60, 2)), (30, (.newarray .long, 2)), (32, (.putfield 20, 3)), (35, (.aload_n 0, 1)), (36, (.sipush 1200, 3)), (39, (.newarray .byte, 2)), (41, (.putfield 23, 3)), (44, (.aload_n 0, 1)), (45, (.iconst (-1), 1)), (46, (.putfield 27, 3)), (49, (.aload_n 0, 1)), (50, (.iconst 5, 1)), (51, (.newarray .int, 2))]
def kt_109_b2 : List (Nat × Instr × Nat) := [(53, (.putfield 31, 3)), (56, (.aload_n 0, 1)), (57, (.iconst 5, 1)), (58, (.newarray .int, 2)), (60, (.putfield 34, 3)), (63, (.aload_n 0, 1)), (64, (.bipush 60, 2)), (66, (.newarray .int, 2)), (68, (.putfield 37, 3)), (71, (.aload_n 0, 1)), (72, (.bipush 60, 2)), (74, (.newarray .int, 2)), (76, (.putfield 40, 3)), (79, (.aload_n 0, 1))]
def kt_109_b3 : List (Nat × Instr × Nat) := [(80, (.bipush 60, 2)), (82, (.newarray .int, 2)), (84, (.putfield 43, 3)), (87, (.aload_n 0, 1)), (88, (.bipush 60, 2)), (90, (.newarray .int, 2)), (92, (.putfield 46, 3)), (95, (.aload_n 0, 1)), (96, (.bipush 60, 2)), (98, (.newarray .int, 2)), (100, (.putfield 49, 3)), (103, (.aload_n 0, 1)), (104, (.bipush 60, 2)), (106, (.newarray .int, 2))]
def kt_109_b4 : List (Nat × Instr × Nat) := [(108, (.putfield 52, 3)), (111, (.aload_n 0, 1)), (112, (.bipush 60, 2)), (114, (.newarray .int, 2)), (116, (.putfield 55, 3)), (119, (.aload_n 0, 1)), (120, (.bipush 60, 2)), (122, (.newarray .int, 2)), (124, (.putfield 58, 3)), (127, (.aload_n 0, 1)), (128, (.bipush 60, 2)), (130, (.newarray .int, 2)), (132, (.putfield 61, 3)), (135, (.aload_n 0, 1))]
def kt_109_b5 : List (Nat × Instr × Nat) := [(136, (.iconst 5, 1)), (137, (.newarray .int, 2)), (139, (.putfield 64, 3)), (142, (.aload_n 0, 1)), (143, (.bipush 30, 2)), (145, (.newarray .int, 2)), (147, (.putfield 67, 3)), (150, (.aload_n 0, 1)), (151, (.bipush 30, 2)), (153, (.newarray .int, 2)), (155, (.putfield 70, 3)), (158, (.aload_n 0, 1)), (159, (.bipush 30, 2)), (161, (.newarray .int, 2))]
def kt_109_b6 : List (Nat × Instr × Nat) := [(163, (.putfield 73, 3)), (166, (.aload_n 0, 1)), (167, (.iconst 5, 1)), (168, (.newarray .int, 2)), (170, (.putfield 76, 3)), (173, (.aload_n 0, 1)), (174, (.bipush 30, 2)), (176, (.newarray .int, 2)), (178, (.putfield 79, 3)), (181, (.aload_n 0, 1)), (182, (.bipush 30, 2)), (184, (.newarray .int, 2)), (186, (.putfield 82, 3)), (189, (.aload_n 0, 1))]
def kt_109_b7 : List (Nat × Instr × Nat) := [(190, (.bipush 30, 2)), (192, (.newarray .int, 2)), (194, (.putfield 85, 3)), (197, (.aload_n 0, 1)), (198, (.iconst 5, 1)), (199, (.newarray .int, 2)), (201, (.putfield 88, 3)), (204, (.aload_n 0, 1)), (205, (.bipush 30, 2)), (207, (.newarray .int, 2)), (209, (.putfield 91, 3)), (212, (.aload_n 0, 1)), (213, (.bipush 30, 2)), (215, (.newarray .int, 2))]
def kt_109_b8 : List (Nat × Instr × Nat) := [(217, (.putfield 94, 3)), (220, (.aload_n 0, 1)), (221, (.bipush 30, 2)), (223, (.newarray .int, 2)), (225, (.putfield 97, 3)), (228, (.aload_n 0, 1)), (229, (.bipush 60, 2)), (231, (.newarray .int, 2)), (233, (.putfield 100, 3)), (236, (.aload_n 0, 1)), (237, (.bipush 60, 2)), (239, (.newarray .int, 2)), (241, (.putfield 103, 3)), (244, (.aload_n 0, 1))]
def kt_109_b9 : List (Nat × Instr × Nat) := [(245, (.bipush 10, 2)), (247, (.newarray .boolean, 2)), (249, (.putfield 106, 3)), (252, (.aload_n 0, 1)), (253, (.bipush 10, 2)), (255, (.newarray .int, 2)), (257, (.putfield 110, 3)), (260, (.aload_n 0, 1)), (261, (.bipush 10, 2)), (263, (.newarray .int, 2)), (265, (.putfield 113, 3)), (268, (.aload_n 0, 1)), (269, (.bipush 10, 2)), (271, (.newarray .int, 2))]
def kt_109_b10 : List (Nat × Instr × Nat) := [(273, (.putfield 116, 3)), (276, (.aload_n 0, 1)), (277, (.bipush 10, 2)), (279, (.newarray .int, 2)), (281, (.putfield 119, 3)), (284, (.aload_n 0, 1)), (285, (.iconst 3, 1)), (286, (.newarray .boolean, 2)), (288, (.putfield 122, 3)), (291, (.aload_n 0, 1)), (292, (.iconst (-1), 1)), (293, (.putfield 125, 3)), (296, (.aload_n 0, 1)), (297, (.bipush 12, 2))]
def kt_109_b11 : List (Nat × Instr × Nat) := [(299, (.newarray .int, 2)), (301, (.putfield 128, 3)), (304, (.aload_n 0, 1)), (305, (.bipush 84, 2)), (307, (.newarray .long, 2)), (309, (.putfield 131, 3)), (312, (.aload_n 0, 1)), (313, (.iconst 4, 1)), (314, (.newarray .int, 2)), (316, (.putfield 134, 3)), (319, (.aload_n 0, 1)), (320, (.sipush 480, 3)), (323, (.newarray .int, 2)), (325, (.putfield 137, 3))]
def kt_109_b12 : List (Nat × Instr × Nat) := [(328, (.aload_n 0, 1)), (329, (.sipush 480, 3)), (332, (.newarray .int, 2)), (334, (.putfield 140, 3)), (337, (.aload_n 0, 1)), (338, (.sipush 480, 3)), (341, (.newarray .int, 2)), (343, (.putfield 143, 3)), (346, (.aload_n 0, 1)), (347, (.sipush 480, 3)), (350, (.newarray .int, 2)), (352, (.putfield 146, 3)), (355, (.aload_n 0, 1)), (356, (.bipush 12, 2))]
def kt_109_b13 : List (Nat × Instr × Nat) := [(358, (.newarray .int, 2)), (360, (.putfield 149, 3)), (363, (.aload_n 0, 1)), (364, (.bipush 12, 2)), (366, (.newarray .int, 2)), (368, (.putfield 152, 3)), (371, (.aload_n 0, 1)), (372, (.sipush 8760, 3)), (375, (.newarray .int, 2)), (377, (.putfield 155, 3)), (380, (.aload_n 0, 1)), (381, (.bipush 12, 2)), (383, (.newarray .boolean, 2)), (385, (.putfield 158, 3))]
def kt_109_b14 : List (Nat × Instr × Nat) := [(388, (.aload_n 0, 1)), (389, (.ldc 161, 2)), (391, (.newarray .int, 2)), (393, (.putfield 162, 3)), (396, (.aload_n 0, 1)), (397, (.sipush 4096, 3)), (400, (.newarray .int, 2)), (402, (.putfield 165, 3)), (405, (.aload_n 0, 1)), (406, (.ldc 161, 2)), (408, (.newarray .int, 2)), (410, (.putfield 168, 3)), (413, (.iconst 0, 1)), (414, (.istore_n 1, 1))]
def kt_109_b15 : List (Nat × Instr × Nat) := [(415, (.iload_n 1, 1)), (416, (.iconst 4, 1)), (417, (.if_icmp .ge 16, 3)), (420, (.aload_n 0, 1)), (421, (.getfield 7, 3)), (424, (.iload_n 1, 1)), (425, (.iconst (-1), 1)), (426, (.iastore, 1)), (427, (.iinc 1 1, 3)), (430, (.goto (-15), 3)), (433, (.return_, 1))]
def kt_109 : List (Nat × List (Nat × Instr × Nat)) := [(24, kt_109_b0), (51, kt_109_b1), (79, kt_109_b2), (106, kt_109_b3), (135, kt_109_b4), (161, kt_109_b5), (189, kt_109_b6), (215, kt_109_b7), (244, kt_109_b8), (271, kt_109_b9), (297, kt_109_b10), (325, kt_109_b11), (356, kt_109_b12), (385, kt_109_b13), (414, kt_109_b14), (433, kt_109_b15)]
def kt_110 : List (Nat × List (Nat × Instr × Nat)) := [(33, [(0, (.iload_n 1, 1)), (1, (.aload_n 0, 1)), (2, (.getfield 188, 3)), (5, (.if_icmp .ge 27, 3)), (32, (.iconst 0, 1)), (33, (.ireturn, 1))])]
def kt_111 : List (Nat × List (Nat × Instr × Nat)) := [(9, [(0, (.iload_n 0, 1)), (1, (.i2l, 1)), (2, (.lconst 0, 1)), (3, (.ldc2_w 364, 3)), (6, (.invokestatic 176, 3)), (9, (.ireturn, 1))])]
def kt_112 : List (Nat × List (Nat × Instr × Nat)) := [(12, [(0, (.aload_n 0, 1)), (1, (.getfield 223, 3)), (4, (.ifCond .ne 7, 3)), (7, (.iconst 1, 1)), (8, (.goto 4, 3)), (12, (.ireturn, 1))])]
def kt_113 : List (Nat × List (Nat × Instr × Nat)) := [(7, [(0, (.iload_n 1, 1)), (1, (.i2l, 1)), (2, (.lconst 0, 1)), (3, (.aload_n 0, 1)), (4, (.getfield 34, 3)), (7, (.iconst 0, 1))]), (15, [(8, (.iaload, 1)), (9, (.iconst 1, 1)), (10, (.isub, 1)), (11, (.i2l, 1)), (12, (.invokestatic 176, 3)), (15, (.ireturn, 1))])]
def kt_114 : List (Nat × List (Nat × Instr × Nat)) := [(7, [(0, (.aload_n 0, 1)), (1, (.iconst 0, 1)), (2, (.putfield 188, 3)), (5, (.aload_n 0, 1)), (6, (.aload_n 0, 1)), (7, (.getfield 223, 3))]), (21, [(10, (.putfield 250, 3)), (13, (.aload_n 0, 1)), (14, (.aload_n 0, 1)), (15, (.getfield 223, 3)), (18, (.ifCond .ne 7, 3)), (21, (.iconst (-1), 1))]), (32, [(22, (.goto 7, 3)), (29, (.putfield 27, 3)), (32, (.return_, 1))])]
def kt_115 : List (Nat × List (Nat × Instr × Nat)) := [(33, [(0, (.aload_n 0, 1)), (1, (.getfield 34, 3)), (4, (.iconst 0, 1)), (5, (.iaload, 1)), (6, (.ifCond .le 27, 3)), (33, (.iconst 0, 1))]), (34, [(34, (.ireturn, 1))])]
def kt_116 : List (Nat × List (Nat × Instr × Nat)) := [(9, [(0, (.iload_n 0, 1)), (1, (.i2l, 1)), (2, (.lconst 0, 1)), (3, (.ldc2_w 174, 3)), (6, (.invokestatic 176, 3)), (9, (.ireturn, 1))])]
def kt_117 : List (Nat × List (Nat × Instr × Nat)) := [(9, [(0, (.aload_n 0, 1)), (1, (.iconst 0, 1)), (2, (.putfield 171, 3)), (5, (.iload_n 1, 1)), (6, (.invokestatic 180, 3)), (9, (.ifCond .eq 18, 3))]), (29, [(12, (.aload_n 0, 1)), (13, (.iload_n 2, 1)), (14, (.invokevirtual 390, 3)), (17, (.ifCond .eq 10, 3)), (27, (.bipush (-2), 2)), (29, (.ireturn, 1))])]
def kt_118 : List (Nat × List (Nat × Instr × Nat)) := [(7, [(0, (.aload_n 0, 1)), (1, (.iconst 0, 1)), (2, (.putfield 171, 3)), (5, (.iload_n 1, 1)), (6, (.i2l, 1)), (7, (.lconst 0, 1))]), (20, [(8, (.ldc2_w 430, 3)), (11, (.invokestatic 176, 3)), (14, (.ifCond .ne 6, 3)), (17, (.bipush (-2), 2)), (19, (.ireturn, 1)), (20, (.aload_n 0, 1))]), (28, [(21, (.iconst 0, 1)), (22, (.iconst 1, 1)), (23, (.iload_n 1, 1)), (24, (.iadd, 1)), (25, (.invokevirtual 360, 3)), (28, (.aload_n 0, 1))]), (36, [(29, (.iconst 0, 1)), (30, (.iconst 1, 1)), (31, (.iload_n 1, 1)), (32, (.iadd, 1)), (33, (.invokevirtual 570, 3)), (36, (.aload_n 0, 1))]), (44, [(37, (.getfield 122, 3)), (40, (.iload_n 1, 1)), (41, (.iconst 1, 1)), (42, (.bastore, 1)), (43, (.iconst 0, 1)), (44, (.ireturn, 1))])]
def kt_119 : List (Nat × List (Nat × Instr × Nat)) := [(7, [(0, (.aload_n 0, 1)), (1, (.iconst 0, 1)), (2, (.putfield 171, 3)), (5, (.iload_n 1, 1)), (6, (.i2l, 1)), (7, (.lconst 0, 1))]), (19, [(8, (.ldc2_w 174, 3)), (11, (.invokestatic 176, 3)), (14, (.ifCond .ne 5, 3)), (17, (.iconst (-1), 1)), (18, (.ireturn, 1)), (19, (.aload_n 0, 1))]), (29, [(20, (.iconst (-1), 1)), (21, (.invokevirtual 505, 3)), (24, (.iload_n 1, 1)), (25, (.ifCond .ne 10, 3)), (28, (.aload_n 0, 1)), (29, (.getfield 481, 3))]), (41, [(32, (.goto 31, 3)), (35, (.iload_n 1, 1)), (36, (.iconst 1, 1)), (37, (.if_icmp .ne 10, 3)), (40, (.aload_n 0, 1)), (41, (.getfield 484, 3))]), (53, [(44, (.goto 19, 3)), (47, (.iload_n 1, 1)), (48, (.iconst 2, 1)), (49, (.if_icmp .ne 10, 3)), (52, (.aload_n 0, 1)), (53, (.getfield 487, 3))]), (63, [(56, (.goto 7, 3)), (59, (.aload_n 0, 1)), (60, (.getfield 478, 3)), (63, (.ireturn, 1))])]
def kt_120 : List (Nat × List (Nat × Instr × Nat)) := [(7, [(0, (.aload_n 0, 1)), (1, (.iconst 0, 1)), (2, (.putfield 171, 3)), (5, (.iload_n 1, 1)), (6, (.i2l, 1)), (7, (.lconst 0, 1))]), (21, [(8, (.ldc2_w 568, 3)), (11, (.invokestatic 176, 3)), (14, (.ifCond .eq 10, 3)), (17, (.iload_n 2, 1)), (18, (.invokestatic 393, 3)), (21, (.ifCond .ne 6, 3))]), (32, [(24, (.bipush (-2), 2)), (26, (.ireturn, 1)), (27, (.sipush 9999, 3)), (30, (.istore_n 3, 1)), (31, (.iload_n 3, 1)), (32, (.ifCond .le 67, 3))]), (43, [(35, (.iconst 0, 1)), (36, (.istore 4, 2)), (38, (.iconst 0, 1)), (39, (.istore 5, 2)), (41, (.iload 5, 2)), (43, (.aload_n 0, 1))]), (87, [(44, (.getfield 34, 3)), (47, (.iconst 0, 1)), (48, (.iaload, 1)), (49, (.if_icmp .ge 36, 3)), (85, (.iload 4, 2)), (87, (.iload_n 1, 1))]), (92, [(88, (.if_icmp .gt 5, 3)), (91, (.iload_n 3, 1)), (92, (.ireturn, 1))])]
def kt_121 : List (Nat × List (Nat × Instr × Nat)) := [(7, [(0, (.aload_n 0, 1)), (1, (.iconst 0, 1)), (2, (.putfield 171, 3)), (5, (.aload_n 0, 1)), (6, (.iload_n 1, 1)), (7, (.invokevirtual 390, 3))]), (35, [(10, (.ifCond .eq 22, 3)), (32, (.ldc_w 400, 3)), (35, (.ireturn, 1))])]
def kt_122 : List (Nat × List (Nat × Instr × Nat)) := [(7, [(0, (.aload_n 0, 1)), (1, (.iconst 0, 1)), (2, (.putfield 171, 3)), (5, (.iload_n 1, 1)), (6, (.i2l, 1)), (7, (.lconst 0, 1))]), (19, [(8, (.ldc2_w 553, 3)), (11, (.invokestatic 176, 3)), (14, (.ifCond .eq 39, 3)), (17, (.iload_n 2, 1)), (18, (.i2l, 1)), (19, (.lconst 1, 1))]), (27, [(20, (.aload_n 0, 1)), (21, (.getfield 34, 3)), (24, (.iconst 0, 1)), (25, (.iaload, 1)), (26, (.i2l, 1)), (27, (.invokestatic 176, 3))]), (55, [(30, (.ifCond .eq 23, 3)), (53, (.bipush (-2), 2)), (55, (.ireturn, 1))])]
def kt_123 : List (Nat × List (Nat × Instr × Nat)) := [(9, [(0, (.aload_n 0, 1)), (1, (.iconst 0, 1)), (2, (.putfield 171, 3)), (5, (.iload_n 1, 1)), (6, (.invokestatic 393, 3)), (9, (.ifCond .ne 6, 3))]), (18, [(12, (.bipush (-2), 2)), (14, (.ireturn, 1)), (15, (.iconst (-1), 1)), (16, (.istore_n 2, 1)), (17, (.iconst 0, 1)), (18, (.istore_n 3, 1))]), (28, [(19, (.iconst 0, 1)), (20, (.istore 4, 2)), (22, (.iload 4, 2)), (24, (.aload_n 0, 1)), (25, (.getfield 34, 3)), (28, (.iconst 0, 1))]), (64, [(29, (.iaload, 1)), (30, (.if_icmp .ge 33, 3)), (63, (.iload_n 2, 1)), (64, (.ireturn, 1))])]
def kt_124 : List (Nat × List (Nat × Instr × Nat)) := [(7, [(0, (.aload_n 0, 1)), (1, (.iconst 0, 1)), (2, (.putfield 171, 3)), (5, (.aload_n 0, 1)), (6, (.iload_n 1, 1)), (7, (.invokevirtual 390, 3))]), (15, [(10, (.ifCond .ne 6, 3)), (13, (.bipush (-2), 2)), (15, (.ireturn, 1))])]
def kt_125 : List (Nat × List (Nat × Instr × Nat)) := [(9, [(0, (.aload_n 0, 1)), (1, (.aload_n 0, 1)), (2, (.getfield 195, 3)), (5, (.bipush 32, 2)), (7, (.bipush 32, 2)), (9, (.invokevirtual 198, 3))]), (22, [(12, (.ifCond .ne 18, 3)), (15, (.aload_n 0, 1)), (16, (.aload_n 0, 1)), (17, (.getfield 195, 3)), (20, (.bipush 10, 2)), (22, (.bipush 10, 2))]), (48, [(24, (.invokevirtual 198, 3)), (27, (.ifCond .eq 16, 3)), (43, (.aload_n 0, 1)), (44, (.aload_n 0, 1)), (45, (.getfield 195, 3)), (48, (.putfield 202, 3))]), (58, [(51, (.aload_n 0, 1)), (52, (.iconst 0, 1)), (53, (.putfield 205, 3)), (56, (.aload_n 0, 1)), (57, (.lconst 0, 1)), (58, (.putfield 208, 3))]), (72, [(61, (.aload_n 0, 1)), (62, (.getfield 195, 3)), (65, (.aload_n 0, 1)), (66, (.getfield 188, 3)), (69, (.if_icmp .ne 11, 3)), (72, (.aload_n 0, 1))]), (307, [(73, (.iconst 0, 1)), (74, (.putfield 212, 3)), (77, (.goto 230, 3)), (307, (.return_, 1))])]
def kt_126 : List (Nat × List (Nat × Instr × Nat)) := [(9, [(0, (.aload_n 0, 1)), (1, (.iconst 0, 1)), (2, (.putfield 171, 3)), (5, (.iload_n 1, 1)), (6, (.invokestatic 393, 3)), (9, (.ifCond .ne 6, 3))]), (20, [(12, (.bipush (-2), 2)), (14, (.ireturn, 1)), (15, (.aload_n 0, 1)), (16, (.iload_n 1, 1)), (17, (.invokevirtual 468, 3)), (20, (.iconst (-1), 1))]), (26, [(21, (.istore_n 2, 1)), (22, (.iconst 0, 1)), (23, (.istore_n 3, 1)), (24, (.iload_n 3, 1)), (25, (.aload_n 0, 1)), (26, (.getfield 34, 3))]), (125, [(29, (.iconst 0, 1)), (30, (.iaload, 1)), (31, (.if_icmp .ge 93, 3)), (124, (.iload_n 2, 1)), (125, (.ireturn, 1))])]
def kt_127 : List (Nat × List (Nat × Instr × Nat)) := [(7, [(0, (.aload_n 0, 1)), (1, (.iconst 0, 1)), (2, (.putfield 171, 3)), (5, (.aload_n 0, 1)), (6, (.iload_n 1, 1)), (7, (.invokevirtual 390, 3))]), (22, [(10, (.ifCond .eq 10, 3)), (20, (.bipush (-2), 2)), (22, (.ireturn, 1))])]
def kt_128 : List (Nat × List (Nat × Instr × Nat)) := [(7, [(0, (.aload_n 0, 1)), (1, (.iconst 0, 1)), (2, (.putfield 171, 3)), (5, (.aload_n 0, 1)), (6, (.iload_n 1, 1)), (7, (.invokevirtual 390, 3))]), (23, [(10, (.ifCond .eq 10, 3)), (20, (.ldc_w 400, 3)), (23, (.ireturn, 1))])]
def kt_129 : List (Nat × List (Nat × Instr × Nat)) := [(7, [(0, (.aload_n 0, 1)), (1, (.iconst 0, 1)), (2, (.putfield 171, 3)), (5, (.aload_n 0, 1)), (6, (.iload_n 1, 1)), (7, (.invokevirtual 390, 3))]), (35, [(10, (.ifCond .eq 22, 3)), (32, (.ldc_w 400, 3)), (35, (.ireturn, 1))])]
def kt_130 : List (Nat × List (Nat × Instr × Nat)) := [(9, [(0, (.aload_n 0, 1)), (1, (.iconst 0, 1)), (2, (.putfield 171, 3)), (5, (.iload_n 1, 1)), (6, (.invokestatic 180, 3)), (9, (.ifCond .eq 10, 3))]), (22, [(12, (.iload_n 3, 1)), (13, (.invokestatic 180, 3)), (16, (.ifCond .ne 6, 3)), (19, (.bipush (-2), 2)), (21, (.ireturn, 1)), (22, (.aload_n 0, 1))]), (42, [(23, (.getfield 7, 3)), (26, (.iload_n 1, 1)), (27, (.iaload, 1)), (28, (.iconst (-1), 1)), (29, (.if_icmp .eq 13, 3)), (42, (.bipush (-6), 2))]), (44, [(44, (.ireturn, 1))])]
def kt_131 : List (Nat × List (Nat × Instr × Nat)) := [(8, [(0, (.aload_n 0, 1)), (1, (.bipush 12, 2)), (3, (.putfield 125, 3)), (6, (.iconst 0, 1)), (7, (.istore_n 1, 1)), (8, (.iload_n 1, 1))]), (18, [(9, (.sipush 730, 3)), (12, (.if_icmp .ge 50, 3)), (15, (.aload_n 0, 1)), (16, (.iload_n 1, 1)), (17, (.iconst 1, 1)), (18, (.invokevirtual 396, 3))]), (28, [(21, (.iconst 0, 1)), (22, (.istore_n 2, 1)), (23, (.iload_n 2, 1)), (24, (.aload_n 0, 1)), (25, (.getfield 34, 3)), (28, (.iconst 0, 1))]), (63, [(29, (.iaload, 1)), (30, (.if_icmp .ge 26, 3)), (56, (.iinc 1 1, 3)), (59, (.goto (-51), 3)), (62, (.iconst 0, 1)), (63, (.istore_n 1, 1))]), (71, [(64, (.iload_n 1, 1)), (65, (.aload_n 0, 1)), (66, (.getfield 34, 3)), (69, (.iconst 0, 1)), (70, (.iaload, 1)), (71, (.if_icmp .ge 21, 3))]), (92, [(92, (.return_, 1))])]
def kt_132 : List (Nat × List (Nat × Instr × Nat)) := [(7, [(0, (.aload_n 0, 1)), (1, (.iconst 0, 1)), (2, (.putfield 171, 3)), (5, (.aload_n 0, 1)), (6, (.iload_n 1, 1)), (7, (.invokevirtual 390, 3))]), (42, [(10, (.ifCond .eq 30, 3)), (40, (.bipush (-2), 2)), (42, (.ireturn, 1))])]
def kt_133 : List (Nat × List (Nat × Instr × Nat)) := [(7, [(0, (.aload_n 0, 1)), (1, (.iconst 0, 1)), (2, (.putfield 171, 3)), (5, (.aload_n 0, 1)), (6, (.iload_n 1, 1)), (7, (.invokevirtual 390, 3))]), (52, [(10, (.ifCond .eq 40, 3)), (50, (.bipush (-2), 2)), (52, (.ireturn, 1))])]
def kt_134 : List (Nat × List (Nat × Instr × Nat)) := [(7, [(0, (.aload_n 0, 1)), (1, (.iconst 0, 1)), (2, (.putfield 171, 3)), (5, (.aload_n 0, 1)), (6, (.iload_n 1, 1)), (7, (.invokevirtual 390, 3))]), (25, [(10, (.ifCond .eq 13, 3)), (23, (.bipush (-2), 2)), (25, (.ireturn, 1))])]
def kt_135 : List (Nat × List (Nat × Instr × Nat)) := [(7, [(0, (.aload_n 0, 1)), (1, (.iconst 0, 1)), (2, (.putfield 171, 3)), (5, (.aload_n 0, 1)), (6, (.iload_n 1, 1)), (7, (.invokevirtual 390, 3))]), (31, [(10, (.ifCond .eq 19, 3)), (29, (.bipush (-2), 2)), (31, (.ireturn, 1))])]
def kt_136 : List (Nat × List (Nat × Instr × Nat)) := [(7, [(0, (.aload_n 0, 1)), (1, (.iconst 0, 1)), (2, (.putfield 171, 3)), (5, (.iload_n 1, 1)), (6, (.i2l, 1)), (7, (.lconst 0, 1))]), (21, [(8, (.ldc2_w 523, 3)), (11, (.invokestatic 176, 3)), (14, (.ifCond .eq 19, 3)), (17, (.iload_n 2, 1)), (18, (.invokestatic 393, 3)), (21, (.ifCond .eq 12, 3))]), (33, [(24, (.aload_n 0, 1)), (25, (.getfield 34, 3)), (28, (.iconst 0, 1)), (29, (.iaload, 1)), (30, (.ifCond .ne 6, 3)), (33, (.bipush (-2), 2))]), (35, [(35, (.ireturn, 1))])]
def kt_137 : List (Nat × List (Nat × Instr × Nat)) := [(12, [(0, (.aload_n 0, 1)), (1, (.iconst 0, 1)), (2, (.putfield 171, 3)), (5, (.iload_n 1, 1)), (6, (.invokestatic 180, 3)), (9, (.ifCond .eq 21, 3)), (12, (.iload_n 2, 1))]), (25, [(13, (.i2l, 1)), (14, (.lconst 0, 1)), (15, (.ldc2_w 174, 3)), (18, (.invokestatic 176, 3)), (21, (.ifCond .eq 9, 3)), (24, (.iload_n 3, 1)), (25, (.bipush 60, 2))]), (39, [(27, (.if_icmp .le 6, 3)), (30, (.bipush (-2), 2)), (32, (.ireturn, 1)), (33, (.iload_n 3, 1)), (34, (.ifCond .ge 6, 3)), (37, (.bipush (-3), 2)), (39, (.ireturn, 1))]), (48, [(40, (.aload_n 0, 1)), (41, (.getfield 7, 3)), (44, (.iload_n 1, 1)), (45, (.iload_n 2, 1)), (46, (.iastore, 1)), (47, (.aload_n 0, 1)), (48, (.getfield 13, 3))]), (59, [(51, (.iload_n 1, 1)), (52, (.iload_n 3, 1)), (53, (.iastore, 1)), (54, (.iconst 0, 1)), (55, (.istore 4, 2)), (57, (.iload 4, 2)), (59, (.iload_n 3, 1))]), (71, [(60, (.if_icmp .ge 22, 3)), (63, (.aload_n 0, 1)), (64, (.getfield 16, 3)), (67, (.bipush 60, 2)), (69, (.iload_n 1, 1)), (70, (.imul, 1)), (71, (.iload 4, 2))]), (83, [(73, (.iadd, 1)), (74, (.lconst 0, 1)), (75, (.lastore, 1)), (76, (.iinc 4 1, 3)), (79, (.goto (-22), 3)), (82, (.iconst 0, 1)), (83, (.ireturn, 1))])]
def kt_138 : List (Nat × List (Nat × Instr × Nat)) := [(9, [(0, (.aload_n 0, 1)), (1, (.iconst 0, 1)), (2, (.putfield 171, 3)), (5, (.aload_n 0, 1)), (6, (.invokevirtual 460, 3)), (9, (.ifCond .ne 5, 3))]), (19, [(14, (.lconst 1, 1)), (15, (.lstore_n 1, 1)), (16, (.iconst 0, 1)), (17, (.istore_n 3, 1)), (18, (.iload_n 3, 1)), (19, (.aload_n 0, 1))]), (71, [(20, (.getfield 34, 3)), (23, (.iconst 0, 1)), (24, (.iaload, 1)), (25, (.if_icmp .ge 45, 3)), (70, (.lload_n 1, 1)), (71, (.l2i, 1))]), (72, [(72, (.ireturn, 1))])]
def kt_139 : List (Nat × List (Nat × Instr × Nat)) := [(7, [(0, (.aload_n 0, 1)), (1, (.iconst 0, 1)), (2, (.putfield 171, 3)), (5, (.aload_n 0, 1)), (6, (.iload_n 1, 1)), (7, (.invokevirtual 390, 3))]), (45, [(10, (.ifCond .eq 33, 3)), (43, (.bipush (-2), 2)), (45, (.ireturn, 1))])]
def kt_140 : List (Nat × List (Nat × Instr × Nat)) := [(7, [(0, (.aload_n 0, 1)), (1, (.iconst 0, 1)), (2, (.putfield 171, 3)), (5, (.aload_n 0, 1)), (6, (.iload_n 1, 1)), (7, (.invokevirtual 390, 3))]), (15, [(10, (.ifCond .ne 6, 3)), (13, (.bipush (-2), 2)), (15, (.ireturn, 1))])]
def kt_141 : List (Nat × List (Nat × Instr × Nat)) := [(7, [(0, (.aload_n 0, 1)), (1, (.iconst 0, 1)), (2, (.putfield 171, 3)), (5, (.aload_n 0, 1)), (6, (.iload_n 1, 1)), (7, (.invokevirtual 511, 3))]), (15, [(10, (.ifCond .ne 6, 3)), (13, (.bipush (-2), 2)), (15, (.ireturn, 1))])]
def kt_142 : List (Nat × List (Nat × Instr × Nat)) := [(7, [(0, (.aload_n 0, 1)), (1, (.iconst 0, 1)), (2, (.putfield 478, 3)), (5, (.aload_n 0, 1)), (6, (.iconst (-1), 1)), (7, (.putfield 481, 3))]), (17, [(10, (.aload_n 0, 1)), (11, (.iconst (-1), 1)), (12, (.putfield 484, 3)), (15, (.aload_n 0, 1)), (16, (.iconst (-1), 1)), (17, (.putfield 487, 3))]), (27, [(20, (.aload_n 0, 1)), (21, (.iconst (-1), 1)), (22, (.putfield 490, 3)), (25, (.aload_n 0, 1)), (26, (.iconst (-1), 1)), (27, (.putfield 493, 3))]), (37, [(30, (.aload_n 0, 1)), (31, (.invokevirtual 496, 3)), (34, (.iconst 0, 1)), (35, (.istore_n 2, 1)), (36, (.iload_n 2, 1)), (37, (.aload_n 0, 1))]), (148, [(38, (.getfield 34, 3)), (41, (.iconst 0, 1)), (42, (.iaload, 1)), (43, (.if_icmp .ge 104, 3)), (147, (.aload_n 0, 1)), (148, (.iconst (-1), 1))]), (152, [(149, (.putfield 125, 3)), (152, (.return_, 1))])]
def kt_143 : List (Nat × List (Nat × Instr × Nat)) := [(7, [(0, (.aload_n 0, 1)), (1, (.iconst 0, 1)), (2, (.putfield 171, 3)), (5, (.iload_n 1, 1)), (6, (.i2l, 1)), (7, (.lconst 0, 1))]), (15, [(8, (.aload_n 0, 1)), (9, (.getfield 134, 3)), (12, (.iconst 0, 1)), (13, (.iaload, 1)), (14, (.iconst 1, 1)), (15, (.isub, 1))]), (24, [(16, (.i2l, 1)), (17, (.invokestatic 176, 3)), (20, (.ifCond .ne 5, 3)), (23, (.iconst (-1), 1)), (24, (.ireturn, 1))])]
def kt_144 : List (Nat × List (Nat × Instr × Nat)) := [(11, [(0, (.aload_n 0, 1)), (1, (.iconst 0, 1)), (2, (.putfield 171, 3)), (5, (.aload_n 0, 1)), (6, (.getfield 31, 3)), (9, (.iconst 4, 1)), (10, (.iconst 0, 1)), (11, (.iastore, 1))]), (23, [(12, (.aload_n 0, 1)), (13, (.getfield 34, 3)), (16, (.iconst 4, 1)), (17, (.iconst 0, 1)), (18, (.iastore, 1)), (19, (.aload_n 0, 1)), (20, (.getfield 64, 3)), (23, (.iconst 4, 1))]), (33, [(24, (.iconst 0, 1)), (25, (.iastore, 1)), (26, (.aload_n 0, 1)), (27, (.getfield 76, 3)), (30, (.iconst 4, 1)), (31, (.iconst 0, 1)), (32, (.iastore, 1)), (33, (.aload_n 0, 1))]), (46, [(34, (.getfield 88, 3)), (37, (.iconst 4, 1)), (38, (.iconst 0, 1)), (39, (.iastore, 1)), (40, (.aload_n 0, 1)), (41, (.getfield 106, 3)), (44, (.bipush 8, 2)), (46, (.iconst 0, 1))]), (57, [(47, (.bastore, 1)), (48, (.aload_n 0, 1)), (49, (.getfield 106, 3)), (52, (.bipush 9, 2)), (54, (.iconst 0, 1)), (55, (.bastore, 1)), (56, (.aload_n 0, 1)), (57, (.invokevirtual 344, 3))]), (103, [(60, (.aload_n 0, 1)), (61, (.invokevirtual 347, 3)), (64, (.ifCond .eq 38, 3)), (67, (.aload_n 0, 1)), (68, (.getfield 212, 3)), (71, (.ifCond .eq 31, 3)), (102, (.aload_n 0, 1)), (103, (.invokevirtual 357, 3))]), (122, [(106, (.aload_n 0, 1)), (107, (.getfield 223, 3)), (110, (.ifCond .eq 6, 3)), (116, (.aload_n 0, 1)), (117, (.iconst 4, 1)), (118, (.iconst 0, 1)), (119, (.invokevirtual 360, 3)), (122, (.aload_n 0, 1))]), (134, [(123, (.getfield 134, 3)), (126, (.iconst 0, 1)), (127, (.iconst 0, 1)), (128, (.iastore, 1)), (129, (.aload_n 0, 1)), (130, (.getfield 31, 3)), (133, (.iconst 0, 1)), (134, (.iaload, 1))]), (135, [(135, (.ireturn, 1))])]
def kt_145 : List (Nat × List (Nat × Instr × Nat)) := [(7, [(0, (.aload_n 0, 1)), (1, (.iconst 0, 1)), (2, (.putfield 171, 3)), (5, (.aload_n 0, 1)), (6, (.iload_n 1, 1)), (7, (.invokevirtual 390, 3))]), (23, [(10, (.ifCond .eq 10, 3)), (20, (.ldc_w 400, 3)), (23, (.ireturn, 1))])]
def kt_146 : List (Nat × List (Nat × Instr × Nat)) := [(7, [(0, (.aload_n 0, 1)), (1, (.iload_n 1, 1)), (2, (.iconst 1, 1)), (3, (.invokevirtual 396, 3)), (6, (.iconst 0, 1)), (7, (.istore_n 2, 1))]), (15, [(8, (.iload_n 2, 1)), (9, (.aload_n 0, 1)), (10, (.getfield 34, 3)), (13, (.iconst 0, 1)), (14, (.iaload, 1)), (15, (.if_icmp .ge 51, 3))]), (66, [(66, (.return_, 1))])]
def kt_147 : List (Nat × List (Nat × Instr × Nat)) := [(7, [(0, (.aload_n 0, 1)), (1, (.iconst 0, 1)), (2, (.putfield 171, 3)), (5, (.iload_n 1, 1)), (6, (.i2l, 1)), (7, (.lconst 0, 1))]), (15, [(8, (.aload_n 0, 1)), (9, (.getfield 134, 3)), (12, (.iconst 0, 1)), (13, (.iaload, 1)), (14, (.i2l, 1)), (15, (.invokestatic 176, 3))]), (28, [(18, (.ifCond .ne 6, 3)), (21, (.bipush (-2), 2)), (23, (.ireturn, 1)), (24, (.aload_n 0, 1)), (25, (.getfield 134, 3)), (28, (.iconst 0, 1))]), (34, [(29, (.dup2, 1)), (30, (.iaload, 1)), (31, (.iload_n 1, 1)), (32, (.isub, 1)), (33, (.iastore, 1)), (34, (.aload_n 0, 1))]), (40, [(35, (.getfield 134, 3)), (38, (.iconst 0, 1)), (39, (.iaload, 1)), (40, (.ireturn, 1))])]
def kt_148 : List (Nat × List (Nat × Instr × Nat)) := [(7, [(0, (.aload_n 0, 1)), (1, (.iconst 0, 1)), (2, (.putfield 171, 3)), (5, (.aload_n 0, 1)), (6, (.iload_n 1, 1)), (7, (.invokevirtual 390, 3))]), (22, [(10, (.ifCond .eq 10, 3)), (20, (.bipush (-2), 2)), (22, (.ireturn, 1))])]
def kt_149 : List (Nat × List (Nat × Instr × Nat)) := [(9, [(0, (.aload_n 0, 1)), (1, (.invokevirtual 457, 3)), (4, (.aload_n 0, 1)), (5, (.iload_n 1, 1)), (6, (.invokevirtual 421, 3)), (9, (.iconst 0, 1))]), (17, [(10, (.istore_n 2, 1)), (11, (.iload_n 2, 1)), (12, (.aload_n 0, 1)), (13, (.getfield 34, 3)), (16, (.iconst 0, 1)), (17, (.iaload, 1))]), (145, [(18, (.if_icmp .ge 127, 3)), (145, (.return_, 1))])]
def kt_150 : List (Nat × List (Nat × Instr × Nat)) := [(7, [(0, (.aload_n 0, 1)), (1, (.iconst 0, 1)), (2, (.putfield 171, 3)), (5, (.aload_n 0, 1)), (6, (.iload_n 1, 1)), (7, (.invokevirtual 390, 3))]), (15, [(10, (.ifCond .ne 6, 3)), (13, (.bipush (-2), 2)), (15, (.ireturn, 1))])]
def kt_151 : List (Nat × List (Nat × Instr × Nat)) := [(7, [(0, (.aload_n 0, 1)), (1, (.iconst 0, 1)), (2, (.putfield 171, 3)), (5, (.aload_n 0, 1)), (6, (.iload_n 1, 1)), (7, (.invokevirtual 511, 3))]), (15, [(10, (.ifCond .ne 6, 3)), (13, (.bipush (-2), 2)), (15, (.ireturn, 1))])]
def kt_152 : List (Nat × List (Nat × Instr × Nat)) := [(7, [(0, (.aload_n 0, 1)), (1, (.iconst 0, 1)), (2, (.putfield 171, 3)), (5, (.aload_n 0, 1)), (6, (.iload_n 1, 1)), (7, (.invokevirtual 390, 3))]), (15, [(10, (.ifCond .ne 6, 3)), (13, (.bipush (-2), 2)), (15, (.ireturn, 1))])]
def kt_153 : List (Nat × List (Nat × Instr × Nat)) := [(7, [(0, (.aload_n 0, 1)), (1, (.iconst 0, 1)), (2, (.putfield 171, 3)), (5, (.aload_n 0, 1)), (6, (.iload_n 1, 1)), (7, (.invokevirtual 390, 3))]), (31, [(10, (.ifCond .eq 19, 3)), (29, (.bipush (-2), 2)), (31, (.ireturn, 1))])]
def kt_154 : List (Nat × List (Nat × Instr × Nat)) := [(7, [(0, (.aload_n 0, 1)), (1, (.iconst 0, 1)), (2, (.putfield 171, 3)), (5, (.aload_n 0, 1)), (6, (.iload_n 1, 1)), (7, (.invokevirtual 390, 3))]), (22, [(10, (.ifCond .eq 10, 3)), (20, (.bipush (-2), 2)), (22, (.ireturn, 1))])]
def kt_155 : List (Nat × List (Nat × Instr × Nat)) := [(9, [(0, (.aload_n 0, 1)), (1, (.iconst 0, 1)), (2, (.putfield 171, 3)), (5, (.iload_n 1, 1)), (6, (.invokestatic 393, 3)), (9, (.ifCond .ne 6, 3))]), (18, [(12, (.bipush (-2), 2)), (14, (.ireturn, 1)), (15, (.aload_n 0, 1)), (16, (.iload_n 1, 1)), (17, (.iconst 1, 1)), (18, (.invokevirtual 396, 3))]), (26, [(21, (.iconst (-1), 1)), (22, (.istore_n 2, 1)), (23, (.iconst 0, 1)), (24, (.istore_n 3, 1)), (25, (.iconst 0, 1)), (26, (.istore 4, 2))]), (36, [(28, (.iload 4, 2)), (30, (.aload_n 0, 1)), (31, (.getfield 34, 3)), (34, (.iconst 0, 1)), (35, (.iaload, 1)), (36, (.if_icmp .ge 36, 3))]), (73, [(72, (.iload_n 2, 1)), (73, (.ireturn, 1))])]
def kt_156 : List (Nat × List (Nat × Instr × Nat)) := [(9, [(0, (.aload_n 0, 1)), (1, (.iconst 0, 1)), (2, (.putfield 171, 3)), (5, (.iload_n 1, 1)), (6, (.invokestatic 180, 3)), (9, (.ifCond .ne 6, 3))]), (20, [(12, (.bipush (-2), 2)), (14, (.ireturn, 1)), (15, (.aload_n 0, 1)), (16, (.getfield 7, 3)), (19, (.iload_n 1, 1)), (20, (.iaload, 1))]), (27, [(21, (.iconst (-1), 1)), (22, (.if_icmp .ne 6, 3)), (25, (.bipush (-6), 2)), (27, (.ireturn, 1))])]
def kt_157 : List (Nat × List (Nat × Instr × Nat)) := [(10, [(0, (.aload_n 0, 1)), (1, (.aload_n 1, 1)), (2, (.getfield 9, 3)), (5, (.putfield 9, 3)), (8, (.aload_n 0, 1)), (9, (.aload_n 1, 1)), (10, (.getfield 15, 3))]), (25, [(13, (.putfield 15, 3)), (16, (.aload_n 0, 1)), (17, (.aload_n 1, 1)), (18, (.getfield 18, 3)), (21, (.putfield 18, 3)), (24, (.aload_n 0, 1)), (25, (.aload_n 1, 1))]), (40, [(26, (.getfield 21, 3)), (29, (.putfield 21, 3)), (32, (.aload_n 0, 1)), (33, (.aload_n 1, 1)), (34, (.getfield 24, 3)), (37, (.putfield 24, 3)), (40, (.aload_n 0, 1))]), (53, [(41, (.aload_n 1, 1)), (42, (.getfield 27, 3)), (45, (.putfield 27, 3)), (48, (.aload_n 0, 1)), (49, (.aload_n 1, 1)), (50, (.getfield 30, 3)), (53, (.putfield 30, 3))]), (66, [(56, (.aload_n 0, 1)), (57, (.aload_n 1, 1)), (58, (.getfield 33, 3)), (61, (.putfield 33, 3)), (64, (.aload_n 0, 1)), (65, (.aload_n 1, 1)), (66, (.getfield 36, 3))]), (81, [(69, (.putfield 36, 3)), (72, (.aload_n 0, 1)), (73, (.aload_n 1, 1)), (74, (.getfield 39, 3)), (77, (.putfield 39, 3)), (80, (.aload_n 0, 1)), (81, (.aload_n 1, 1))]), (96, [(82, (.getfield 42, 3)), (85, (.putfield 42, 3)), (88, (.aload_n 0, 1)), (89, (.aload_n 1, 1)), (90, (.getfield 45, 3)), (93, (.putfield 45, 3)), (96, (.return_, 1))])]
def kt_158 : List (Nat × List (Nat × Instr × Nat)) := [(9, [(0, (.aload_n 0, 1)), (1, (.invokespecial 3, 3)), (4, (.aload_n 0, 1)), (5, (.iconst (-1), 1)), (6, (.putfield 9, 3)), (9, (.aload_n 0, 1))]), (19, [(10, (.iconst 0, 1)), (11, (.putfield 15, 3)), (14, (.aload_n 0, 1)), (15, (.iconst 0, 1)), (16, (.putfield 18, 3)), (19, (.aload_n 0, 1))]), (31, [(20, (.iconst 3, 1)), (21, (.putfield 21, 3)), (24, (.aload_n 0, 1)), (25, (.sipush 1000, 3)), (28, (.putfield 24, 3)), (31, (.aload_n 0, 1))]), (41, [(32, (.iconst 0, 1)), (33, (.putfield 27, 3)), (36, (.aload_n 0, 1)), (37, (.iconst 0, 1)), (38, (.putfield 30, 3)), (41, (.aload_n 0, 1))]), (51, [(42, (.iconst 0, 1)), (43, (.putfield 33, 3)), (46, (.aload_n 0, 1)), (47, (.iconst 0, 1)), (48, (.putfield 36, 3)), (51, (.aload_n 0, 1))]), (61, [(52, (.iconst 0, 1)), (53, (.putfield 39, 3)), (56, (.aload_n 0, 1)), (57, (.iconst 0, 1)), (58, (.putfield 42, 3)), (61, (.aload_n 0, 1))]), (66, [(62, (.iconst 0, 1)), (63, (.putfield 45, 3)), (66, (.return_, 1))])]
def kt_159 : List (Nat × List (Nat × Instr × Nat)) := [(35, [(0, (.aload_n 0, 1)), (1, (.getfield 19, 3)), (4, (.aload_n 0, 1)), (5, (.getfield 15, 3)), (8, (.if_icmp .ge 27, 3)), (35, (.aload_n 0, 1))]), (47, [(36, (.aload_n 0, 1)), (37, (.getfield 19, 3)), (40, (.putfield 25, 3)), (43, (.aload_n 0, 1)), (44, (.getfield 19, 3)), (47, (.aload_n 0, 1))]), (59, [(48, (.getfield 15, 3)), (51, (.if_icmp .lt 11, 3)), (54, (.aload_n 0, 1)), (55, (.iconst 0, 1)), (56, (.putfield 22, 3)), (59, (.goto 172, 3))]), (231, [(231, (.return_, 1))])]
def kt_160 : List (Nat × List (Nat × Instr × Nat)) := [(8, [(0, (.aload_n 0, 1)), (1, (.invokespecial 3, 3)), (4, (.aload_n 0, 1)), (5, (.iconst 0, 1)), (6, (.newarray .byte, 2)), (8, (.putfield 9, 3))]), (18, [(11, (.aload_n 0, 1)), (12, (.iconst 0, 1)), (13, (.putfield 15, 3)), (16, (.aload_n 0, 1)), (17, (.iconst 0, 1)), (18, (.putfield 19, 3))]), (28, [(21, (.aload_n 0, 1)), (22, (.iconst 0, 1)), (23, (.putfield 22, 3)), (26, (.aload_n 0, 1)), (27, (.iconst 0, 1)), (28, (.putfield 25, 3))]), (38, [(31, (.aload_n 0, 1)), (32, (.iconst 0, 1)), (33, (.putfield 28, 3)), (36, (.aload_n 0, 1)), (37, (.iconst 0, 1)), (38, (.putfield 31, 3))]), (48, [(41, (.aload_n 0, 1)), (42, (.iconst 0, 1)), (43, (.putfield 34, 3)), (46, (.aload_n 0, 1)), (47, (.iconst (-1), 1)), (48, (.putfield 37, 3))]), (62, [(51, (.aload_n 0, 1)), (52, (.new 40, 3)), (55, (.dup, 1)), (56, (.invokespecial 42, 3)), (59, (.putfield 43, 3)), (62, (.return_, 1))])]
def kt_161 : List (Nat × List (Nat × Instr × Nat)) := [(7, [(0, (.aload_n 0, 1)), (1, (.aload_n 1, 1)), (2, (.putfield 9, 3)), (5, (.aload_n 0, 1)), (6, (.iload_n 2, 1)), (7, (.aload_n 1, 1))]), (17, [(8, (.arraylength, 1)), (9, (.invokestatic 47, 3)), (12, (.putfield 15, 3)), (15, (.aload_n 0, 1)), (16, (.iconst 0, 1)), (17, (.putfield 19, 3))]), (27, [(20, (.aload_n 0, 1)), (21, (.iconst 0, 1)), (22, (.putfield 34, 3)), (25, (.aload_n 0, 1)), (26, (.iconst (-1), 1)), (27, (.putfield 37, 3))]), (41, [(30, (.aload_n 0, 1)), (31, (.getfield 43, 3)), (34, (.invokevirtual 53, 3)), (37, (.aload_n 0, 1)), (38, (.invokevirtual 56, 3)), (41, (.iconst 0, 1))]), (51, [(42, (.istore_n 3, 1)), (43, (.iload_n 3, 1)), (44, (.aload_n 0, 1)), (45, (.getfield 15, 3)), (48, (.if_icmp .gt 140, 3)), (51, (.aload_n 0, 1))]), (188, [(52, (.getfield 34, 3)), (55, (.ifCond .ne 133, 3)), (58, (.aload_n 0, 1)), (59, (.getfield 22, 3)), (62, (.ifCond .eq 126, 3)), (188, (.return_, 1))])]
def kt_162 : List (Nat × List (Nat × Instr × Nat)) := [(9, [(0, (.aload_n 0, 1)), (1, (.aload_n 1, 1)), (2, (.getfield 24, 3)), (5, (.putfield 24, 3)), (8, (.aload_n 1, 1)), (9, (.getfield 9, 3))]), (20, [(12, (.iconst 0, 1)), (13, (.aload_n 0, 1)), (14, (.getfield 9, 3)), (17, (.iconst 0, 1)), (18, (.bipush 120, 2)), (20, (.invokestatic 28, 3))]), (32, [(23, (.aload_n 1, 1)), (24, (.getfield 15, 3)), (27, (.iconst 0, 1)), (28, (.aload_n 0, 1)), (29, (.getfield 15, 3)), (32, (.iconst 0, 1))]), (43, [(33, (.bipush 120, 2)), (35, (.invokestatic 28, 3)), (38, (.aload_n 1, 1)), (39, (.getfield 18, 3)), (42, (.iconst 0, 1)), (43, (.aload_n 0, 1))]), (54, [(44, (.getfield 18, 3)), (47, (.iconst 0, 1)), (48, (.bipush 120, 2)), (50, (.invokestatic 28, 3)), (53, (.aload_n 1, 1)), (54, (.getfield 21, 3))]), (65, [(57, (.iconst 0, 1)), (58, (.aload_n 0, 1)), (59, (.getfield 21, 3)), (62, (.iconst 0, 1)), (63, (.bipush 120, 2)), (65, (.invokestatic 28, 3))]), (68, [(68, (.return_, 1))])]
def kt_163 : List (Nat × List (Nat × Instr × Nat)) := [(9, [(0, (.aload_n 0, 1)), (1, (.invokespecial 3, 3)), (4, (.aload_n 0, 1)), (5, (.bipush 120, 2)), (7, (.newarray .int, 2)), (9, (.putfield 9, 3))]), (21, [(12, (.aload_n 0, 1)), (13, (.bipush 120, 2)), (15, (.newarray .int, 2)), (17, (.putfield 15, 3)), (20, (.aload_n 0, 1)), (21, (.bipush 120, 2))]), (33, [(23, (.newarray .int, 2)), (25, (.putfield 18, 3)), (28, (.aload_n 0, 1)), (29, (.bipush 120, 2)), (31, (.newarray .int, 2)), (33, (.putfield 21, 3))]), (41, [(36, (.aload_n 0, 1)), (37, (.iconst 0, 1)), (38, (.putfield 24, 3)), (41, (.return_, 1))])]
def kt_164 : List (Nat × List (Nat × Instr × Nat)) := [(9, [(0, (.aload_n 0, 1)), (1, (.invokespecial 3, 3)), (4, (.aload_n 0, 1)), (5, (.bipush 60, 2)), (7, (.newarray .long, 2)), (9, (.putfield 9, 3))]), (19, [(12, (.aload_n 0, 1)), (13, (.iconst 0, 1)), (14, (.putfield 15, 3)), (17, (.aload_n 0, 1)), (18, (.iconst 0, 1)), (19, (.putfield 19, 3))]), (27, [(22, (.aload_n 0, 1)), (23, (.iconst 0, 1)), (24, (.putfield 23, 3)), (27, (.return_, 1))])]
def kt_165 : List (Nat × List (Nat × Instr × Nat)) := [(7, [(0, (.aload_n 0, 1)), (1, (.iconst 1, 1)), (2, (.putfield 15, 3)), (5, (.aload_n 0, 1)), (6, (.iload_n 1, 1)), (7, (.putfield 19, 3))]), (19, [(10, (.aload_n 0, 1)), (11, (.iload_n 2, 1)), (12, (.putfield 23, 3)), (15, (.aload_n 0, 1)), (16, (.getfield 9, 3)), (19, (.lconst 0, 1))]), (23, [(20, (.invokestatic 26, 3)), (23, (.return_, 1))])]
def kt_166 : List (Nat × List (Nat × Instr × Nat)) := [(11, [(0, (.iload_n 1, 1)), (1, (.ifCond .lt 17, 3)), (4, (.iload_n 1, 1)), (5, (.sipush 730, 3)), (8, (.if_icmp .ge 10, 3)), (11, (.aload_n 0, 1))]), (18, [(12, (.getfield 19, 3)), (15, (.iload_n 1, 1)), (16, (.iconst 1, 1)), (17, (.bastore, 1)), (18, (.return_, 1))])]
def kt_167 : List (Nat × List (Nat × Instr × Nat)) := [(9, [(0, (.iconst 0, 1)), (1, (.istore_n 1, 1)), (2, (.iload_n 1, 1)), (3, (.sipush 730, 3)), (6, (.if_icmp .ge 35, 3)), (9, (.aload_n 0, 1))]), (19, [(10, (.iload_n 1, 1)), (11, (.invokevirtual 64, 3)), (14, (.aload_n 0, 1)), (15, (.iload_n 1, 1)), (16, (.sipush 150, 3)), (19, (.iadd, 1))]), (29, [(20, (.invokevirtual 64, 3)), (23, (.aload_n 0, 1)), (24, (.iload_n 1, 1)), (25, (.sipush 240, 3)), (28, (.iadd, 1)), (29, (.invokevirtual 64, 3))]), (41, [(32, (.iinc 1 365, 6)), (38, (.goto (-36), 3)), (41, (.return_, 1))])]
def kt_168 : List (Nat × List (Nat × Instr × Nat)) := [(7, [(0, (.iconst 0, 1)), (1, (.istore_n 2, 1)), (2, (.iload_n 2, 1)), (3, (.aload_n 1, 1)), (4, (.getfield 68, 3)), (7, (.if_icmp .ge 22, 3))]), (36, [(29, (.iconst 0, 1)), (30, (.istore_n 2, 1)), (31, (.iload_n 2, 1)), (32, (.aload_n 1, 1)), (33, (.getfield 80, 3)), (36, (.if_icmp .ge 37, 3))]), (80, [(73, (.iconst 0, 1)), (74, (.istore_n 2, 1)), (75, (.iload_n 2, 1)), (76, (.aload_n 1, 1)), (77, (.getfield 89, 3)), (80, (.if_icmp .ge 37, 3))]), (117, [(117, (.return_, 1))])]
def kt_169 : List (Nat × List (Nat × Instr × Nat)) := [(9, [(0, (.aload_n 0, 1)), (1, (.invokespecial 3, 3)), (4, (.aload_n 0, 1)), (5, (.bipush 37, 2)), (7, (.newarray .int, 2)), (9, (.putfield 11, 3))]), (21, [(12, (.aload_n 0, 1)), (13, (.iconst 0, 1)), (14, (.putfield 15, 3)), (17, (.aload_n 0, 1)), (18, (.sipush 730, 3)), (21, (.newarray .byte, 2))]), (35, [(23, (.putfield 19, 3)), (26, (.aload_n 0, 1)), (27, (.bipush 12, 2)), (29, (.bipush 36, 2)), (31, (.multianewarray 23 2, 4)), (35, (.putfield 25, 3))]), (50, [(38, (.aload_n 0, 1)), (39, (.bipush 12, 2)), (41, (.bipush 36, 2)), (43, (.multianewarray 23 2, 4)), (47, (.putfield 28, 3)), (50, (.aload_n 0, 1))]), (63, [(51, (.bipush 12, 2)), (53, (.bipush 36, 2)), (55, (.multianewarray 23 2, 4)), (59, (.putfield 31, 3)), (62, (.aload_n 0, 1)), (63, (.bipush 12, 2))]), (74, [(65, (.bipush 36, 2)), (67, (.multianewarray 23 2, 4)), (71, (.putfield 34, 3)), (74, (.return_, 1))])]
def kt_170 : List (Nat × List (Nat × Instr × Nat)) := [(9, [(0, (.aload_n 0, 1)), (1, (.getfield 19, 3)), (4, (.iconst 0, 1)), (5, (.invokestatic 37, 3)), (8, (.aload_n 0, 1)), (9, (.invokevirtual 43, 3))]), (21, [(12, (.aload_n 0, 1)), (13, (.aload_n 1, 1)), (14, (.invokevirtual 46, 3)), (17, (.aload_n 0, 1)), (18, (.invokevirtual 50, 3)), (21, (.iconst 0, 1))]), (57, [(22, (.istore_n 2, 1)), (23, (.iload_n 2, 1)), (24, (.aload_n 1, 1)), (25, (.getfield 53, 3)), (28, (.if_icmp .ge 29, 3)), (57, (.aload_n 1, 1))]), (65, [(58, (.getfield 53, 3)), (61, (.iconst 1, 1)), (62, (.isub, 1)), (63, (.istore_n 2, 1)), (64, (.iload_n 2, 1)), (65, (.ifCond .lt 15, 3))]), (80, [(80, (.return_, 1))])]
def kt_171 : List (Nat × List (Nat × Instr × Nat)) := [(8, [(0, (.aload_n 0, 1)), (1, (.iconst 0, 1)), (2, (.putfield 15, 3)), (5, (.iconst 0, 1)), (6, (.istore_n 1, 1)), (7, (.iload_n 1, 1)), (8, (.sipush 730, 3))]), (23, [(11, (.if_icmp .ge 64, 3)), (14, (.aload_n 0, 1)), (15, (.getfield 19, 3)), (18, (.iload_n 1, 1)), (19, (.baload, 1)), (20, (.ifCond .eq 32, 3)), (23, (.aload_n 0, 1))]), (37, [(24, (.getfield 15, 3)), (27, (.bipush 36, 2)), (29, (.if_icmp .ge 23, 3)), (32, (.aload_n 0, 1)), (33, (.getfield 11, 3)), (36, (.aload_n 0, 1)), (37, (.getfield 15, 3))]), (48, [(40, (.iload_n 1, 1)), (41, (.iastore, 1)), (42, (.aload_n 0, 1)), (43, (.dup, 1)), (44, (.getfield 15, 3)), (47, (.iconst 1, 1)), (48, (.iadd, 1))]), (59, [(49, (.putfield 15, 3)), (52, (.aload_n 0, 1)), (53, (.getfield 19, 3)), (56, (.iload_n 1, 1)), (57, (.iconst 0, 1)), (58, (.aload_n 0, 1)), (59, (.getfield 15, 3))]), (72, [(62, (.iconst 1, 1)), (63, (.isub, 1)), (64, (.invokestatic 95, 3)), (67, (.i2b, 1)), (68, (.bastore, 1)), (69, (.iinc 1 1, 3)), (72, (.goto (-65), 3))]), (87, [(75, (.aload_n 0, 1)), (76, (.getfield 11, 3)), (79, (.aload_n 0, 1)), (80, (.getfield 15, 3)), (83, (.sipush 730, 3)), (86, (.iastore, 1)), (87, (.return_, 1))])]
def kt_172 : List (Nat × List (Nat × Instr × Nat)) := [(13, [(0, (.aload_n 0, 1)), (1, (.invokespecial 5, 3)), (4, (.aload_n 0, 1)), (5, (.bipush 12, 2)), (7, (.bipush 41, 2)), (9, (.multianewarray 11 2, 4)), (13, (.putfield 13, 3))]), (29, [(16, (.aload_n 0, 1)), (17, (.bipush 12, 2)), (19, (.bipush 41, 2)), (21, (.multianewarray 11 2, 4)), (25, (.putfield 16, 3)), (28, (.aload_n 0, 1)), (29, (.bipush 120, 2))]), (44, [(31, (.newarray .int, 2)), (33, (.putfield 19, 3)), (36, (.aload_n 0, 1)), (37, (.bipush 120, 2)), (39, (.newarray .int, 2)), (41, (.putfield 23, 3)), (44, (.aload_n 0, 1))]), (57, [(45, (.iconst 0, 1)), (46, (.putfield 26, 3)), (49, (.aload_n 0, 1)), (50, (.new 30, 3)), (53, (.dup, 1)), (54, (.invokespecial 32, 3)), (57, (.putfield 33, 3))]), (72, [(60, (.aload_n 0, 1)), (61, (.new 30, 3)), (64, (.dup, 1)), (65, (.invokespecial 32, 3)), (68, (.putfield 37, 3)), (71, (.aload_n 0, 1)), (72, (.iconst 0, 1))]), (83, [(73, (.putfield 40, 3)), (76, (.aload_n 0, 1)), (77, (.iconst (-1), 1)), (78, (.putfield 43, 3)), (81, (.aload_n 0, 1)), (82, (.iconst (-1), 1)), (83, (.putfield 46, 3))]), (96, [(86, (.aload_n 0, 1)), (87, (.iconst (-1), 1)), (88, (.putfield 49, 3)), (91, (.aload_n 0, 1)), (92, (.iconst 0, 1)), (93, (.putfield 52, 3)), (96, (.return_, 1))])]
def kt_173 : List (Nat × List (Nat × Instr × Nat)) := [(10, [(0, (.aload_n 0, 1)), (1, (.getfield 52, 3)), (4, (.ifCond .eq 4, 3)), (8, (.aload_n 0, 1)), (9, (.iconst 0, 1)), (10, (.putfield 40, 3))]), (20, [(13, (.aload_n 0, 1)), (14, (.iconst (-1), 1)), (15, (.putfield 43, 3)), (18, (.aload_n 0, 1)), (19, (.iconst (-1), 1)), (20, (.putfield 46, 3))]), (31, [(23, (.aload_n 0, 1)), (24, (.iconst (-1), 1)), (25, (.putfield 49, 3)), (28, (.iconst 0, 1)), (29, (.istore 4, 2)), (31, (.iconst 0, 1))]), (128, [(32, (.istore 5, 2)), (34, (.iload 5, 2)), (36, (.aload_n 1, 1)), (37, (.getfield 56, 3)), (40, (.if_icmp .ge 88, 3)), (128, (.iconst 0, 1))]), (193, [(129, (.istore 5, 2)), (131, (.iload 5, 2)), (133, (.aload_n 1, 1)), (134, (.getfield 56, 3)), (137, (.if_icmp .ge 56, 3)), (193, (.aload_n 0, 1))]), (198, [(194, (.iconst 1, 1)), (195, (.putfield 52, 3)), (198, (.return_, 1))])]
def kt_174 : List (Nat × List (Nat × Instr × Nat)) := [(9, [(0, (.aload_n 0, 1)), (1, (.invokespecial 3, 3)), (4, (.aload_n 0, 1)), (5, (.bipush 36, 2)), (7, (.newarray .int, 2)), (9, (.putfield 11, 3))]), (20, [(12, (.aload_n 0, 1)), (13, (.bipush 36, 2)), (15, (.newarray .int, 2)), (17, (.putfield 17, 3)), (20, (.return_, 1))])]
def kt_175 : List (Nat × List (Nat × Instr × Nat)) := [(9, [(0, (.aload_n 0, 1)), (1, (.aload_n 1, 1)), (2, (.getfield 7, 3)), (5, (.putfield 7, 3)), (8, (.aload_n 0, 1)), (9, (.aload_n 1, 1))]), (21, [(10, (.getfield 13, 3)), (13, (.putfield 13, 3)), (16, (.aload_n 0, 1)), (17, (.aload_n 1, 1)), (18, (.getfield 17, 3)), (21, (.putfield 17, 3))]), (33, [(24, (.aload_n 0, 1)), (25, (.aload_n 1, 1)), (26, (.getfield 20, 3)), (29, (.putfield 20, 3)), (32, (.aload_n 0, 1)), (33, (.aload_n 1, 1))]), (40, [(34, (.getfield 23, 3)), (37, (.putfield 23, 3)), (40, (.return_, 1))])]
def kt_176 : List (Nat × List (Nat × Instr × Nat)) := [(9, [(0, (.aload_n 0, 1)), (1, (.invokespecial 1, 3)), (4, (.aload_n 0, 1)), (5, (.iconst 0, 1)), (6, (.putfield 7, 3)), (9, (.aload_n 0, 1))]), (19, [(10, (.iconst 0, 1)), (11, (.putfield 13, 3)), (14, (.aload_n 0, 1)), (15, (.iconst 0, 1)), (16, (.putfield 17, 3)), (19, (.aload_n 0, 1))]), (29, [(20, (.iconst 0, 1)), (21, (.putfield 20, 3)), (24, (.aload_n 0, 1)), (25, (.iconst 0, 1)), (26, (.putfield 23, 3)), (29, (.return_, 1))])]
def kt_177 : List (Nat × List (Nat × Instr × Nat)) := [(7, [(0, (.aload_n 0, 1)), (1, (.iconst 0, 1)), (2, (.putfield 17, 3)), (5, (.aload_n 0, 1)), (6, (.iconst 0, 1)), (7, (.putfield 27, 3))]), (17, [(10, (.aload_n 0, 1)), (11, (.iconst 0, 1)), (12, (.putfield 33, 3)), (15, (.aload_n 0, 1)), (16, (.iconst 0, 1)), (17, (.putfield 39, 3))]), (27, [(20, (.aload_n 0, 1)), (21, (.iconst 0, 1)), (22, (.putfield 48, 3)), (25, (.iconst 0, 1)), (26, (.istore_n 1, 1)), (27, (.iload_n 1, 1))]), (37, [(28, (.iconst 2, 1)), (29, (.if_icmp .ge 19, 3)), (32, (.aload_n 0, 1)), (33, (.getfield 44, 3)), (36, (.iload_n 1, 1)), (37, (.aaload, 1))]), (48, [(38, (.iconst 0, 1)), (39, (.putfield 54, 3)), (42, (.iinc 1 1, 3)), (45, (.goto (-18), 3)), (48, (.return_, 1))])]
def kt_178 : List (Nat × List (Nat × Instr × Nat)) := [(16, [(0, (.aload_n 0, 1)), (1, (.aload_n 1, 1)), (2, (.getfield 17, 3)), (5, (.putfield 17, 3)), (8, (.aload_n 0, 1)), (9, (.aload_n 1, 1)), (10, (.getfield 27, 3)), (13, (.putfield 27, 3)), (16, (.aload_n 0, 1))]), (33, [(17, (.aload_n 1, 1)), (18, (.getfield 33, 3)), (21, (.putfield 33, 3)), (24, (.aload_n 0, 1)), (25, (.aload_n 1, 1)), (26, (.getfield 39, 3)), (29, (.putfield 39, 3)), (32, (.aload_n 0, 1)), (33, (.aload_n 1, 1))]), (49, [(34, (.getfield 48, 3)), (37, (.putfield 48, 3)), (40, (.iconst 0, 1)), (41, (.istore_n 2, 1)), (42, (.iload_n 2, 1)), (43, (.bipush 12, 2)), (45, (.if_icmp .ge 24, 3)), (48, (.aload_n 0, 1)), (49, (.getfield 11, 3))]), (66, [(52, (.iload_n 2, 1)), (53, (.aaload, 1)), (54, (.aload_n 1, 1)), (55, (.getfield 11, 3)), (58, (.iload_n 2, 1)), (59, (.aaload, 1)), (60, (.invokevirtual 58, 3)), (63, (.iinc 2 1, 3)), (66, (.goto (-24), 3))]), (82, [(69, (.iconst 0, 1)), (70, (.istore_n 2, 1)), (71, (.iload_n 2, 1)), (72, (.bipush 6, 2)), (74, (.if_icmp .ge 54, 3)), (77, (.aload_n 0, 1)), (78, (.getfield 23, 3)), (81, (.iload_n 2, 1)), (82, (.aaload, 1))]), (97, [(83, (.aload_n 1, 1)), (84, (.getfield 23, 3)), (87, (.iload_n 2, 1)), (88, (.aaload, 1)), (89, (.invokevirtual 62, 3)), (92, (.aload_n 0, 1)), (93, (.getfield 30, 3)), (96, (.iload_n 2, 1)), (97, (.aaload, 1))]), (112, [(98, (.aload_n 1, 1)), (99, (.getfield 30, 3)), (102, (.iload_n 2, 1)), (103, (.aaload, 1)), (104, (.invokevirtual 62, 3)), (107, (.aload_n 0, 1)), (108, (.getfield 36, 3)), (111, (.iload_n 2, 1)), (112, (.aaload, 1))]), (129, [(113, (.aload_n 1, 1)), (114, (.getfield 36, 3)), (117, (.iload_n 2, 1)), (118, (.aaload, 1)), (119, (.invokevirtual 62, 3)), (122, (.iinc 2 1, 3)), (125, (.goto (-54), 3)), (128, (.iconst 0, 1)), (129, (.istore_n 2, 1))]), (142, [(130, (.iload_n 2, 1)), (131, (.iconst 2, 1)), (132, (.if_icmp .ge 24, 3)), (135, (.aload_n 0, 1)), (136, (.getfield 44, 3)), (139, (.iload_n 2, 1)), (140, (.aaload, 1)), (141, (.aload_n 1, 1)), (142, (.getfield 44, 3))]), (156, [(145, (.iload_n 2, 1)), (146, (.aaload, 1)), (147, (.invokevirtual 65, 3)), (150, (.iinc 2 1, 3)), (153, (.goto (-23), 3)), (156, (.return_, 1))])]
def kt_179 : List (Nat × List (Nat × Instr × Nat)) := [(15, [(0, (.aload_n 0, 1)), (1, (.invokespecial 3, 3)), (4, (.aload_n 0, 1)), (5, (.bipush 12, 2)), (7, (.anewarray 9, 3)), (10, (.putfield 11, 3)), (13, (.aload_n 0, 1)), (14, (.iconst 0, 1)), (15, (.putfield 17, 3))]), (33, [(18, (.aload_n 0, 1)), (19, (.bipush 6, 2)), (21, (.anewarray 21, 3)), (24, (.putfield 23, 3)), (27, (.aload_n 0, 1)), (28, (.iconst 0, 1)), (29, (.putfield 27, 3)), (32, (.aload_n 0, 1)), (33, (.bipush 6, 2))]), (52, [(35, (.anewarray 21, 3)), (38, (.putfield 30, 3)), (41, (.aload_n 0, 1)), (42, (.iconst 0, 1)), (43, (.putfield 33, 3)), (46, (.aload_n 0, 1)), (47, (.bipush 6, 2)), (49, (.anewarray 21, 3)), (52, (.putfield 36, 3))]), (69, [(55, (.aload_n 0, 1)), (56, (.iconst 0, 1)), (57, (.putfield 39, 3)), (60, (.aload_n 0, 1)), (61, (.iconst 2, 1)), (62, (.anewarray 42, 3)), (65, (.putfield 44, 3)), (68, (.aload_n 0, 1)), (69, (.iconst 0, 1))]), (85, [(70, (.putfield 48, 3)), (73, (.iconst 0, 1)), (74, (.istore_n 1, 1)), (75, (.iload_n 1, 1)), (76, (.bipush 12, 2)), (78, (.if_icmp .ge 22, 3)), (81, (.aload_n 0, 1)), (82, (.getfield 11, 3)), (85, (.iload_n 1, 1))]), (102, [(86, (.new 9, 3)), (89, (.dup, 1)), (90, (.invokespecial 51, 3)), (93, (.aastore, 1)), (94, (.iinc 1 1, 3)), (97, (.goto (-22), 3)), (100, (.iconst 0, 1)), (101, (.istore_n 1, 1)), (102, (.iload_n 1, 1))]), (120, [(103, (.bipush 6, 2)), (105, (.if_icmp .ge 48, 3)), (108, (.aload_n 0, 1)), (109, (.getfield 23, 3)), (112, (.iload_n 1, 1)), (113, (.new 21, 3)), (116, (.dup, 1)), (117, (.invokespecial 52, 3)), (120, (.aastore, 1))]), (135, [(121, (.aload_n 0, 1)), (122, (.getfield 30, 3)), (125, (.iload_n 1, 1)), (126, (.new 21, 3)), (129, (.dup, 1)), (130, (.invokespecial 52, 3)), (133, (.aastore, 1)), (134, (.aload_n 0, 1)), (135, (.getfield 36, 3))]), (154, [(138, (.iload_n 1, 1)), (139, (.new 21, 3)), (142, (.dup, 1)), (143, (.invokespecial 52, 3)), (146, (.aastore, 1)), (147, (.iinc 1 1, 3)), (150, (.goto (-48), 3)), (153, (.iconst 0, 1)), (154, (.istore_n 1, 1))]), (169, [(155, (.iload_n 1, 1)), (156, (.iconst 2, 1)), (157, (.if_icmp .ge 22, 3)), (160, (.aload_n 0, 1)), (161, (.getfield 44, 3)), (164, (.iload_n 1, 1)), (165, (.new 42, 3)), (168, (.dup, 1)), (169, (.invokespecial 53, 3))]), (179, [(172, (.aastore, 1)), (173, (.iinc 1 1, 3)), (176, (.goto (-21), 3)), (179, (.return_, 1))])]
def kt_cds : List (Nat × List (Nat × List (Nat × List (Nat × Instr × Nat)))) := [(9, [(0, kt_0), (1, kt_1), (2, kt_2), (3, kt_3), (4, kt_4), (5, kt_5), (6, kt_6), (7, kt_7), (8, kt_8), (9, kt_9)]), (19, [(10, kt_10), (11, kt_11), (12, kt_12), (13, kt_13), (14, kt_14), (15, kt_15), (16, kt_16), (17, kt_17), (18, kt_18), (19, kt_19)]), (29, [(20, kt_20), (21, kt_21), (22, kt_22), (23, kt_23), (24, kt_24), (25, kt_25), (26, kt_26), (27, kt_27), (28, kt_28), (29, kt_29)]), (39, [(30, kt_30), (31, kt_31), (32, kt_32), (33, kt_33), (34, kt_34), (35, kt_35), (36, kt_36), (37, kt_37), (38, kt_38), (39, kt_39)]), (49, [(40, kt_40), (41, kt_41), (42, kt_42), (43, kt_43), (44, kt_44), (45, kt_45), (46, kt_46), (47, kt_47), (48, kt_48), (49, kt_49)]), (59, [(50, kt_50), (51, kt_51), (52, kt_52), (53, kt_53), (54, kt_54), (55, kt_55), (56, kt_56), (57, kt_57), (58, kt_58), (59, kt_59)]), (69, [(60, kt_60), (61, kt_61), (62, kt_62), (63, kt_63), (64, kt_64), (65, kt_65), (66, kt_66), (67, kt_67), (68, kt_68), (69, kt_69)]), (79, [(70, kt_70), (71, kt_71), (72, kt_72), (73, kt_73), (74, kt_74), (75, kt_75), (76, kt_76), (77, kt_77), (78, kt_78), (79, kt_79)]), (89, [(80, kt_80), (81, kt_81), (82, kt_82), (83, kt_83), (84, kt_84), (85, kt_85), (86, kt_86), (87, kt_87), (88, kt_88), (89, kt_89)]), (99, [(90, kt_90), (91, kt_91), (92, kt_92), (93, kt_93), (94, kt_94), (95, kt_95), (96, kt_96), (97, kt_97), (98, kt_98), (99, kt_99)]), (109, [(100, kt_100), (101, kt_101), (102, kt_102), (103, kt_103), (104, kt_104), (105, kt_105), (106, kt_106), (107, kt_107), (108, kt_108), (109, kt_109)]), (119, [(110, kt_110), (111, kt_111), (112, kt_112), (113, kt_113), (114, kt_114), (115, kt_115), (116, kt_116), (117, kt_117), (118, kt_118), (119, kt_119)]), (129, [(120, kt_120), (121, kt_121), (122, kt_122), (123, kt_123), (124, kt_124), (125, kt_125), (126, kt_126), (127, kt_127), (128, kt_128), (129, kt_129)]), (139, [(130, kt_130), (131, kt_131), (132, kt_132), (133, kt_133), (134, kt_134), (135, kt_135), (136, kt_136), (137, kt_137), (138, kt_138), (139, kt_139)]), (149, [(140, kt_140), (141, kt_141), (142, kt_142), (143, kt_143), (144, kt_144), (145, kt_145), (146, kt_146), (147, kt_147), (148, kt_148), (149, kt_149)]), (159, [(150, kt_150), (151, kt_151), (152, kt_152), (153, kt_153), (154, kt_154), (155, kt_155), (156, kt_156), (157, kt_157), (158, kt_158), (159, kt_159)]), (169, [(160, kt_160), (161, kt_161), (162, kt_162), (163, kt_163), (164, kt_164), (165, kt_165), (166, kt_166), (167, kt_167), (168, kt_168), (169, kt_169)]), (179, [(170, kt_170), (171, kt_171), (172, kt_172), (173, kt_173), (174, kt_174), (175, kt_175), (176, kt_176), (177, kt_177), (178, kt_178), (179, kt_179)])]
def kt_cd (y pc : Nat) : Option (Instr × Nat) := match kc_f2 y kt_cds with
  | some l => kc_f2 pc l
  | none => none
def kt_mis : List (Nat × List (Nat × kc_M)) := [(9, [(0, (4, [5], 304, 130746, 5, 120, 13, false)), (1, (4, [3, 1], 0, 0, 0, 0, 14, false)), (2, (5, [3, 2], 0, 0, 0, 0, 14, false)), (3, (2, [3, 3], 0, 0, 0, 0, 0, false)), (4, (1, [3], 0, 0, 1, 20, 0, true)), (5, (3, [3, 1, 1], 2, 8192, 1, 24, 10, false)), (6, (5, [3, 1, 1], 0, 0, 0, 0, 10, false)), (7, (1, [3], 0, 0, 0, 0, 10, false)), (8, (1, [3], 18, 180, 1, 20, 10, true)), (9, (1, [3], 2, 8192, 0, 0, 10, false))]), (19, [(10, (5, [3, 3, 3, 1], 0, 0, 0, 0, 10, false)), (11, (3, [3, 1], 0, 0, 1, 21, 11, false)), (12, (6, [3, 1, 1, 1], 0, 0, 2, 47, 11, false)), (13, (2, [3, 1], 0, 0, 1, 22, 11, false)), (14, (5, [3, 1, 1, 1, 1], 0, 0, 1, 21, 11, false)), (15, (4, [3, 1, 1], 0, 0, 1, 22, 11, false)), (16, (7, [3, 1, 1, 1], 0, 0, 1, 21, 11, false)), (17, (3, [3, 1, 1], 0, 0, 1, 21, 11, false)), (18, (5, [3, 1, 1], 0, 0, 1, 21, 11, false)), (19, (4, [3, 1, 1], 2, 8192, 2, 46, 11, false))]), (29, [(20, (2, [3, 1], 0, 0, 1, 22, 11, false)), (21, (5, [3, 1, 1], 0, 0, 1, 21, 11, false)), (22, (5, [3, 1, 1], 0, 0, 1, 22, 11, false)), (23, (2, [3, 1], 0, 0, 0, 0, 11, false)), (24, (9, [3, 1, 1], 0, 0, 1, 22, 11, false)), (25, (2, [3, 1], 0, 0, 0, 0, 11, false)), (26, (6, [3, 1, 1, 1, 1, 1], 0, 0, 1, 22, 11, false)), (27, (4, [3], 0, 0, 0, 0, 11, false)), (28, (2, [3, 1], 0, 0, 1, 21, 11, false)), (29, (5, [3, 1, 1, 1], 0, 0, 1, 21, 11, false))]), (39, [(30, (1, [3], 0, 0, 0, 0, 11, false)), (31, (5, [3, 1, 1], 0, 0, 1, 21, 11, false)), (32, (11, [3, 1, 1], 0, 0, 1, 21, 11, false)), (33, (2, [3], 209, 6736, 4, 81, 11, true)), (34, (1, [1], 0, 0, 0, 0, 11, false)), (35, (2, [3, 1], 0, 0, 0, 0, 11, false)), (36, (1, [1], 0, 0, 0, 0, 11, false)), (37, (2, [3, 1], 0, 0, 0, 0, 11, false)), (38, (3, [1, 1, 1], 0, 0, 0, 0, 11, false)), (39, (6, [3, 1, 1, 1], 0, 0, 1, 21, 11, false))]), (49, [(40, (2, [3, 1], 43, 753, 3, 61, 11, false)), (41, (2, [3, 1], 0, 0, 1, 27, 11, false)), (42, (7, [3, 1, 1], 0, 0, 1, 24, 11, false)), (43, (1, [3], 0, 0, 3, 64, 11, false)), (44, (8, [3, 1, 1, 1, 1], 0, 0, 1, 21, 11, false)), (45, (11, [3, 1, 1, 1, 1], 0, 0, 1, 22, 11, false)), (46, (6, [3, 1], 0, 0, 1, 20, 11, false)), (47, (5, [3, 1], 0, 0, 1, 21, 11, false)), (48, (6, [3, 1], 0, 0, 1, 20, 11, false)), (49, (3, [3, 1, 1], 0, 0, 1, 21, 11, false))]), (59, [(50, (3, [3, 1, 1], 0, 0, 1, 21, 11, false)), (51, (7, [3, 1, 1, 1, 1], 0, 0, 2, 47, 11, false)), (52, (8, [3, 1, 1, 1, 1, 1], 0, 0, 1, 20, 11, false)), (53, (3, [3, 1], 0, 0, 0, 0, 11, false)), (54, (5, [3, 1, 1, 1], 0, 0, 1, 21, 11, false)), (55, (5, [3, 1, 1, 1, 1], 0, 0, 1, 21, 11, false)), (56, (5, [3, 1, 1], 0, 0, 1, 21, 11, false)), (57, (3, [3, 1, 1], 0, 0, 1, 21, 11, false)), (58, (5, [3, 1, 1], 0, 0, 1, 22, 11, false)), (59, (4, [3, 1, 1, 1], 0, 0, 2, 46, 11, false))]), (69, [(60, (3, [3], 0, 0, 0, 0, 11, false)), (61, (4, [3], 0, 0, 0, 0, 11, false)), (62, (9, [3, 1, 1, 1, 1], 0, 0, 1, 21, 11, false)), (63, (2, [3, 1], 0, 0, 1, 21, 11, false)), (64, (3, [3, 1, 1], 0, 0, 1, 21, 11, false)), (65, (3, [3, 1, 1], 0, 0, 0, 0, 11, false)), (66, (2, [3], 0, 0, 4, 84, 11, false)), (67, (3, [3, 1, 1], 0, 0, 1, 21, 11, false)), (68, (2, [3, 1], 0, 0, 1, 20, 11, false)), (69, (3, [3, 1, 1], 0, 0, 1, 21, 11, false))]), (79, [(70, (5, [3, 1, 1], 0, 0, 0, 0, 11, false)), (71, (2, [3, 1], 0, 0, 1, 21, 11, false)), (72, (2, [3, 1], 0, 0, 1, 21, 11, false)), (73, (3, [3, 1], 0, 0, 1, 21, 11, false)), (74, (3, [3, 1, 1], 0, 0, 1, 21, 11, false)), (75, (3, [3, 1, 1], 0, 0, 1, 21, 11, false)), (76, (6, [3, 1], 0, 0, 1, 20, 11, false)), (77, (6, [3, 1, 1, 2], 0, 0, 1, 20, 11, false)), (78, (3, [3, 1], 0, 0, 2, 46, 12, false)), (79, (8, [3, 1, 1, 1], 0, 0, 2, 46, 12, false))]), (89, [(80, (2, [3, 1], 0, 0, 1, 25, 12, false)), (81, (5, [3, 1, 1, 1, 1], 0, 0, 2, 46, 12, false)), (82, (1, [3], 0, 0, 2, 44, 12, false)), (83, (3, [3], 0, 0, 0, 0, 12, false)), (84, (3, [3, 1, 1], 0, 0, 1, 25, 12, false)), (85, (4, [3, 1, 1, 1], 0, 0, 2, 46, 12, false)), (86, (3, [3, 1, 1], 0, 0, 2, 46, 12, false)), (87, (5, [3, 1, 1], 0, 0, 2, 46, 12, false)), (88, (2, [3], 0, 0, 3, 70, 12, false)), (89, (12, [3, 1, 1], 0, 0, 2, 45, 12, false))]), (99, [(90, (4, [3, 1, 1], 0, 0, 0, 0, 12, false)), (91, (6, [3, 1, 1], 0, 0, 0, 0, 12, false)), (92, (4, [3, 1], 0, 0, 0, 0, 12, false)), (93, (6, [3, 1, 1], 0, 0, 2, 46, 12, false)), (94, (5, [3, 1, 1], 0, 0, 2, 45, 12, false)), (95, (2, [3, 1], 0, 0, 1, 25, 12, false)), (96, (11, [3, 1, 1], 0, 0, 2, 46, 12, false)), (97, (2, [3, 1], 0, 0, 0, 0, 12, false)), (98, (6, [3, 1, 1, 1, 1, 1], 0, 0, 1, 22, 12, false)), (99, (3, [3], 0, 0, 4, 91, 12, false))]), (109, [(100, (2, [3, 1], 0, 0, 2, 46, 12, false)), (101, (5, [3], 0, 0, 2, 46, 12, false)), (102, (5, [3, 1, 1, 1], 0, 0, 2, 46, 12, false)), (103, (4, [3, 1, 1], 0, 0, 0, 0, 12, false)), (104, (3, [3, 1], 0, 0, 0, 0, 12, false)), (105, (5, [3, 1, 1], 0, 0, 2, 46, 12, false)), (106, (3, [3, 1], 0, 0, 2, 46, 12, false)), (107, (6, [3, 1, 1], 0, 0, 2, 46, 12, false)), (108, (6, [2, 2, 2], 0, 0, 0, 0, 12, false)), (109, (2, [3], 50, 115732, 1, 20, 12, true))]), (119, [(110, (4, [3, 1, 1, 1], 0, 0, 0, 0, 12, false)), (111, (1, [1], 0, 0, 1, 25, 12, false)), (112, (1, [3], 0, 0, 0, 0, 12, false)), (113, (2, [3, 1], 0, 0, 1, 25, 12, false)), (114, (1, [3], 0, 0, 0, 0, 12, false)), (115, (2, [3, 1], 0, 0, 0, 0, 12, false)), (116, (1, [1], 0, 0, 1, 25, 12, false)), (117, (6, [3, 1, 1, 1], 0, 0, 2, 46, 12, false)), (118, (2, [3, 1], 0, 0, 1, 25, 12, false)), (119, (2, [3, 1], 0, 0, 3, 67, 12, false))]), (129, [(120, (6, [3, 1, 1], 0, 0, 2, 45, 12, false)), (121, (8, [3, 1, 1, 1, 1], 0, 0, 2, 46, 12, false)), (122, (12, [3, 1, 1, 1, 1], 0, 0, 1, 25, 12, false)), (123, (6, [3, 1], 0, 0, 2, 45, 12, false)), (124, (5, [3, 1], 0, 0, 2, 46, 12, false)), (125, (2, [3], 0, 0, 1, 23, 12, false)), (126, (6, [3, 1], 0, 0, 4, 95, 12, false)), (127, (3, [3, 1, 1], 0, 0, 2, 46, 12, false)), (128, (3, [3, 1, 1], 0, 0, 2, 46, 12, false)), (129, (7, [3, 1, 1, 1, 1], 0, 0, 2, 46, 12, false))]), (139, [(130, (7, [3, 1, 1, 1, 1, 1], 0, 0, 2, 45, 12, false)), (131, (3, [3], 0, 0, 1, 23, 12, false)), (132, (8, [3, 1, 1, 1], 0, 0, 2, 46, 12, false)), (133, (5, [3, 1, 1, 1, 1], 0, 0, 2, 46, 12, false)), (134, (5, [3, 1, 1], 0, 0, 2, 46, 12, false)), (135, (3, [3, 1, 1], 0, 0, 2, 46, 12, false)), (136, (8, [3, 1, 1], 0, 0, 2, 45, 12, false)), (137, (5, [3, 1, 1, 1], 0, 0, 2, 45, 12, false)), (138, (4, [3], 0, 0, 4, 91, 12, false)), (139, (8, [3, 1, 1, 1, 1], 0, 0, 2, 46, 12, false))]), (149, [(140, (2, [3, 1], 0, 0, 2, 46, 12, false)), (141, (8, [3, 1, 1], 0, 0, 1, 21, 12, false)), (142, (3, [3, 1], 0, 0, 2, 45, 12, false)), (143, (3, [3, 1, 1], 0, 0, 1, 25, 12, false)), (144, (1, [3], 0, 0, 3, 64, 12, false)), (145, (3, [3, 1, 1], 0, 0, 2, 46, 12, false)), (146, (4, [3, 1], 0, 0, 1, 23, 12, false)), (147, (2, [3, 1], 0, 0, 1, 25, 12, false)), (148, (3, [3, 1, 1], 0, 0, 2, 46, 12, false)), (149, (6, [3, 1], 0, 0, 3, 70, 12, false))]), (159, [(150, (4, [3, 1], 0, 0, 2, 46, 12, false)), (151, (2, [3, 1], 0, 0, 1, 21, 12, false)), (152, (2, [3, 1], 0, 0, 2, 46, 12, false)), (153, (3, [3, 1, 1], 0, 0, 2, 46, 12, false)), (154, (3, [3, 1, 1], 0, 0, 2, 46, 12, false)), (155, (6, [3, 1], 0, 0, 2, 45, 12, false)), (156, (5, [3, 1, 1, 2], 0, 0, 2, 45, 12, false)), (157, (2, [3, 3], 0, 0, 0, 0, 1, false)), (158, (1, [3], 0, 0, 1, 20, 1, true)), (159, (1, [3], 0, 0, 0, 0, 2, false))]), (169, [(160, (1, [3], 39, 268, 3, 61, 2, true)), (161, (5, [3, 3, 1], 0, 0, 1, 21, 2, false)), (162, (2, [3, 3], 0, 0, 1, 26, 3, false)), (163, (1, [3], 4, 480, 1, 20, 3, true)), (164, (1, [3], 1, 60, 1, 20, 4, true)), (165, (3, [3, 1, 1], 0, 0, 1, 24, 4, false)), (166, (2, [3, 1], 0, 0, 0, 0, 5, false)), (167, (2, [3], 0, 0, 1, 21, 5, false)), (168, (3, [3, 3], 0, 0, 0, 0, 5, false)), (169, (1, [3], 54, 2543, 1, 20, 5, true))]), (179, [(170, (3, [3, 3], 0, 0, 2, 42, 5, false)), (171, (2, [3], 0, 0, 1, 21, 5, false)), (172, (1, [3], 34, 1396, 2, 40, 6, true)), (173, (8, [3, 3, 3, 3], 0, 0, 0, 0, 6, false)), (174, (1, [3], 2, 72, 1, 20, 7, true)), (175, (2, [3, 3], 0, 0, 0, 0, 8, false)), (176, (1, [3], 0, 0, 1, 20, 8, true)), (177, (2, [3], 0, 0, 0, 0, 9, false)), (178, (3, [3, 3], 0, 0, 1, 21, 9, false)), (179, (2, [3], 37, 258, 2, 40, 9, true))])]
def kt_mi (y : Nat) : kc_M := (kc_f2 y kt_mis).getD (0, [], 0, 0, 0, 0, 0, false)
def kt_lks : List (Nat × List (Nat × List (Nat × List (Nat × Nat × Nat)))) := [(5, [(0, [(1, [(1, (3, 0))])]), (1, [(3, [(3, (3, 0))])]), (2, [(56, [(3, (3, 0)), (42, (2, 179)), (47, (5, 0)), (53, (0, 177)), (56, (0, 159))])]), (3, [(28, [(3, (3, 0)), (28, (4, 0))])]), (4, [(26, [(3, (3, 0)), (26, (1, 2))])]), (5, [(64, [(3, (3, 0)), (37, (1, 1)), (43, (0, 167)), (46, (0, 168)), (50, (0, 171)), (64, (0, 166))]), (95, [(95, (6, 0))])])]), (11, [(6, [(32, [(5, (3, 0)), (32, (12, 174))])]), (7, [(3, [(3, (3, 0))])]), (8, [(1, [(1, (3, 0))])]), (9, [(62, [(3, (3, 0)), (51, (12, 158)), (52, (12, 4)), (53, (12, 176)), (58, (0, 157)), (62, (0, 3))]), (65, [(65, (0, 175))])]), (10, [(84, [(3, (3, 0)), (75, (0, 9)), (78, (0, 10)), (84, (0, 6))])]), (11, [(61, [(1, (3, 0)), (19, (2, 179)), (26, (12, 160)), (39, (12, 163)), (54, (12, 169)), (61, (12, 174))]), (114, [(68, (12, 172)), (75, (12, 8)), (93, (12, 164)), (94, (0, 53)), (98, (0, 161)), (114, (0, 43))]), (226, [(120, (0, 170)), (124, (0, 7)), (140, (0, 35)), (144, (1, 34)), (147, (1, 38)), (226, (0, 30))]), (466, [(302, (0, 173)), (333, (0, 37)), (366, (0, 16)), (387, (0, 5)), (427, (0, 70)), (466, (0, 60))]), (488, [(472, (0, 178)), (475, (0, 162)), (478, (1, 36)), (488, (0, 165))])])]), (13, [(12, [(233, [(1, (3, 0)), (176, (1, 108)), (180, (1, 116)), (191, (0, 104)), (198, (0, 110)), (233, (0, 125))]), (393, [(344, (0, 82)), (347, (0, 112)), (357, (0, 114)), (360, (0, 91)), (390, (0, 113)), (393, (1, 111))]), (460, [(396, (0, 103)), (415, (0, 83)), (418, (0, 146)), (421, (0, 106)), (457, (0, 101)), (460, (0, 88))]), (570, [(468, (0, 149)), (496, (0, 131)), (505, (0, 142)), (511, (0, 115)), (570, (0, 90))])]), (13, [(22, [(9, (2, 33)), (12, (2, 109)), (13, (0, 26)), (17, (0, 98)), (18, (0, 23)), (22, (0, 95))]), (36, [(23, (0, 66)), (27, (0, 144)), (28, (0, 25)), (31, (0, 97)), (32, (0, 29)), (36, (0, 102))]), (50, [(37, (0, 67)), (41, (0, 145)), (42, (0, 74)), (45, (0, 153)), (46, (0, 55)), (50, (0, 133))]), (62, [(51, (0, 54)), (54, (0, 132)), (55, (0, 68)), (58, (0, 147)), (59, (0, 65)), (62, (0, 143))]), (74, [(63, (0, 56)), (66, (0, 134)), (67, (0, 21)), (70, (0, 93)), (71, (0, 14)), (74, (0, 81))]), (86, [(75, (0, 44)), (78, (0, 121)), (79, (0, 28)), (82, (0, 100)), (83, (0, 27)), (86, (0, 99))]), (98, [(87, (0, 61)), (90, (0, 138)), (91, (0, 11)), (94, (0, 78)), (95, (0, 73)), (98, (0, 152))]), (110, [(99, (0, 41)), (102, (0, 119)), (103, (0, 63)), (106, (0, 140)), (107, (0, 48)), (110, (0, 126))]), (122, [(111, (0, 69)), (114, (0, 148)), (115, (0, 72)), (118, (0, 151)), (119, (0, 64)), (122, (0, 141))]), (134, [(123, (0, 58)), (126, (0, 136)), (127, (0, 15)), (130, (0, 84)), (131, (0, 16)), (134, (0, 85))]), (146, [(135, (0, 51)), (138, (0, 129)), (139, (0, 19)), (142, (0, 89)), (143, (0, 75)), (146, (0, 154))]), (158, [(147, (0, 49)), (150, (0, 127)), (151, (0, 57)), (154, (0, 135)), (155, (0, 46)), (158, (0, 123))]), (170, [(159, (0, 22)), (162, (0, 94)), (163, (0, 42)), (166, (0, 120)), (167, (0, 24)), (170, (0, 96))]), (182, [(171, (0, 50)), (174, (0, 128)), (175, (0, 76)), (178, (0, 155)), (179, (0, 45)), (182, (0, 122))]), (194, [(183, (0, 17)), (186, (0, 86)), (187, (0, 18)), (190, (0, 87)), (191, (0, 12)), (194, (0, 79))]), (206, [(195, (0, 62)), (198, (0, 139)), (199, (0, 31)), (202, (0, 105)), (203, (0, 71)), (206, (0, 150))]), (218, [(207, (0, 47)), (210, (0, 124)), (211, (0, 32)), (214, (0, 107)), (215, (0, 39)), (218, (0, 117))]), (230, [(219, (0, 20)), (222, (0, 92)), (223, (0, 40)), (226, (0, 118)), (227, (0, 13)), (230, (0, 80))]), (245, [(231, (0, 59)), (234, (0, 137)), (237, (0, 77)), (241, (0, 156)), (242, (0, 52)), (245, (0, 130))])])])]
def kt_lk (c ix : Nat) : Option (Nat × Nat) := match kc_f2 c kt_lks with
  | some l => kc_f2 ix l
  | none => none
def kt_fls : List (Nat × List (Nat × List (Nat × List (Nat × Nat × Nat)))) := [(5, [(0, [(19, [(7, (0, 0)), (13, (0, 1)), (16, (0, 2)), (19, (0, 3))])]), (1, [(27, [(9, (1, 0)), (15, (1, 1)), (18, (1, 2)), (21, (1, 3)), (24, (1, 4)), (27, (1, 5))]), (45, [(30, (1, 6)), (33, (1, 7)), (36, (1, 8)), (39, (1, 9)), (42, (1, 10)), (45, (1, 11))])]), (2, [(28, [(9, (2, 0)), (15, (2, 1)), (19, (2, 2)), (22, (2, 3)), (25, (2, 4)), (28, (2, 5))]), (43, [(31, (2, 6)), (34, (2, 7)), (37, (2, 8)), (43, (2, 9))])]), (3, [(24, [(9, (3, 0)), (15, (3, 1)), (18, (3, 2)), (21, (3, 3)), (24, (3, 4))])]), (4, [(23, [(9, (4, 0)), (15, (4, 1)), (19, (4, 2)), (23, (4, 3))])]), (5, [(31, [(11, (5, 0)), (15, (5, 1)), (19, (5, 2)), (25, (5, 3)), (28, (5, 4)), (31, (5, 5))]), (89, [(34, (5, 6)), (53, (9, 1)), (68, (9, 3)), (80, (9, 5)), (89, (9, 7))])])]), (11, [(6, [(33, [(13, (6, 0)), (16, (6, 1)), (19, (6, 2)), (23, (6, 3)), (26, (6, 4)), (33, (6, 5))]), (52, [(37, (6, 6)), (40, (6, 7)), (43, (6, 8)), (46, (6, 9)), (49, (6, 10)), (52, (6, 11))]), (56, [(56, (9, 1))])]), (7, [(17, [(11, (7, 0)), (17, (7, 1))])]), (8, [(23, [(7, (8, 0)), (13, (8, 1)), (17, (8, 2)), (20, (8, 3)), (23, (8, 4))])]), (9, [(33, [(11, (9, 0)), (17, (9, 1)), (23, (9, 2)), (27, (9, 3)), (30, (9, 4)), (33, (9, 5))]), (54, [(36, (9, 6)), (39, (9, 7)), (44, (9, 8)), (48, (9, 9)), (54, (8, 0))])]), (10, [(30, [(9, (10, 0)), (15, (10, 1)), (19, (10, 2)), (22, (10, 3)), (25, (10, 4)), (30, (10, 5))]), (37, [(33, (10, 6)), (37, (10, 7))])]), (11, [(34, [(9, (11, 0)), (13, (11, 1)), (20, (11, 2)), (27, (11, 3)), (31, (11, 4)), (34, (11, 5))]), (69, [(40, (11, 6)), (44, (11, 7)), (48, (11, 8)), (55, (11, 9)), (62, (11, 10)), (69, (11, 11))]), (105, [(76, (11, 12)), (82, (11, 13)), (86, (11, 14)), (90, (11, 15)), (102, (2, 7)), (105, (2, 8))]), (306, [(108, (2, 9)), (111, (3, 4)), (117, (9, 9)), (127, (6, 11)), (131, (9, 1)), (306, (6, 8))]), (393, [(309, (6, 9)), (312, (6, 10)), (315, (6, 7)), (352, (9, 8)), (356, (8, 0)), (393, (9, 3))]), (469, [(469, (4, 1))])])]), (12, [(12, [(27, [(7, (12, 1)), (13, (12, 2)), (16, (12, 3)), (20, (12, 4)), (23, (12, 5)), (27, (12, 15))]), (46, [(31, (12, 16)), (34, (12, 17)), (37, (12, 18)), (40, (12, 19)), (43, (12, 20)), (46, (12, 21))]), (64, [(49, (12, 22)), (52, (12, 23)), (55, (12, 24)), (58, (12, 25)), (61, (12, 26)), (64, (12, 27))]), (82, [(67, (12, 28)), (70, (12, 29)), (73, (12, 30)), (76, (12, 31)), (79, (12, 32)), (82, (12, 33))]), (100, [(85, (12, 34)), (88, (12, 35)), (91, (12, 36)), (94, (12, 37)), (97, (12, 38)), (100, (12, 39))]), (119, [(103, (12, 40)), (106, (12, 41)), (110, (12, 42)), (113, (12, 43)), (116, (12, 44)), (119, (12, 45))]), (137, [(122, (12, 46)), (125, (12, 47)), (128, (12, 50)), (131, (12, 51)), (134, (12, 52)), (137, (12, 53))]), (155, [(140, (12, 54)), (143, (12, 55)), (146, (12, 56)), (149, (12, 57)), (152, (12, 58)), (155, (12, 59))]), (188, [(158, (12, 60)), (162, (12, 67)), (165, (12, 68)), (168, (12, 69)), (171, (12, 0)), (188, (12, 6))]), (223, [(195, (12, 7)), (202, (12, 9)), (205, (12, 10)), (208, (12, 11)), (212, (12, 8)), (223, (12, 12))]), (487, [(226, (12, 13)), (250, (12, 14)), (478, (12, 61)), (481, (12, 62)), (484, (12, 63)), (487, (12, 64))]), (493, [(490, (12, 65)), (493, (12, 66))])])])]
def kt_fl (c ix : Nat) : Option (Nat × Nat) := match kc_f2 c kt_fls with
  | some l => kc_f2 ix l
  | none => none
def kt_nws : List (Nat × List (Nat × List (Nat × List (Nat × Nat)))) := [(13, [(2, [(40, [(40, 9)])]), (6, [(30, [(30, 7)])]), (9, [(42, [(9, 1), (21, 0), (42, 8)])]), (11, [(66, [(17, 9), (24, 2), (37, 3), (52, 5), (59, 7), (66, 6)]), (80, [(73, 10), (80, 4)])]), (13, [(10, [(7, 11), (10, 12)])])])]
def kt_nw (c ix : Nat) : Option (Nat) := match kc_f2 c kt_nws with
  | some l => kc_f2 ix l
  | none => none
def kt_aws : List (Nat × List (Nat × List (Nat × List (Nat × FieldType)))) := [(11, [(9, [(42, [(9, (.object "WheelTown$Meter")), (21, (.object "WheelTown$Event")), (42, (.object "WheelTown$Tariff"))])]), (11, [(80, [(17, (.object "WheelTown$Town")), (37, (.object "WheelTown$Readings")), (80, (.object "WheelTown$Slot"))])])])]
def kt_aw (c ix : Nat) : Option (FieldType) := match kc_f2 c kt_aws with
  | some l => kc_f2 ix l
  | none => none
def kt_mxs : List (Nat × List (Nat × List (Nat × List (Nat × Bool)))) := [(10, [(5, [(23, [(23, true)])]), (6, [(11, [(11, true)])]), (10, [(28, [(28, true)])])])]
def kt_mx (c ix : Nat) : Option (Bool) := match kc_f2 c kt_mxs with
  | some l => kc_f2 ix l
  | none => none
def kt_mw (c ix : Nat) : Bool := (kt_mx c ix).getD false
def kt_kws : List (Nat × List (Nat × List (Nat × List (Nat × Nat × Int)))) := [(13, [(11, [(451, [(164, (1, (-2000000000))), (289, (1, 1000000)), (380, (1, 99999)), (426, (1, 999999)), (451, (1, 2000000000))])]), (12, [(466, [(161, (1, 49152)), (174, (2, 3)), (364, (2, 729)), (400, (1, (-2000000000))), (430, (2, 2)), (466, (2, 1000000))]), (568, [(523, (2, 9999)), (539, (2, 99999)), (553, (2, 2000000000)), (568, (2, 999999))])]), (13, [(235, [(235, (2, 4294967295))])])])]
def kt_kw (c ix : Nat) : Option (Nat × Int) := match kc_f2 c kt_kws with
  | some l => kc_f2 ix l
  | none => none
def kt_fds : List (Nat × List (FieldType × Bool)) := [(0, [(.int, false), (.int, false), (.int, false), (.int, false)]), (1, [(.int, false), (.int, false), (.int, false), (.int, false), (.int, false), (.int, false), (.int, false), (.int, false), (.int, false), (.int, false), (.int, false), (.int, false)]), (2, [((.array .byte), false), (.int, false), (.int, false), (.int, false), (.int, false), (.int, false), (.int, false), (.int, false), (.int, false), ((.object "WheelTown$Town"), false)]), (3, [((.array .int), true), ((.array .int), true), ((.array .int), true), ((.array .int), true), (.int, false)]), (4, [((.array .long), true), (.boolean, false), (.int, false), (.int, false)]), (5, [((.array .int), true), (.int, false), ((.array .byte), true), ((.array (.array .int)), true), ((.array (.array .int)), true), ((.array (.array .int)), true), ((.array (.array .int)), true)]), (6, [((.array (.array .int)), true), ((.array (.array .int)), true), ((.array .int), true), ((.array .int), true), (.int, false), ((.object "WheelTown$Tally"), true), ((.object "WheelTown$Tally"), true), (.int, false), (.int, false), (.int, false), (.int, false), (.boolean, false)]), (7, [((.array .int), true), ((.array .int), true)]), (8, [(.boolean, false), (.int, false), (.int, false), (.int, false), (.int, false)]), (9, [((.array (.object "WheelTown$Meter")), true), (.int, false), ((.array (.object "WheelTown$Event")), true), (.int, false), ((.array (.object "WheelTown$Event")), true), (.int, false), ((.array (.object "WheelTown$Event")), true), (.int, false), ((.array (.object "WheelTown$Tariff")), true), (.int, false)]), (10, [((.array .short), false), ((.array .int), false), ((.array .int), false), ((.array .int), true), ((.array .int), true), ((.array (.array .int)), true), (.int, false), (.int, false)]), (11, [((.array .byte), true), (.int, false), ((.object "WheelTown$Town"), false), ((.object "WheelTown$Parser"), true), (.int, false), (.int, false), ((.object "WheelTown$Readings"), true), ((.array (.object "WheelTown$Town")), true), ((.array (.object "WheelTown$Readings")), true), ((.object "WheelTown$Stretches"), true), ((.object "WheelTown$Tally"), true), ((.object "WheelTown$Supposed"), true), ((.object "WheelTown$Walks"), true), ((.array (.object "WheelTown$Slot")), true), ((.array .int), true), ((.array .int), true)]), (12, [(.int, false), ((.array .int), true), ((.array .int), true), ((.array .long), true), ((.array .long), true), ((.array .byte), true), (.int, false), (.int, false), (.int, false), (.int, false), (.int, false), (.long, false), (.int, false), (.int, false), (.int, false), (.int, false), ((.array .int), true), ((.array .int), true), ((.array .int), true), ((.array .int), true), ((.array .int), true), ((.array .int), true), ((.array .int), true), ((.array .int), true), ((.array .int), true), ((.array .int), true), ((.array .int), true), ((.array .int), true), ((.array .int), true), ((.array .int), true), ((.array .int), true), ((.array .int), true), ((.array .int), true), ((.array .int), true), ((.array .int), true), ((.array .int), true), ((.array .int), true), ((.array .int), true), ((.array .int), true), ((.array .int), true), ((.array .int), true), ((.array .boolean), true), ((.array .int), true), ((.array .int), true), ((.array .int), true), ((.array .int), true), ((.array .boolean), true), (.int, false), (.int, false), (.int, false), ((.array .int), true), ((.array .long), true), ((.array .int), true), ((.array .int), true), ((.array .int), true), ((.array .int), true), ((.array .int), true), ((.array .int), true), ((.array .int), true), ((.array .int), true), ((.array .boolean), true), (.int, false), (.int, false), (.int, false), (.int, false), (.int, false), (.int, false), ((.array .int), true), ((.array .int), true), ((.array .int), true)])]
def kt_fd (c : Nat) : List (FieldType × Bool) := (kc_f1 c kt_fds).getD []
def kt_cns : List (Nat × FieldType) := [(0, .object "WheelTown$Event"), (1, .object "WheelTown$Meter"), (2, .object "WheelTown$Parser"), (3, .object "WheelTown$Readings"), (4, .object "WheelTown$Slot"), (5, .object "WheelTown$Stretches"), (6, .object "WheelTown$Supposed"), (7, .object "WheelTown$Tally"), (8, .object "WheelTown$Tariff"), (9, .object "WheelTown$Town"), (10, .object "WheelTown$Walks"), (11, .object "WheelTown"), (12, .object "WheelTownModel")]
def kt_cn (c : Nat) : FieldType := (kc_f1 c kt_cns).getD .int
def kt_hds : List (Nat × List (Nat × kc_A)) := [(1, [(5, ([(2, 0, 730)], [], [], []))]), (2, [(6, ([(3, 0, 60)], [], [], []))]), (90, [(14, ([(3, 0, 120)], [], [], []))]), (91, [(38, ([(3, 0, 12)], [], [], [])), (246, ([(3, 0, 6)], [], [], [])), (458, ([(3, 0, 2)], [], [], []))]), (96, [(50, ([(7, 0, 730)], [], [], []))]), (101, [(32, ([(1, 0, 730)], [], [], []))]), (106, [(6, ([(2, 0, 730)], [], [], []))]), (131, [(8, ([(1, 0, 730)], [], [], []))]), (137, [(57, ([(4, 0, 60)], [], [], []))]), (171, [(7, ([(1, 0, 730)], [], [(87, 1, 0, 36)], [(88, (1, 0, 730)), (89, (1, (-128), 127))]))])]
def kt_hd (y pc : Nat) : Option kc_A := match kc_f1 y kt_hds with
  | some l => kc_f1 pc l
  | none => none
def kt_rks : List (Nat × List (Nat × Nat)) := [(11, [(0, 4), (1, 0), (2, 0), (3, 0), (4, 0), (5, 1), (6, 1), (7, 0), (8, 0), (9, 0), (10, 0), (11, 1)]), (23, [(12, 1), (13, 1), (14, 1), (15, 1), (16, 1), (17, 1), (18, 1), (19, 1), (20, 1), (21, 1), (22, 1), (23, 1)]), (35, [(24, 1), (25, 1), (26, 1), (27, 1), (28, 1), (29, 1), (30, 0), (31, 1), (32, 1), (33, 0), (34, 4), (35, 4)]), (47, [(36, 4), (37, 4), (38, 4), (39, 1), (40, 1), (41, 1), (42, 1), (43, 0), (44, 1), (45, 1), (46, 1), (47, 1)]), (59, [(48, 1), (49, 1), (50, 1), (51, 1), (52, 1), (53, 0), (54, 1), (55, 1), (56, 1), (57, 1), (58, 1), (59, 1)]), (71, [(60, 1), (61, 1), (62, 1), (63, 1), (64, 1), (65, 1), (66, 1), (67, 1), (68, 1), (69, 1), (70, 1), (71, 1)]), (83, [(72, 1), (73, 1), (74, 1), (75, 1), (76, 1), (77, 1), (78, 1), (79, 1), (80, 1), (81, 1), (82, 0), (83, 0)]), (95, [(84, 1), (85, 1), (86, 1), (87, 1), (88, 4), (89, 1), (90, 0), (91, 0), (92, 1), (93, 1), (94, 1), (95, 1)]), (107, [(96, 1), (97, 1), (98, 1), (99, 1), (100, 1), (101, 0), (102, 1), (103, 0), (104, 0), (105, 1), (106, 0), (107, 1)]), (119, [(108, 4), (109, 0), (110, 4), (111, 4), (112, 4), (113, 4), (114, 0), (115, 4), (116, 4), (117, 1), (118, 1), (119, 1)]), (131, [(120, 1), (121, 1), (122, 1), (123, 1), (124, 1), (125, 0), (126, 1), (127, 1), (128, 1), (129, 1), (130, 1), (131, 0)]), (143, [(132, 1), (133, 1), (134, 1), (135, 1), (136, 1), (137, 1), (138, 1), (139, 1), (140, 1), (141, 1), (142, 0), (143, 1)]), (155, [(144, 1), (145, 1), (146, 0), (147, 1), (148, 1), (149, 0), (150, 1), (151, 1), (152, 1), (153, 1), (154, 1), (155, 1)]), (167, [(156, 1), (157, 0), (158, 0), (159, 0), (160, 0), (161, 0), (162, 0), (163, 0), (164, 0), (165, 0), (166, 0), (167, 0)]), (179, [(168, 0), (169, 0), (170, 0), (171, 0), (172, 0), (173, 0), (174, 0), (175, 0), (176, 0), (177, 0), (178, 0), (179, 0)])]
def kt_rk (y : Nat) : Nat := (kc_f2 y kt_rks).getD 9
def kt_T : kc_T := (kt_cd, kt_mi, kt_lk, kt_fl, kt_nw, kt_aw, kt_mw, kt_kw, kt_fd, kt_cn, kt_hd, kt_rk)
def kt_S0 : kc_S := ([(0, 0), (0, 6), (-2147483648, 2147483647), (-2147483648, 2147483647), (-2147483648, 2147483647), (-2147483648, 2147483647), (-2147483648, 2147483647), (-2147483648, 2147483647)], [(5, 0, 0), (0, 0, 0), (0, 0, 0), (0, 0, 0)], [], [], 0, 0)
end
section
def kt_H0 : List kc_G := [(0, 11, .int, 0, (0, 0, 0), [], [(3, 0, 2), (1, 0, 0), (3, 0, 3), (3, 0, 41), (1, 0, 0), (1, 0, (-1)), (3, 0, 81), (3, 0, 86), (3, 0, 87), (3, 0, 88), (3, 0, 143), (3, 0, 146), (3, 0, 181), (3, 0, 200), (3, 0, 201), (3, 0, 202)]), (1, 0, .byte, 1200, (1, 0, 0), [], []), (0, 9, .int, 0, (0, 0, 0), [], [(3, 0, 4), (1, 0, 0), (3, 0, 5), (1, 0, 0), (3, 0, 6), (1, 0, 0), (3, 0, 7), (1, 0, 0), (3, 0, 8), (1, 0, 0)]), (3, 0, (.object "WheelTown$Meter"), 12, (3, 0, 0), [(3, 9, 9), (3, 10, 10), (3, 11, 11), (3, 12, 12), (3, 13, 13), (3, 14, 14), (3, 15, 15), (3, 16, 16), (3, 17, 17), (3, 18, 18), (3, 19, 19), (3, 20, 20)], []), (3, 0, (.object "WheelTown$Event"), 6, (3, 0, 0), [(3, 21, 21), (3, 24, 24), (3, 27, 27), (3, 30, 30), (3, 33, 33), (3, 36, 36)], []), (3, 0, (.object "WheelTown$Event"), 6, (3, 0, 0), [(3, 22, 22), (3, 25, 25), (3, 28, 28), (3, 31, 31), (3, 34, 34), (3, 37, 37)], []), (3, 0, (.object "WheelTown$Event"), 6, (3, 0, 0), [(3, 23, 23), (3, 26, 26), (3, 29, 29), (3, 32, 32), (3, 35, 35), (3, 38, 38)], []), (3, 0, (.object "WheelTown$Tariff"), 2, (3, 0, 0), [(3, 39, 39), (3, 40, 40)], []), (0, 1, .int, 0, (0, 0, 0), [], [(1, 0, (-1)), (1, 0, 0), (1, 0, 0), (1, 0, 3), (1, 0, 1000), (1, 0, 0), (1, 0, 0), (1, 0, 0), (1, 0, 0), (1, 0, 0), (1, 0, 0), (1, 0, 0)]), (0, 1, .int, 0, (0, 0, 0), [], [(1, 0, (-1)), (1, 0, 0), (1, 0, 0), (1, 0, 3), (1, 0, 1000), (1, 0, 0), (1, 0, 0), (1, 0, 0), (1, 0, 0), (1, 0, 0), (1, 0, 0), (1, 0, 0)]), (0, 1, .int, 0, (0, 0, 0), [], [(1, 0, (-1)), (1, 0, 0), (1, 0, 0), (1, 0, 3), (1, 0, 1000), (1, 0, 0), (1, 0, 0), (1, 0, 0), (1, 0, 0), (1, 0, 0), (1, 0, 0), (1, 0, 0)]), (0, 1, .int, 0, (0, 0, 0), [], [(1, 0, (-1)), (1, 0, 0), (1, 0, 0), (1, 0, 3), (1, 0, 1000), (1, 0, 0), (1, 0, 0), (1, 0, 0), (1, 0, 0), (1, 0, 0), (1, 0, 0), (1, 0, 0)]), (0, 1, .int, 0, (0, 0, 0), [], [(1, 0, (-1)), (1, 0, 0), (1, 0, 0), (1, 0, 3), (1, 0, 1000), (1, 0, 0), (1, 0, 0), (1, 0, 0), (1, 0, 0), (1, 0, 0), (1, 0, 0), (1, 0, 0)]), (0, 1, .int, 0, (0, 0, 0), [], [(1, 0, (-1)), (1, 0, 0), (1, 0, 0), (1, 0, 3), (1, 0, 1000), (1, 0, 0), (1, 0, 0), (1, 0, 0), (1, 0, 0), (1, 0, 0), (1, 0, 0), (1, 0, 0)]), (0, 1, .int, 0, (0, 0, 0), [], [(1, 0, (-1)), (1, 0, 0), (1, 0, 0), (1, 0, 3), (1, 0, 1000), (1, 0, 0), (1, 0, 0), (1, 0, 0), (1, 0, 0), (1, 0, 0), (1, 0, 0), (1, 0, 0)]), (0, 1, .int, 0, (0, 0, 0), [], [(1, 0, (-1)), (1, 0, 0), (1, 0, 0), (1, 0, 3), (1, 0, 1000), (1, 0, 0), (1, 0, 0), (1, 0, 0), (1, 0, 0), (1, 0, 0), (1, 0, 0), (1, 0, 0)]), (0, 1, .int, 0, (0, 0, 0), [], [(1, 0, (-1)), (1, 0, 0), (1, 0, 0), (1, 0, 3), (1, 0, 1000), (1, 0, 0), (1, 0, 0), (1, 0, 0), (1, 0, 0), (1, 0, 0), (1, 0, 0), (1, 0, 0)]), (0, 1, .int, 0, (0, 0, 0), [], [(1, 0, (-1)), (1, 0, 0), (1, 0, 0), (1, 0, 3), (1, 0, 1000), (1, 0, 0), (1, 0, 0), (1, 0, 0), (1, 0, 0), (1, 0, 0), (1, 0, 0), (1, 0, 0)]), (0, 1, .int, 0, (0, 0, 0), [], [(1, 0, (-1)), (1, 0, 0), (1, 0, 0), (1, 0, 3), (1, 0, 1000), (1, 0, 0), (1, 0, 0), (1, 0, 0), (1, 0, 0), (1, 0, 0), (1, 0, 0), (1, 0, 0)]), (0, 1, .int, 0, (0, 0, 0), [], [(1, 0, (-1)), (1, 0, 0), (1, 0, 0), (1, 0, 3), (1, 0, 1000), (1, 0, 0), (1, 0, 0), (1, 0, 0), (1, 0, 0), (1, 0, 0), (1, 0, 0), (1, 0, 0)])]
def kt_H1 : List kc_G := [(0, 0, .int, 0, (0, 0, 0), [], [(1, 0, 0), (1, 0, 0), (1, 0, 0), (1, 0, 0)]), (0, 0, .int, 0, (0, 0, 0), [], [(1, 0, 0), (1, 0, 0), (1, 0, 0), (1, 0, 0)]), (0, 0, .int, 0, (0, 0, 0), [], [(1, 0, 0), (1, 0, 0), (1, 0, 0), (1, 0, 0)]), (0, 0, .int, 0, (0, 0, 0), [], [(1, 0, 0), (1, 0, 0), (1, 0, 0), (1, 0, 0)]), (0, 0, .int, 0, (0, 0, 0), [], [(1, 0, 0), (1, 0, 0), (1, 0, 0), (1, 0, 0)]), (0, 0, .int, 0, (0, 0, 0), [], [(1, 0, 0), (1, 0, 0), (1, 0, 0), (1, 0, 0)]), (0, 0, .int, 0, (0, 0, 0), [], [(1, 0, 0), (1, 0, 0), (1, 0, 0), (1, 0, 0)]), (0, 0, .int, 0, (0, 0, 0), [], [(1, 0, 0), (1, 0, 0), (1, 0, 0), (1, 0, 0)]), (0, 0, .int, 0, (0, 0, 0), [], [(1, 0, 0), (1, 0, 0), (1, 0, 0), (1, 0, 0)]), (0, 0, .int, 0, (0, 0, 0), [], [(1, 0, 0), (1, 0, 0), (1, 0, 0), (1, 0, 0)]), (0, 0, .int, 0, (0, 0, 0), [], [(1, 0, 0), (1, 0, 0), (1, 0, 0), (1, 0, 0)]), (0, 0, .int, 0, (0, 0, 0), [], [(1, 0, 0), (1, 0, 0), (1, 0, 0), (1, 0, 0)]), (0, 0, .int, 0, (0, 0, 0), [], [(1, 0, 0), (1, 0, 0), (1, 0, 0), (1, 0, 0)]), (0, 0, .int, 0, (0, 0, 0), [], [(1, 0, 0), (1, 0, 0), (1, 0, 0), (1, 0, 0)]), (0, 0, .int, 0, (0, 0, 0), [], [(1, 0, 0), (1, 0, 0), (1, 0, 0), (1, 0, 0)]), (0, 0, .int, 0, (0, 0, 0), [], [(1, 0, 0), (1, 0, 0), (1, 0, 0), (1, 0, 0)]), (0, 0, .int, 0, (0, 0, 0), [], [(1, 0, 0), (1, 0, 0), (1, 0, 0), (1, 0, 0)]), (0, 0, .int, 0, (0, 0, 0), [], [(1, 0, 0), (1, 0, 0), (1, 0, 0), (1, 0, 0)]), (0, 8, .int, 0, (0, 0, 0), [], [(1, 0, 0), (1, 0, 0), (1, 0, 0), (1, 0, 0), (1, 0, 0)]), (0, 8, .int, 0, (0, 0, 0), [], [(1, 0, 0), (1, 0, 0), (1, 0, 0), (1, 0, 0), (1, 0, 0)])]
def kt_H2 : List kc_G := [(0, 2, .int, 0, (0, 0, 0), [], [(3, 0, 42), (1, 0, 0), (1, 0, 0), (1, 0, 0), (1, 0, 0), (1, 0, 0), (1, 0, 0), (1, 0, 0), (1, 0, (-1)), (3, 0, 43)]), (1, 0, .byte, 0, (1, 0, 0), [], []), (0, 9, .int, 0, (0, 0, 0), [], [(3, 0, 44), (1, 0, 0), (3, 0, 45), (1, 0, 0), (3, 0, 46), (1, 0, 0), (3, 0, 47), (1, 0, 0), (3, 0, 48), (1, 0, 0)]), (3, 0, (.object "WheelTown$Meter"), 12, (3, 0, 0), [(3, 49, 49), (3, 50, 50), (3, 51, 51), (3, 52, 52), (3, 53, 53), (3, 54, 54), (3, 55, 55), (3, 56, 56), (3, 57, 57), (3, 58, 58), (3, 59, 59), (3, 60, 60)], []), (3, 0, (.object "WheelTown$Event"), 6, (3, 0, 0), [(3, 61, 61), (3, 64, 64), (3, 67, 67), (3, 70, 70), (3, 73, 73), (3, 76, 76)], []), (3, 0, (.object "WheelTown$Event"), 6, (3, 0, 0), [(3, 62, 62), (3, 65, 65), (3, 68, 68), (3, 71, 71), (3, 74, 74), (3, 77, 77)], []), (3, 0, (.object "WheelTown$Event"), 6, (3, 0, 0), [(3, 63, 63), (3, 66, 66), (3, 69, 69), (3, 72, 72), (3, 75, 75), (3, 78, 78)], []), (3, 0, (.object "WheelTown$Tariff"), 2, (3, 0, 0), [(3, 79, 79), (3, 80, 80)], []), (0, 1, .int, 0, (0, 0, 0), [], [(1, 0, (-1)), (1, 0, 0), (1, 0, 0), (1, 0, 3), (1, 0, 1000), (1, 0, 0), (1, 0, 0), (1, 0, 0), (1, 0, 0), (1, 0, 0), (1, 0, 0), (1, 0, 0)]), (0, 1, .int, 0, (0, 0, 0), [], [(1, 0, (-1)), (1, 0, 0), (1, 0, 0), (1, 0, 3), (1, 0, 1000), (1, 0, 0), (1, 0, 0), (1, 0, 0), (1, 0, 0), (1, 0, 0), (1, 0, 0), (1, 0, 0)]), (0, 1, .int, 0, (0, 0, 0), [], [(1, 0, (-1)), (1, 0, 0), (1, 0, 0), (1, 0, 3), (1, 0, 1000), (1, 0, 0), (1, 0, 0), (1, 0, 0), (1, 0, 0), (1, 0, 0), (1, 0, 0), (1, 0, 0)]), (0, 1, .int, 0, (0, 0, 0), [], [(1, 0, (-1)), (1, 0, 0), (1, 0, 0), (1, 0, 3), (1, 0, 1000), (1, 0, 0), (1, 0, 0), (1, 0, 0), (1, 0, 0), (1, 0, 0), (1, 0, 0), (1, 0, 0)]), (0, 1, .int, 0, (0, 0, 0), [], [(1, 0, (-1)), (1, 0, 0), (1, 0, 0), (1, 0, 3), (1, 0, 1000), (1, 0, 0), (1, 0, 0), (1, 0, 0), (1, 0, 0), (1, 0, 0), (1, 0, 0), (1, 0, 0)]), (0, 1, .int, 0, (0, 0, 0), [], [(1, 0, (-1)), (1, 0, 0), (1, 0, 0), (1, 0, 3), (1, 0, 1000), (1, 0, 0), (1, 0, 0), (1, 0, 0), (1, 0, 0), (1, 0, 0), (1, 0, 0), (1, 0, 0)]), (0, 1, .int, 0, (0, 0, 0), [], [(1, 0, (-1)), (1, 0, 0), (1, 0, 0), (1, 0, 3), (1, 0, 1000), (1, 0, 0), (1, 0, 0), (1, 0, 0), (1, 0, 0), (1, 0, 0), (1, 0, 0), (1, 0, 0)]), (0, 1, .int, 0, (0, 0, 0), [], [(1, 0, (-1)), (1, 0, 0), (1, 0, 0), (1, 0, 3), (1, 0, 1000), (1, 0, 0), (1, 0, 0), (1, 0, 0), (1, 0, 0), (1, 0, 0), (1, 0, 0), (1, 0, 0)]), (0, 1, .int, 0, (0, 0, 0), [], [(1, 0, (-1)), (1, 0, 0), (1, 0, 0), (1, 0, 3), (1, 0, 1000), (1, 0, 0), (1, 0, 0), (1, 0, 0), (1, 0, 0), (1, 0, 0), (1, 0, 0), (1, 0, 0)]), (0, 1, .int, 0, (0, 0, 0), [], [(1, 0, (-1)), (1, 0, 0), (1, 0, 0), (1, 0, 3), (1, 0, 1000), (1, 0, 0), (1, 0, 0), (1, 0, 0), (1, 0, 0), (1, 0, 0), (1, 0, 0), (1, 0, 0)]), (0, 1, .int, 0, (0, 0, 0), [], [(1, 0, (-1)), (1, 0, 0), (1, 0, 0), (1, 0, 3), (1, 0, 1000), (1, 0, 0), (1, 0, 0), (1, 0, 0), (1, 0, 0), (1, 0, 0), (1, 0, 0), (1, 0, 0)]), (0, 1, .int, 0, (0, 0, 0), [], [(1, 0, (-1)), (1, 0, 0), (1, 0, 0), (1, 0, 3), (1, 0, 1000), (1, 0, 0), (1, 0, 0), (1, 0, 0), (1, 0, 0), (1, 0, 0), (1, 0, 0), (1, 0, 0)])]
def kt_H3 : List kc_G := [(0, 0, .int, 0, (0, 0, 0), [], [(1, 0, 0), (1, 0, 0), (1, 0, 0), (1, 0, 0)]), (0, 0, .int, 0, (0, 0, 0), [], [(1, 0, 0), (1, 0, 0), (1, 0, 0), (1, 0, 0)]), (0, 0, .int, 0, (0, 0, 0), [], [(1, 0, 0), (1, 0, 0), (1, 0, 0), (1, 0, 0)]), (0, 0, .int, 0, (0, 0, 0), [], [(1, 0, 0), (1, 0, 0), (1, 0, 0), (1, 0, 0)]), (0, 0, .int, 0, (0, 0, 0), [], [(1, 0, 0), (1, 0, 0), (1, 0, 0), (1, 0, 0)]), (0, 0, .int, 0, (0, 0, 0), [], [(1, 0, 0), (1, 0, 0), (1, 0, 0), (1, 0, 0)]), (0, 0, .int, 0, (0, 0, 0), [], [(1, 0, 0), (1, 0, 0), (1, 0, 0), (1, 0, 0)]), (0, 0, .int, 0, (0, 0, 0), [], [(1, 0, 0), (1, 0, 0), (1, 0, 0), (1, 0, 0)]), (0, 0, .int, 0, (0, 0, 0), [], [(1, 0, 0), (1, 0, 0), (1, 0, 0), (1, 0, 0)]), (0, 0, .int, 0, (0, 0, 0), [], [(1, 0, 0), (1, 0, 0), (1, 0, 0), (1, 0, 0)]), (0, 0, .int, 0, (0, 0, 0), [], [(1, 0, 0), (1, 0, 0), (1, 0, 0), (1, 0, 0)]), (0, 0, .int, 0, (0, 0, 0), [], [(1, 0, 0), (1, 0, 0), (1, 0, 0), (1, 0, 0)]), (0, 0, .int, 0, (0, 0, 0), [], [(1, 0, 0), (1, 0, 0), (1, 0, 0), (1, 0, 0)]), (0, 0, .int, 0, (0, 0, 0), [], [(1, 0, 0), (1, 0, 0), (1, 0, 0), (1, 0, 0)]), (0, 0, .int, 0, (0, 0, 0), [], [(1, 0, 0), (1, 0, 0), (1, 0, 0), (1, 0, 0)]), (0, 0, .int, 0, (0, 0, 0), [], [(1, 0, 0), (1, 0, 0), (1, 0, 0), (1, 0, 0)]), (0, 0, .int, 0, (0, 0, 0), [], [(1, 0, 0), (1, 0, 0), (1, 0, 0), (1, 0, 0)]), (0, 0, .int, 0, (0, 0, 0), [], [(1, 0, 0), (1, 0, 0), (1, 0, 0), (1, 0, 0)]), (0, 8, .int, 0, (0, 0, 0), [], [(1, 0, 0), (1, 0, 0), (1, 0, 0), (1, 0, 0), (1, 0, 0)]), (0, 8, .int, 0, (0, 0, 0), [], [(1, 0, 0), (1, 0, 0), (1, 0, 0), (1, 0, 0), (1, 0, 0)])]
def kt_H4 : List kc_G := [(0, 3, .int, 0, (0, 0, 0), [], [(3, 0, 82), (3, 0, 83), (3, 0, 84), (3, 0, 85), (1, 0, 0)]), (1, 0, .int, 120, (1, 0, 0), [], []), (1, 0, .int, 120, (1, 0, 0), [], []), (1, 0, .int, 120, (1, 0, 0), [], []), (1, 0, .int, 120, (1, 0, 0), [], []), (3, 0, (.object "WheelTown$Town"), 3, (3, 0, 0), [], []), (3, 0, (.object "WheelTown$Readings"), 3, (3, 0, 0), [], []), (0, 5, .int, 0, (0, 0, 0), [], [(3, 0, 89), (1, 0, 0), (3, 0, 90), (3, 0, 91), (3, 0, 104), (3, 0, 117), (3, 0, 130)]), (1, 0, .int, 37, (1, 0, 0), [], []), (1, 0, .byte, 730, (1, 0, 0), [], []), (3, 0, (.array .int), 12, (3, 0, 0), [(3, 92, 92), (3, 93, 93), (3, 94, 94), (3, 95, 95), (3, 96, 96), (3, 97, 97), (3, 98, 98), (3, 99, 99), (3, 100, 100), (3, 101, 101), (3, 102, 102), (3, 103, 103)], []), (1, 0, .int, 36, (1, 0, 0), [], []), (1, 0, .int, 36, (1, 0, 0), [], []), (1, 0, .int, 36, (1, 0, 0), [], []), (1, 0, .int, 36, (1, 0, 0), [], []), (1, 0, .int, 36, (1, 0, 0), [], []), (1, 0, .int, 36, (1, 0, 0), [], []), (1, 0, .int, 36, (1, 0, 0), [], []), (1, 0, .int, 36, (1, 0, 0), [], []), (1, 0, .int, 36, (1, 0, 0), [], [])]
def kt_H5 : List kc_G := [(1, 0, .int, 36, (1, 0, 0), [], []), (1, 0, .int, 36, (1, 0, 0), [], []), (1, 0, .int, 36, (1, 0, 0), [], []), (3, 0, (.array .int), 12, (3, 0, 0), [(3, 105, 105), (3, 106, 106), (3, 107, 107), (3, 108, 108), (3, 109, 109), (3, 110, 110), (3, 111, 111), (3, 112, 112), (3, 113, 113), (3, 114, 114), (3, 115, 115), (3, 116, 116)], []), (1, 0, .int, 36, (1, 0, 0), [], []), (1, 0, .int, 36, (1, 0, 0), [], []), (1, 0, .int, 36, (1, 0, 0), [], []), (1, 0, .int, 36, (1, 0, 0), [], []), (1, 0, .int, 36, (1, 0, 0), [], []), (1, 0, .int, 36, (1, 0, 0), [], []), (1, 0, .int, 36, (1, 0, 0), [], []), (1, 0, .int, 36, (1, 0, 0), [], []), (1, 0, .int, 36, (1, 0, 0), [], []), (1, 0, .int, 36, (1, 0, 0), [], []), (1, 0, .int, 36, (1, 0, 0), [], []), (1, 0, .int, 36, (1, 0, 0), [], []), (3, 0, (.array .int), 12, (3, 0, 0), [(3, 118, 118), (3, 119, 119), (3, 120, 120), (3, 121, 121), (3, 122, 122), (3, 123, 123), (3, 124, 124), (3, 125, 125), (3, 126, 126), (3, 127, 127), (3, 128, 128), (3, 129, 129)], []), (1, 0, .int, 36, (1, 0, 0), [], []), (1, 0, .int, 36, (1, 0, 0), [], []), (1, 0, .int, 36, (1, 0, 0), [], [])]
def kt_H6 : List kc_G := [(1, 0, .int, 36, (1, 0, 0), [], []), (1, 0, .int, 36, (1, 0, 0), [], []), (1, 0, .int, 36, (1, 0, 0), [], []), (1, 0, .int, 36, (1, 0, 0), [], []), (1, 0, .int, 36, (1, 0, 0), [], []), (1, 0, .int, 36, (1, 0, 0), [], []), (1, 0, .int, 36, (1, 0, 0), [], []), (1, 0, .int, 36, (1, 0, 0), [], []), (1, 0, .int, 36, (1, 0, 0), [], []), (3, 0, (.array .int), 12, (3, 0, 0), [(3, 131, 131), (3, 132, 132), (3, 133, 133), (3, 134, 134), (3, 135, 135), (3, 136, 136), (3, 137, 137), (3, 138, 138), (3, 139, 139), (3, 140, 140), (3, 141, 141), (3, 142, 142)], []), (1, 0, .int, 36, (1, 0, 0), [], []), (1, 0, .int, 36, (1, 0, 0), [], []), (1, 0, .int, 36, (1, 0, 0), [], []), (1, 0, .int, 36, (1, 0, 0), [], []), (1, 0, .int, 36, (1, 0, 0), [], []), (1, 0, .int, 36, (1, 0, 0), [], []), (1, 0, .int, 36, (1, 0, 0), [], []), (1, 0, .int, 36, (1, 0, 0), [], []), (1, 0, .int, 36, (1, 0, 0), [], []), (1, 0, .int, 36, (1, 0, 0), [], [])]
def kt_H7 : List kc_G := [(1, 0, .int, 36, (1, 0, 0), [], []), (1, 0, .int, 36, (1, 0, 0), [], []), (0, 7, .int, 0, (0, 0, 0), [], [(3, 0, 144), (3, 0, 145)]), (1, 0, .int, 36, (1, 0, 0), [], []), (1, 0, .int, 36, (1, 0, 0), [], []), (0, 6, .int, 0, (0, 0, 0), [], [(3, 0, 147), (3, 0, 160), (3, 0, 173), (3, 0, 174), (1, 0, 0), (3, 0, 175), (3, 0, 178), (1, 0, 0), (1, 0, (-1)), (1, 0, (-1)), (1, 0, (-1)), (1, 0, 0)]), (3, 0, (.array .int), 12, (3, 0, 0), [(3, 148, 148), (3, 149, 149), (3, 150, 150), (3, 151, 151), (3, 152, 152), (3, 153, 153), (3, 154, 154), (3, 155, 155), (3, 156, 156), (3, 157, 157), (3, 158, 158), (3, 159, 159)], []), (1, 0, .int, 41, (1, 0, 0), [], []), (1, 0, .int, 41, (1, 0, 0), [], []), (1, 0, .int, 41, (1, 0, 0), [], []), (1, 0, .int, 41, (1, 0, 0), [], []), (1, 0, .int, 41, (1, 0, 0), [], []), (1, 0, .int, 41, (1, 0, 0), [], []), (1, 0, .int, 41, (1, 0, 0), [], []), (1, 0, .int, 41, (1, 0, 0), [], []), (1, 0, .int, 41, (1, 0, 0), [], []), (1, 0, .int, 41, (1, 0, 0), [], []), (1, 0, .int, 41, (1, 0, 0), [], []), (1, 0, .int, 41, (1, 0, 0), [], []), (3, 0, (.array .int), 12, (3, 0, 0), [(3, 161, 161), (3, 162, 162), (3, 163, 163), (3, 164, 164), (3, 165, 165), (3, 166, 166), (3, 167, 167), (3, 168, 168), (3, 169, 169), (3, 170, 170), (3, 171, 171), (3, 172, 172)], [])]
def kt_H8 : List kc_G := [(1, 0, .int, 41, (1, 0, 0), [], []), (1, 0, .int, 41, (1, 0, 0), [], []), (1, 0, .int, 41, (1, 0, 0), [], []), (1, 0, .int, 41, (1, 0, 0), [], []), (1, 0, .int, 41, (1, 0, 0), [], []), (1, 0, .int, 41, (1, 0, 0), [], []), (1, 0, .int, 41, (1, 0, 0), [], []), (1, 0, .int, 41, (1, 0, 0), [], []), (1, 0, .int, 41, (1, 0, 0), [], []), (1, 0, .int, 41, (1, 0, 0), [], []), (1, 0, .int, 41, (1, 0, 0), [], []), (1, 0, .int, 41, (1, 0, 0), [], []), (1, 0, .int, 120, (1, 0, 0), [], []), (1, 0, .int, 120, (1, 0, 0), [], []), (0, 7, .int, 0, (0, 0, 0), [], [(3, 0, 176), (3, 0, 177)]), (1, 0, .int, 36, (1, 0, 0), [], []), (1, 0, .int, 36, (1, 0, 0), [], []), (0, 7, .int, 0, (0, 0, 0), [], [(3, 0, 179), (3, 0, 180)]), (1, 0, .int, 36, (1, 0, 0), [], []), (1, 0, .int, 36, (1, 0, 0), [], [])]
def kt_H9 : List kc_G := [(0, 10, .int, 0, (0, 0, 0), [], [(3, 0, 182), (3, 0, 183), (3, 0, 184), (3, 0, 185), (3, 0, 186), (3, 0, 187), (1, 0, 0), (1, 0, 0)]), (1, 0, .short, 0, (1, 0, 0), [], []), (1, 0, .int, 0, (1, 0, 0), [], []), (1, 0, .int, 0, (1, 0, 0), [], []), (1, 0, .int, 12, (1, 0, 0), [], []), (1, 0, .int, 12, (1, 0, 0), [], []), (3, 0, (.array .int), 12, (3, 0, 0), [(3, 188, 188), (3, 189, 189), (3, 190, 190), (3, 191, 191), (3, 192, 192), (3, 193, 193), (3, 194, 194), (3, 195, 195), (3, 196, 196), (3, 197, 197), (3, 198, 198), (3, 199, 199)], []), (1, 0, .int, 12, (1, 0, 0), [], []), (1, 0, .int, 12, (1, 0, 0), [], []), (1, 0, .int, 12, (1, 0, 0), [], []), (1, 0, .int, 12, (1, 0, 0), [], []), (1, 0, .int, 12, (1, 0, 0), [], []), (1, 0, .int, 12, (1, 0, 0), [], []), (1, 0, .int, 12, (1, 0, 0), [], []), (1, 0, .int, 12, (1, 0, 0), [], []), (1, 0, .int, 12, (1, 0, 0), [], []), (1, 0, .int, 12, (1, 0, 0), [], []), (1, 0, .int, 12, (1, 0, 0), [], []), (1, 0, .int, 12, (1, 0, 0), [], []), (3, 0, (.object "WheelTown$Slot"), 4, (3, 0, 0), [(3, 203, 203), (3, 205, 205), (3, 207, 207), (3, 209, 209)], [])]
def kt_H10 : List kc_G := [(1, 0, .int, 7, (1, 0, 0), [], []), (1, 0, .int, 12, (1, 0, 0), [], []), (0, 4, .int, 0, (0, 0, 0), [], [(3, 0, 204), (1, 0, 0), (1, 0, 0), (1, 0, 0)]), (2, 0, .long, 60, (2, 0, 0), [], []), (0, 4, .int, 0, (0, 0, 0), [], [(3, 0, 206), (1, 0, 0), (1, 0, 0), (1, 0, 0)]), (2, 0, .long, 60, (2, 0, 0), [], []), (0, 4, .int, 0, (0, 0, 0), [], [(3, 0, 208), (1, 0, 0), (1, 0, 0), (1, 0, 0)]), (2, 0, .long, 60, (2, 0, 0), [], []), (0, 4, .int, 0, (0, 0, 0), [], [(3, 0, 210), (1, 0, 0), (1, 0, 0), (1, 0, 0)]), (2, 0, .long, 60, (2, 0, 0), [], []), (0, 12, .int, 0, (0, 0, 0), [], [(1, 0, 0), (3, 0, 212), (3, 0, 213), (3, 0, 214), (3, 0, 215), (3, 0, 216), (1, 0, 0), (1, 0, 0), (1, 0, 0), (1, 0, 0), (1, 0, 0), (2, 0, 0), (1, 0, 0), (1, 0, 0), (1, 0, 0), (1, 0, (-1)), (3, 0, 217), (3, 0, 218), (3, 0, 219), (3, 0, 220), (3, 0, 221), (3, 0, 222), (3, 0, 223), (3, 0, 224), (3, 0, 225), (3, 0, 226), (3, 0, 227), (3, 0, 228), (3, 0, 229), (3, 0, 230), (3, 0, 231), (3, 0, 232), (3, 0, 233), (3, 0, 234), (3, 0, 235), (3, 0, 236), (3, 0, 237), (3, 0, 238), (3, 0, 239), (3, 0, 240), (3, 0, 241), (3, 0, 242), (3, 0, 243), (3, 0, 244), (3, 0, 245), (3, 0, 246), (3, 0, 247), (1, 0, (-1)), (1, 0, 0), (1, 0, 0), (3, 0, 248), (3, 0, 249), (3, 0, 250), (3, 0, 251), (3, 0, 252), (3, 0, 253), (3, 0, 254), (3, 0, 255), (3, 0, 256), (3, 0, 257), (3, 0, 258), (1, 0, 0), (1, 0, 0), (1, 0, 0), (1, 0, 0), (1, 0, 0), (1, 0, 0), (3, 0, 259), (3, 0, 260), (3, 0, 261)]), (1, 0, .int, 4, (1, 0, 0), [(1, (-1), (-1)), (1, (-1), (-1)), (1, (-1), (-1)), (1, (-1), (-1))], []), (1, 0, .int, 4, (1, 0, 0), [], []), (2, 0, .long, 240, (2, 0, 0), [], []), (2, 0, .long, 60, (2, 0, 0), [], []), (1, 0, .byte, 1200, (1, 0, 0), [], []), (1, 0, .int, 5, (1, 0, 0), [], []), (1, 0, .int, 5, (1, 0, 0), [], []), (1, 0, .int, 60, (1, 0, 0), [], []), (1, 0, .int, 60, (1, 0, 0), [], [])]
def kt_H11 : List kc_G := [(1, 0, .int, 60, (1, 0, 0), [], []), (1, 0, .int, 60, (1, 0, 0), [], []), (1, 0, .int, 60, (1, 0, 0), [], []), (1, 0, .int, 60, (1, 0, 0), [], []), (1, 0, .int, 60, (1, 0, 0), [], []), (1, 0, .int, 60, (1, 0, 0), [], []), (1, 0, .int, 60, (1, 0, 0), [], []), (1, 0, .int, 5, (1, 0, 0), [], []), (1, 0, .int, 30, (1, 0, 0), [], []), (1, 0, .int, 30, (1, 0, 0), [], []), (1, 0, .int, 30, (1, 0, 0), [], []), (1, 0, .int, 5, (1, 0, 0), [], []), (1, 0, .int, 30, (1, 0, 0), [], []), (1, 0, .int, 30, (1, 0, 0), [], []), (1, 0, .int, 30, (1, 0, 0), [], []), (1, 0, .int, 5, (1, 0, 0), [], []), (1, 0, .int, 30, (1, 0, 0), [], []), (1, 0, .int, 30, (1, 0, 0), [], []), (1, 0, .int, 30, (1, 0, 0), [], []), (1, 0, .int, 60, (1, 0, 0), [], [])]
def kt_H12 : List kc_G := [(1, 0, .int, 60, (1, 0, 0), [], []), (1, 0, .boolean, 10, (1, 0, 0), [], []), (1, 0, .int, 10, (1, 0, 0), [], []), (1, 0, .int, 10, (1, 0, 0), [], []), (1, 0, .int, 10, (1, 0, 0), [], []), (1, 0, .int, 10, (1, 0, 0), [], []), (1, 0, .boolean, 3, (1, 0, 0), [], []), (1, 0, .int, 12, (1, 0, 0), [], []), (2, 0, .long, 84, (2, 0, 0), [], []), (1, 0, .int, 4, (1, 0, 0), [], []), (1, 0, .int, 480, (1, 0, 0), [], []), (1, 0, .int, 480, (1, 0, 0), [], []), (1, 0, .int, 480, (1, 0, 0), [], []), (1, 0, .int, 480, (1, 0, 0), [], []), (1, 0, .int, 12, (1, 0, 0), [], []), (1, 0, .int, 12, (1, 0, 0), [], []), (1, 0, .int, 8760, (1, 0, 0), [], []), (1, 0, .boolean, 12, (1, 0, 0), [], []), (1, 0, .int, 49152, (1, 0, 0), [], []), (1, 0, .int, 4096, (1, 0, 0), [], [])]
def kt_H13 : List kc_G := [(1, 0, .int, 49152, (1, 0, 0), [], [])]
def kt_H : List kc_G := kt_H0 ++ kt_H1 ++ kt_H2 ++ kt_H3 ++ kt_H4 ++ kt_H5 ++ kt_H6 ++ kt_H7 ++ kt_H8 ++ kt_H9 ++ kt_H10 ++ kt_H11 ++ kt_H12 ++ kt_H13
def kt_S1 : kc_S := ([(0, 0), (6, 6), ((-2147483648), 2147483647), ((-2147483648), 2147483647), ((-2147483648), 2147483647), ((-2147483648), 2147483647), ((-2147483648), 2147483647), ((-2147483648), 2147483647), (0, 63)], [(5, 0, 0), (3, 0, 1), (3, 0, 211), (1, 0, 0)], [(1, 8, 0)], kt_H, 261, 122554)
end
section
def kt_ok (q : Nat × kc_S) : Bool := match kc_run kt_T 20000 0 [] [q] [] with
  | some os => os.all (fun o => decide (o.2.2.2.1 = [(1, 0, 1)]))
  | none => false
def kt_ns : List (Nat × kc_S) := match kc_Tcd kt_T 0 33 with
  | some (i, n) => (kc_step kt_T 0 33 i n kt_S1).getD []
  | none => []
def kt_rng (a b : Nat) : Bool := (List.range b).all (fun j => match kt_ns[a + j]? with
  | some q => kt_ok q
  | none => true)
/-- a state cut by the number of a value: below z, z, .. -/
def kt_cut (q : Nat × kc_S) (a : kc_V) (r : Nat) (z : Int) : Bool := (kc_s1 r q.1 q.2.1 a (1, 0, z) q.2.2.2.1).all (fun t => kt_ok (t.1, t.2.1, q.2.2.1, t.2.2, q.2.2.2.2))
def kt_eqG (g h : kc_G) : Bool := decide (g.1 = h.1 ∧ g.2.1 = h.2.1 ∧ g.2.2.1 = h.2.2.1 ∧ g.2.2.2.1 = h.2.2.2.1 ∧ g.2.2.2.2.1 = h.2.2.2.2.1) && decide (g.2.2.2.2.2.1 = h.2.2.2.2.2.1) && decide (g.2.2.2.2.2.2 = h.2.2.2.2.2.2)
def kt_eqH : List kc_G → List kc_G → Bool
  | [], [] => true
  | g :: gs, h :: hs => kt_eqG g h && kt_eqH gs hs
  | _, _ => false
def kt_eqS (S W : kc_S) : Bool := decide (S.1 = W.1) && decide (S.2.1 = W.2.1) && decide (S.2.2.1 = W.2.2.1) && kt_eqH S.2.2.2.1 W.2.2.2.1 && decide (S.2.2.2.2 = W.2.2.2.2)
theorem kt_eqH.ok : ∀ {a b : List kc_G}, kt_eqH a b = true → a = b
  | [], [], _ => rfl
  | (a1, a2, a3, a4, a5, a6, a7) :: gs, (b1, b2, b3, b4, b5, b6, b7) :: hs, h => by
    unfold kt_eqH kt_eqG at h
    simp only [Bool.and_eq_true, decide_eq_true_eq] at h
    obtain ⟨⟨⟨⟨rfl, rfl, rfl, rfl, rfl⟩, rfl⟩, rfl⟩, h2⟩ := h
    rw [kt_eqH.ok h2]
  | [], _ :: _, h => by cases h
  | _ :: _, [], h => by cases h
theorem kt_eqS.ok {S W : kc_S} (h : kt_eqS S W = true) : S = W := by
  obtain ⟨a1, a2, a3, a4, a5⟩ := S
  obtain ⟨b1, b2, b3, b4, b5⟩ := W
  unfold kt_eqS at h
  simp only [Bool.and_eq_true, decide_eq_true_eq] at h
  obtain ⟨⟨⟨⟨rfl, rfl⟩, rfl⟩, h4⟩, rfl⟩ := h
  rw [kt_eqH.ok h4]
end
section
def kt_clns : List (Nat × String) := [(0, "WheelTown$Event"), (1, "WheelTown$Meter"), (2, "WheelTown$Parser"), (3, "WheelTown$Readings"), (4, "WheelTown$Slot"), (5, "WheelTown$Stretches"), (6, "WheelTown$Supposed"), (7, "WheelTown$Tally"), (8, "WheelTown$Tariff"), (9, "WheelTown$Town"), (10, "WheelTown$Walks"), (11, "WheelTown"), (12, "WheelTownModel"), (13, "WheelTownLaw"), (14, "java/util/Arrays")]
def kt_cln (c : Nat) : String := (kc_f1 c kt_clns).getD ""
def kt_nms : List (Nat × List (Nat × MethodName)) := [(11, [(0, ⟨"WheelTownLaw", "law", "([I)Z"⟩), (1, ⟨"java/util/Arrays", "fill", "([BB)V"⟩), (2, ⟨"java/util/Arrays", "fill", "([JJ)V"⟩), (3, ⟨"WheelTown$Event", "copyFrom", "(LWheelTown$Event;)V"⟩), (4, ⟨"WheelTown$Event", "<init>", "()V"⟩), (5, ⟨"WheelTown$Walks", "bestBuy", "(II)I"⟩), (6, ⟨"WheelTown$Walks", "bestSet", "(II)I"⟩), (7, ⟨"WheelTown$Walks", "forget", "()V"⟩), (8, ⟨"WheelTown$Walks", "<init>", "()V"⟩), (9, ⟨"WheelTown$Walks", "readySums", "()V"⟩), (10, ⟨"WheelTown$Walks", "sumUp", "([I[II)V"⟩), (11, ⟨"WheelTown", "alone", "(I)I"⟩)]), (23, [(12, ⟨"WheelTown", "appeal", "(III)I"⟩), (13, ⟨"WheelTown", "back", "(I)I"⟩), (14, ⟨"WheelTown", "balance", "(IIII)I"⟩), (15, ⟨"WheelTown", "bill", "(II)I"⟩), (16, ⟨"WheelTown", "billed", "(III)I"⟩), (17, ⟨"WheelTown", "burst", "(II)I"⟩), (18, ⟨"WheelTown", "bursts", "(II)I"⟩), (19, ⟨"WheelTown", "change", "(II)I"⟩), (20, ⟨"WheelTown", "count", "(I)I"⟩), (21, ⟨"WheelTown", "counted", "(II)I"⟩), (22, ⟨"WheelTown", "drought", "(II)I"⟩), (23, ⟨"WheelTown", "end", "(I)I"⟩)]), (35, [(24, ⟨"WheelTown", "errors", "(II)I"⟩), (25, ⟨"WheelTown", "fault", "(I)I"⟩), (26, ⟨"WheelTown", "feed", "(IIIII)I"⟩), (27, ⟨"WheelTown", "fewest", "()I"⟩), (28, ⟨"WheelTown", "fits", "(I)I"⟩), (29, ⟨"WheelTown", "flow", "(III)I"⟩), (30, ⟨"WheelTown", "forgetReadings", "()V"⟩), (31, ⟨"WheelTown", "garden", "(II)I"⟩), (32, ⟨"WheelTown", "guess", "(II)I"⟩), (33, ⟨"WheelTown", "<init>", "()V"⟩), (34, ⟨"WheelTown", "isDay", "(I)Z"⟩), (35, ⟨"WheelTown", "isMeter", "(I)Z"⟩)]), (47, [(36, ⟨"WheelTown", "isSlot", "(I)Z"⟩), (37, ⟨"WheelTown", "isWalkable", "(I)Z"⟩), (38, ⟨"WheelTown", "isWithin", "(III)Z"⟩), (39, ⟨"WheelTown", "judge", "(III)I"⟩), (40, ⟨"WheelTown", "keep", "(I)I"⟩), (41, ⟨"WheelTown", "leak", "(I)I"⟩), (42, ⟨"WheelTown", "limit", "(II)I"⟩), (43, ⟨"WheelTown", "lookAnew", "()V"⟩), (44, ⟨"WheelTown", "lost", "(IIII)I"⟩), (45, ⟨"WheelTown", "lot", "(IIII)I"⟩), (46, ⟨"WheelTown", "loudest", "(I)I"⟩), (47, ⟨"WheelTown", "missed", "(I)I"⟩)]), (59, [(48, ⟨"WheelTown", "next", "(I)I"⟩), (49, ⟨"WheelTown", "night", "(II)I"⟩), (50, ⟨"WheelTown", "off", "(II)I"⟩), (51, ⟨"WheelTown", "owed", "(IIII)I"⟩), (52, ⟨"WheelTown", "paste", "(IIIII)I"⟩), (53, ⟨"WheelTown", "putBytes", "(I)V"⟩), (54, ⟨"WheelTown", "read", "(III)I"⟩), (55, ⟨"WheelTown", "reading", "(IIII)I"⟩), (56, ⟨"WheelTown", "readings", "(II)I"⟩), (57, ⟨"WheelTown", "rod", "(II)I"⟩), (58, ⟨"WheelTown", "round", "(II)I"⟩), (59, ⟨"WheelTown", "row", "(III)I"⟩)]), (71, [(60, ⟨"WheelTown", "rowsHeld", "()I"⟩), (61, ⟨"WheelTown", "sets", "()I"⟩), (62, ⟨"WheelTown", "share", "(IIII)I"⟩), (63, ⟨"WheelTown", "span", "(I)I"⟩), (64, ⟨"WheelTown", "step", "(II)I"⟩), (65, ⟨"WheelTown", "told", "(II)I"⟩), (66, ⟨"WheelTown", "town", "()I"⟩), (67, ⟨"WheelTown", "turned", "(II)I"⟩), (68, ⟨"WheelTown", "undo", "(I)I"⟩), (69, ⟨"WheelTown", "unlike", "(II)I"⟩), (70, ⟨"WheelTown", "usedUnder", "(II)I"⟩), (71, ⟨"WheelTown", "vacant", "(I)I"⟩)]), (83, [(72, ⟨"WheelTown", "walk", "(I)I"⟩), (73, ⟨"WheelTown", "ways", "(I)I"⟩), (74, ⟨"WheelTown", "wheel", "(II)I"⟩), (75, ⟨"WheelTown", "won", "(II)I"⟩), (76, ⟨"WheelTown", "worst", "(I)I"⟩), (77, ⟨"WheelTown", "write", "(IIJ)I"⟩), (78, ⟨"WheelTownModel", "alone", "(I)I"⟩), (79, ⟨"WheelTownModel", "appeal", "(III)I"⟩), (80, ⟨"WheelTownModel", "back", "(I)I"⟩), (81, ⟨"WheelTownModel", "balance", "(IIII)I"⟩), (82, ⟨"WheelTownModel", "begins", "()V"⟩), (83, ⟨"WheelTownModel", "begins0", "()V"⟩)]), (95, [(84, ⟨"WheelTownModel", "bill", "(II)I"⟩), (85, ⟨"WheelTownModel", "billed", "(III)I"⟩), (86, ⟨"WheelTownModel", "burst", "(II)I"⟩), (87, ⟨"WheelTownModel", "bursts", "(II)I"⟩), (88, ⟨"WheelTownModel", "canFit", "()Z"⟩), (89, ⟨"WheelTownModel", "change", "(II)I"⟩), (90, ⟨"WheelTownModel", "copyReadings", "(II)V"⟩), (91, ⟨"WheelTownModel", "copyTown", "(II)V"⟩), (92, ⟨"WheelTownModel", "count", "(I)I"⟩), (93, ⟨"WheelTownModel", "counted", "(II)I"⟩), (94, ⟨"WheelTownModel", "drought", "(II)I"⟩), (95, ⟨"WheelTownModel", "end", "(I)I"⟩)]), (107, [(96, ⟨"WheelTownModel", "errors", "(II)I"⟩), (97, ⟨"WheelTownModel", "fault", "(I)I"⟩), (98, ⟨"WheelTownModel", "feed", "(IIIII)I"⟩), (99, ⟨"WheelTownModel", "fewest", "()I"⟩), (100, ⟨"WheelTownModel", "fits", "(I)I"⟩), (101, ⟨"WheelTownModel", "fitsAll", "()V"⟩), (102, ⟨"WheelTownModel", "flow", "(III)I"⟩), (103, ⟨"WheelTownModel", "flows", "(IZ)V"⟩), (104, ⟨"WheelTownModel", "four", "(I)V"⟩), (105, ⟨"WheelTownModel", "garden", "(II)I"⟩), (106, ⟨"WheelTownModel", "goesTo", "(I)V"⟩), (107, ⟨"WheelTownModel", "guess", "(II)I"⟩)]), (119, [(108, ⟨"WheelTownModel", "in", "(JJJ)Z"⟩), (109, ⟨"WheelTownModel", "<init>", "()V"⟩), (110, ⟨"WheelTownModel", "isByte", "(III)Z"⟩), (111, ⟨"WheelTownModel", "isDay", "(I)Z"⟩), (112, ⟨"WheelTownModel", "isGood", "()Z"⟩), (113, ⟨"WheelTownModel", "isMeter", "(I)Z"⟩), (114, ⟨"WheelTownModel", "isOver", "()V"⟩), (115, ⟨"WheelTownModel", "isSet", "(I)Z"⟩), (116, ⟨"WheelTownModel", "isSlot", "(I)Z"⟩), (117, ⟨"WheelTownModel", "judge", "(III)I"⟩), (118, ⟨"WheelTownModel", "keep", "(I)I"⟩), (119, ⟨"WheelTownModel", "leak", "(I)I"⟩)]), (131, [(120, ⟨"WheelTownModel", "limit", "(II)I"⟩), (121, ⟨"WheelTownModel", "lost", "(IIII)I"⟩), (122, ⟨"WheelTownModel", "lot", "(IIII)I"⟩), (123, ⟨"WheelTownModel", "loudest", "(I)I"⟩), (124, ⟨"WheelTownModel", "missed", "(I)I"⟩), (125, ⟨"WheelTownModel", "next", "()V"⟩), (126, ⟨"WheelTownModel", "next", "(I)I"⟩), (127, ⟨"WheelTownModel", "night", "(II)I"⟩), (128, ⟨"WheelTownModel", "off", "(II)I"⟩), (129, ⟨"WheelTownModel", "owed", "(IIII)I"⟩), (130, ⟨"WheelTownModel", "paste", "(IIIII)I"⟩), (131, ⟨"WheelTownModel", "plains", "()V"⟩)]), (143, [(132, ⟨"WheelTownModel", "read", "(III)I"⟩), (133, ⟨"WheelTownModel", "reading", "(IIII)I"⟩), (134, ⟨"WheelTownModel", "readings", "(II)I"⟩), (135, ⟨"WheelTownModel", "rod", "(II)I"⟩), (136, ⟨"WheelTownModel", "round", "(II)I"⟩), (137, ⟨"WheelTownModel", "row", "(III)I"⟩), (138, ⟨"WheelTownModel", "sets", "()I"⟩), (139, ⟨"WheelTownModel", "share", "(IIII)I"⟩), (140, ⟨"WheelTownModel", "span", "(I)I"⟩), (141, ⟨"WheelTownModel", "step", "(II)I"⟩), (142, ⟨"WheelTownModel", "supposes", "(I)V"⟩), (143, ⟨"WheelTownModel", "told", "(II)I"⟩)]), (155, [(144, ⟨"WheelTownModel", "town", "()I"⟩), (145, ⟨"WheelTownModel", "turned", "(II)I"⟩), (146, ⟨"WheelTownModel", "turnsAll", "(I)V"⟩), (147, ⟨"WheelTownModel", "undo", "(I)I"⟩), (148, ⟨"WheelTownModel", "unlike", "(II)I"⟩), (149, ⟨"WheelTownModel", "unlikesAt", "(I)V"⟩), (150, ⟨"WheelTownModel", "vacant", "(I)I"⟩), (151, ⟨"WheelTownModel", "walk", "(I)I"⟩), (152, ⟨"WheelTownModel", "ways", "(I)I"⟩), (153, ⟨"WheelTownModel", "wheel", "(II)I"⟩), (154, ⟨"WheelTownModel", "won", "(II)I"⟩), (155, ⟨"WheelTownModel", "worst", "(I)I"⟩)]), (167, [(156, ⟨"WheelTownModel", "write", "(IIJ)I"⟩), (157, ⟨"WheelTown$Meter", "copyFrom", "(LWheelTown$Meter;)V"⟩), (158, ⟨"WheelTown$Meter", "<init>", "()V"⟩), (159, ⟨"WheelTown$Parser", "advance", "()V"⟩), (160, ⟨"WheelTown$Parser", "<init>", "()V"⟩), (161, ⟨"WheelTown$Parser", "parse", "([BI)V"⟩), (162, ⟨"WheelTown$Readings", "copyFrom", "(LWheelTown$Readings;)V"⟩), (163, ⟨"WheelTown$Readings", "<init>", "()V"⟩), (164, ⟨"WheelTown$Slot", "<init>", "()V"⟩), (165, ⟨"WheelTown$Slot", "start", "(II)V"⟩), (166, ⟨"WheelTown$Stretches", "cutAt", "(I)V"⟩), (167, ⟨"WheelTown$Stretches", "cutByCalendar", "()V"⟩)]), (179, [(168, ⟨"WheelTown$Stretches", "cutByEvents", "(LWheelTown$Town;)V"⟩), (169, ⟨"WheelTown$Stretches", "<init>", "()V"⟩), (170, ⟨"WheelTown$Stretches", "lay", "(LWheelTown$Town;)V"⟩), (171, ⟨"WheelTown$Stretches", "number", "()V"⟩), (172, ⟨"WheelTown$Supposed", "<init>", "()V"⟩), (173, ⟨"WheelTown$Supposed", "seek", "(LWheelTown$Town;LWheelTown$Readings;LWheelTown$Stretches;)V"⟩), (174, ⟨"WheelTown$Tally", "<init>", "()V"⟩), (175, ⟨"WheelTown$Tariff", "copyFrom", "(LWheelTown$Tariff;)V"⟩), (176, ⟨"WheelTown$Tariff", "<init>", "()V"⟩), (177, ⟨"WheelTown$Town", "clear", "()V"⟩), (178, ⟨"WheelTown$Town", "copyFrom", "(LWheelTown$Town;)V"⟩), (179, ⟨"WheelTown$Town", "<init>", "()V"⟩)])]
def kt_nm (y : Nat) : MethodName := (kc_f2 y kt_nms).getD ⟨"", "", ""⟩
def kt_ccs : List (Nat × List (Nat × ByteArray)) := [(11, [(0, code), (1, prog_21_method_109_code), (2, prog_21_method_101_code), (3, prog_2_method_2_code), (4, prog_2_method_1_code), (5, prog_12_method_14_code), (6, prog_12_method_15_code), (7, prog_12_method_2_code), (8, prog_12_method_1_code), (9, prog_12_method_11_code), (10, prog_12_method_12_code), (11, prog_1_method_41_code)]), (23, [(12, prog_1_method_57_code), (13, prog_1_method_88_code), (14, prog_1_method_31_code), (15, prog_1_method_54_code), (16, prog_1_method_55_code), (17, prog_1_method_67_code), (18, prog_1_method_68_code), (19, prog_1_method_60_code), (20, prog_1_method_85_code), (21, prog_1_method_29_code), (22, prog_1_method_70_code), (23, prog_1_method_4_code)]), (35, [(24, prog_1_method_76_code), (25, prog_1_method_6_code), (26, prog_1_method_2_code), (27, prog_1_method_39_code), (28, prog_1_method_38_code), (29, prog_1_method_15_code), (30, prog_1_method_8_code), (31, prog_1_method_73_code), (32, prog_1_method_84_code), (33, prog_1_method_1_code), (34, prog_1_method_10_code), (35, prog_1_method_9_code)]), (47, [(36, prog_1_method_89_code), (37, prog_1_method_50_code), (38, prog_1_method_11_code), (39, prog_1_method_90_code), (40, prog_1_method_87_code), (41, prog_1_method_43_code), (42, prog_1_method_71_code), (43, prog_1_method_7_code), (44, prog_1_method_35_code), (45, prog_1_method_82_code), (46, prog_1_method_66_code), (47, prog_1_method_83_code)]), (59, [(48, prog_1_method_47_code), (49, prog_1_method_62_code), (50, prog_1_method_78_code), (51, prog_1_method_56_code), (52, prog_1_method_93_code), (53, prog_1_method_3_code), (54, prog_1_method_23_code), (55, prog_1_method_22_code), (56, prog_1_method_28_code), (57, prog_1_method_65_code), (58, prog_1_method_53_code), (59, prog_1_method_91_code)]), (71, [(60, prog_1_method_86_code), (61, prog_1_method_40_code), (62, prog_1_method_58_code), (63, prog_1_method_44_code), (64, prog_1_method_52_code), (65, prog_1_method_27_code), (66, prog_1_method_5_code), (67, prog_1_method_16_code), (68, prog_1_method_26_code), (69, prog_1_method_48_code), (70, prog_1_method_72_code), (71, prog_1_method_74_code)]), (83, [(72, prog_1_method_51_code), (73, prog_1_method_42_code), (74, prog_1_method_19_code), (75, prog_1_method_61_code), (76, prog_1_method_81_code), (77, prog_1_method_92_code), (78, prog_14_method_78_code), (79, prog_14_method_119_code), (80, prog_14_method_132_code), (81, prog_14_method_69_code), (82, prog_14_method_22_code), (83, prog_14_method_49_code)]), (95, [(84, prog_14_method_100_code), (85, prog_14_method_103_code), (86, prog_14_method_111_code), (87, prog_14_method_112_code), (88, prog_14_method_75_code), (89, prog_14_method_107_code), (90, prog_14_method_55_code), (91, prog_14_method_35_code), (92, prog_14_method_130_code), (93, prog_14_method_64_code), (94, prog_14_method_128_code), (95, prog_14_method_11_code)]), (107, [(96, prog_14_method_113_code), (97, prog_14_method_24_code), (98, prog_14_method_9_code), (99, prog_14_method_76_code), (100, prog_14_method_74_code), (101, prog_14_method_72_code), (102, prog_14_method_43_code), (103, prog_14_method_42_code), (104, prog_14_method_10_code), (105, prog_14_method_121_code), (106, prog_14_method_51_code), (107, prog_14_method_124_code)]), (119, [(108, prog_14_method_3_code), (109, prog_14_method_1_code), (110, prog_14_method_12_code), (111, prog_14_method_37_code), (112, prog_14_method_14_code), (113, prog_14_method_36_code), (114, prog_14_method_23_code), (115, prog_14_method_93_code), (116, prog_14_method_4_code), (117, prog_14_method_54_code), (118, prog_14_method_131_code), (119, prog_14_method_89_code)]), (131, [(120, prog_14_method_129_code), (121, prog_14_method_71_code), (122, prog_14_method_118_code), (123, prog_14_method_127_code), (124, prog_14_method_123_code), (125, prog_14_method_13_code), (126, prog_14_method_82_code), (127, prog_14_method_108_code), (128, prog_14_method_115_code), (129, prog_14_method_104_code), (130, prog_14_method_8_code), (131, prog_14_method_83_code)]), (143, [(132, prog_14_method_58_code), (133, prog_14_method_57_code), (134, prog_14_method_62_code), (135, prog_14_method_126_code), (136, prog_14_method_98_code), (137, prog_14_method_5_code), (138, prog_14_method_77_code), (139, prog_14_method_120_code), (140, prog_14_method_90_code), (141, prog_14_method_97_code), (142, prog_14_method_87_code), (143, prog_14_method_60_code)]), (155, [(144, prog_14_method_34_code), (145, prog_14_method_45_code), (146, prog_14_method_48_code), (147, prog_14_method_59_code), (148, prog_14_method_81_code), (149, prog_14_method_80_code), (150, prog_14_method_122_code), (151, prog_14_method_94_code), (152, prog_14_method_79_code), (153, prog_14_method_53_code), (154, prog_14_method_106_code), (155, prog_14_method_117_code)]), (167, [(156, prog_14_method_7_code), (157, prog_3_method_2_code), (158, prog_3_method_1_code), (159, prog_4_method_7_code), (160, prog_4_method_1_code), (161, prog_4_method_2_code), (162, prog_5_method_2_code), (163, prog_5_method_1_code), (164, prog_6_method_1_code), (165, prog_6_method_2_code), (166, prog_7_method_3_code), (167, prog_7_method_4_code)]), (179, [(168, prog_7_method_5_code), (169, prog_7_method_1_code), (170, prog_7_method_2_code), (171, prog_7_method_6_code), (172, prog_8_method_1_code), (173, prog_8_method_2_code), (174, prog_9_method_1_code), (175, prog_10_method_2_code), (176, prog_10_method_1_code), (177, prog_11_method_2_code), (178, prog_11_method_3_code), (179, prog_11_method_1_code)])]
def kt_cc (y : Nat) : ByteArray := (kc_f2 y kt_ccs).getD ⟨#[]⟩
def kt_rts : List (Nat × List (Nat × Option FieldType)) := [(11, [(0, (some .boolean)), (1, none), (2, none), (3, none), (4, none), (5, (some .int)), (6, (some .int)), (7, none), (8, none), (9, none), (10, none), (11, (some .int))]), (23, [(12, (some .int)), (13, (some .int)), (14, (some .int)), (15, (some .int)), (16, (some .int)), (17, (some .int)), (18, (some .int)), (19, (some .int)), (20, (some .int)), (21, (some .int)), (22, (some .int)), (23, (some .int))]), (35, [(24, (some .int)), (25, (some .int)), (26, (some .int)), (27, (some .int)), (28, (some .int)), (29, (some .int)), (30, none), (31, (some .int)), (32, (some .int)), (33, none), (34, (some .boolean)), (35, (some .boolean))]), (47, [(36, (some .boolean)), (37, (some .boolean)), (38, (some .boolean)), (39, (some .int)), (40, (some .int)), (41, (some .int)), (42, (some .int)), (43, none), (44, (some .int)), (45, (some .int)), (46, (some .int)), (47, (some .int))]), (59, [(48, (some .int)), (49, (some .int)), (50, (some .int)), (51, (some .int)), (52, (some .int)), (53, none), (54, (some .int)), (55, (some .int)), (56, (some .int)), (57, (some .int)), (58, (some .int)), (59, (some .int))]), (71, [(60, (some .int)), (61, (some .int)), (62, (some .int)), (63, (some .int)), (64, (some .int)), (65, (some .int)), (66, (some .int)), (67, (some .int)), (68, (some .int)), (69, (some .int)), (70, (some .int)), (71, (some .int))]), (83, [(72, (some .int)), (73, (some .int)), (74, (some .int)), (75, (some .int)), (76, (some .int)), (77, (some .int)), (78, (some .int)), (79, (some .int)), (80, (some .int)), (81, (some .int)), (82, none), (83, none)]), (95, [(84, (some .int)), (85, (some .int)), (86, (some .int)), (87, (some .int)), (88, (some .boolean)), (89, (some .int)), (90, none), (91, none), (92, (some .int)), (93, (some .int)), (94, (some .int)), (95, (some .int))]), (107, [(96, (some .int)), (97, (some .int)), (98, (some .int)), (99, (some .int)), (100, (some .int)), (101, none), (102, (some .int)), (103, none), (104, none), (105, (some .int)), (106, none), (107, (some .int))]), (119, [(108, (some .boolean)), (109, none), (110, (some .boolean)), (111, (some .boolean)), (112, (some .boolean)), (113, (some .boolean)), (114, none), (115, (some .boolean)), (116, (some .boolean)), (117, (some .int)), (118, (some .int)), (119, (some .int))]), (131, [(120, (some .int)), (121, (some .int)), (122, (some .int)), (123, (some .int)), (124, (some .int)), (125, none), (126, (some .int)), (127, (some .int)), (128, (some .int)), (129, (some .int)), (130, (some .int)), (131, none)]), (143, [(132, (some .int)), (133, (some .int)), (134, (some .int)), (135, (some .int)), (136, (some .int)), (137, (some .int)), (138, (some .int)), (139, (some .int)), (140, (some .int)), (141, (some .int)), (142, none), (143, (some .int))]), (155, [(144, (some .int)), (145, (some .int)), (146, none), (147, (some .int)), (148, (some .int)), (149, none), (150, (some .int)), (151, (some .int)), (152, (some .int)), (153, (some .int)), (154, (some .int)), (155, (some .int))]), (167, [(156, (some .int)), (157, none), (158, none), (159, none), (160, none), (161, none), (162, none), (163, none), (164, none), (165, none), (166, none), (167, none)]), (179, [(168, none), (169, none), (170, none), (171, none), (172, none), (173, none), (174, none), (175, none), (176, none), (177, none), (178, none), (179, none)])]
def kt_rt (y : Nat) : Option FieldType := (kc_f2 y kt_rts).getD none
def kt_U : kc_U := (kt_cln, kt_nm, kt_cc, kt_rt)
def kt_fT (l : List (String × String × String × Bool)) : u_T := fun k => l.getD k ("", "", "", false)
def kt_f0 : List (String × String × String × Bool) := [("WheelTown$Event", "meter", "I", false), ("WheelTown$Event", "amount", "I", false), ("WheelTown$Event", "from", "I", false), ("WheelTown$Event", "to", "I", false)]
def kt_f1 : List (String × String × String × Bool) := [("WheelTown$Meter", "parent", "I", false), ("WheelTown$Meter", "use", "I", false), ("WheelTown$Meter", "summer", "I", false), ("WheelTown$Meter", "digits", "I", false), ("WheelTown$Meter", "modulus", "I", false), ("WheelTown$Meter", "start", "I", false), ("WheelTown$Meter", "age", "I", false), ("WheelTown$Meter", "x", "I", false), ("WheelTown$Meter", "y", "I", false), ("WheelTown$Meter", "fault", "I", false), ("WheelTown$Meter", "homes", "I", false), ("WheelTown$Meter", "landlord", "I", false)]
def kt_f2 : List (String × String × String × Bool) := [("WheelTown$Parser", "text", "[B", false), ("WheelTown$Parser", "length", "I", false), ("WheelTown$Parser", "at", "I", false), ("WheelTown$Parser", "kind", "I", false), ("WheelTown$Parser", "from", "I", false), ("WheelTown$Parser", "value", "I", false), ("WheelTown$Parser", "numberFrom", "I", false), ("WheelTown$Parser", "fault", "I", false), ("WheelTown$Parser", "place", "I", false), ("WheelTown$Parser", "told", "LWheelTown$Town;", false)]
def kt_f3 : List (String × String × String × Bool) := [("WheelTown$Readings", "meters", "[I", true), ("WheelTown$Readings", "days", "[I", true), ("WheelTown$Readings", "wheels", "[I", true), ("WheelTown$Readings", "sorts", "[I", true), ("WheelTown$Readings", "count", "I", false)]
def kt_f4 : List (String × String × String × Bool) := [("WheelTown$Slot", "numbers", "[J", true), ("WheelTown$Slot", "hasRow", "Z", false), ("WheelTown$Slot", "width", "I", false), ("WheelTown$Slot", "length", "I", false)]
def kt_f5 : List (String × String × String × Bool) := [("WheelTown$Stretches", "starts", "[I", true), ("WheelTown$Stretches", "many", "I", false), ("WheelTown$Stretches", "ofDay", "[B", true), ("WheelTown$Stretches", "own", "[[I", true), ("WheelTown$Stretches", "ahead", "[[I", true), ("WheelTown$Stretches", "through", "[[I", true), ("WheelTown$Stretches", "dry", "[[I", true)]
def kt_f6 : List (String × String × String × Bool) := [("WheelTown$Supposed", "below", "[[I", true), ("WheelTown$Supposed", "fitting", "[[I", true), ("WheelTown$Supposed", "firmDays", "[I", true), ("WheelTown$Supposed", "firmWheels", "[I", true), ("WheelTown$Supposed", "firmCount", "I", false), ("WheelTown$Supposed", "dry", "LWheelTown$Tally;", true), ("WheelTown$Supposed", "wet", "LWheelTown$Tally;", true), ("WheelTown$Supposed", "many", "I", false), ("WheelTown$Supposed", "firstPipe", "I", false), ("WheelTown$Supposed", "firstRate", "I", false), ("WheelTown$Supposed", "firstSince", "I", false), ("WheelTown$Supposed", "fresh", "Z", false)]
def kt_f7 : List (String × String × String × Bool) := [("WheelTown$Tally", "daily", "[I", true), ("WheelTown$Tally", "before", "[I", true)]
def kt_f8 : List (String × String × String × Bool) := [("WheelTown$Tariff", "told", "Z", false), ("WheelTown$Tariff", "standing", "I", false), ("WheelTown$Tariff", "first", "I", false), ("WheelTown$Tariff", "upto", "I", false), ("WheelTown$Tariff", "beyond", "I", false)]
def kt_f9 : List (String × String × String × Bool) := [("WheelTown$Town", "meters", "[LWheelTown$Meter;", true), ("WheelTown$Town", "meterCount", "I", false), ("WheelTown$Town", "leaks", "[LWheelTown$Event;", true), ("WheelTown$Town", "leakCount", "I", false), ("WheelTown$Town", "flushes", "[LWheelTown$Event;", true), ("WheelTown$Town", "flushCount", "I", false), ("WheelTown$Town", "empties", "[LWheelTown$Event;", true), ("WheelTown$Town", "emptyCount", "I", false), ("WheelTown$Town", "tariffs", "[LWheelTown$Tariff;", true), ("WheelTown$Town", "lines", "I", false)]
def kt_f10 : List (String × String × String × Bool) := [("WheelTown$Walks", "rest", "[S", false), ("WheelTown$Walks", "gainSums", "[I", false), ("WheelTown$Walks", "costSums", "[I", false), ("WheelTown$Walks", "gains", "[I", true), ("WheelTown$Walks", "costs", "[I", true), ("WheelTown$Walks", "minutes", "[[I", true), ("WheelTown$Walks", "meterCount", "I", false), ("WheelTown$Walks", "readySet", "I", false)]
def kt_f11 : List (String × String × String × Bool) := [("WheelTown", "tape", "[B", true), ("WheelTown", "tapeLength", "I", false), ("WheelTown", "town", "LWheelTown$Town;", false), ("WheelTown", "parser", "LWheelTown$Parser;", true), ("WheelTown", "textFault", "I", false), ("WheelTown", "textPlace", "I", false), ("WheelTown", "readings", "LWheelTown$Readings;", true), ("WheelTown", "keptTowns", "[LWheelTown$Town;", true), ("WheelTown", "keptReadings", "[LWheelTown$Readings;", true), ("WheelTown", "stretches", "LWheelTown$Stretches;", true), ("WheelTown", "tally", "LWheelTown$Tally;", true), ("WheelTown", "supposed", "LWheelTown$Supposed;", true), ("WheelTown", "walks", "LWheelTown$Walks;", true), ("WheelTown", "slots", "[LWheelTown$Slot;", true), ("WheelTown", "shown", "[I", true), ("WheelTown", "pool", "[I", true)]
def kt_f12 : List (String × String × String × Bool) := [("WheelTownModel", "thrown", "I", false), ("WheelTownModel", "width", "[I", true), ("WheelTownModel", "many", "[I", true), ("WheelTownModel", "cells", "[J", true), ("WheelTownModel", "moved", "[J", true), ("WheelTownModel", "tape", "[B", true), ("WheelTownModel", "taped", "I", false), ("WheelTownModel", "at", "I", false), ("WheelTownModel", "token", "I", false), ("WheelTownModel", "place", "I", false), ("WheelTownModel", "value", "I", false), ("WheelTownModel", "word", "J", false), ("WheelTownModel", "bad", "I", false), ("WheelTownModel", "badPlace", "I", false), ("WheelTownModel", "fault", "I", false), ("WheelTownModel", "faultPlace", "I", false), ("WheelTownModel", "lines", "[I", true), ("WheelTownModel", "meters", "[I", true), ("WheelTownModel", "below", "[I", true), ("WheelTownModel", "use", "[I", true), ("WheelTownModel", "summer", "[I", true), ("WheelTownModel", "digits", "[I", true), ("WheelTownModel", "start", "[I", true), ("WheelTownModel", "age", "[I", true), ("WheelTownModel", "atX", "[I", true), ("WheelTownModel", "atY", "[I", true), ("WheelTownModel", "kind", "[I", true), ("WheelTownModel", "leaks", "[I", true), ("WheelTownModel", "leakAt", "[I", true), ("WheelTownModel", "rate", "[I", true), ("WheelTownModel", "since", "[I", true), ("WheelTownModel", "flushes", "[I", true), ("WheelTownModel", "flushAt", "[I", true), ("WheelTownModel", "flushBy", "[I", true), ("WheelTownModel", "flushOn", "[I", true), ("WheelTownModel", "empties", "[I", true), ("WheelTownModel", "emptyAt", "[I", true), ("WheelTownModel", "emptyFrom", "[I", true), ("WheelTownModel", "emptyTo", "[I", true), ("WheelTownModel", "homes", "[I", true), ("WheelTownModel", "landlord", "[I", true), ("WheelTownModel", "hasTariff", "[Z", true), ("WheelTownModel", "standing", "[I", true), ("WheelTownModel", "firstBy", "[I", true), ("WheelTownModel", "upto", "[I", true), ("WheelTownModel", "beyond", "[I", true), ("WheelTownModel", "isKept", "[Z", true), ("WheelTownModel", "supposedAt", "I", false), ("WheelTownModel", "supposedRate", "I", false), ("WheelTownModel", "supposedSince", "I", false), ("WheelTownModel", "through", "[I", true), ("WheelTownModel", "sums", "[J", true), ("WheelTownModel", "readings", "[I", true), ("WheelTownModel", "readOf", "[I", true), ("WheelTownModel", "readDay", "[I", true), ("WheelTownModel", "readWheel", "[I", true), ("WheelTownModel", "readSort", "[I", true), ("WheelTownModel", "fitting", "[I", true), ("WheelTownModel", "unlikes", "[I", true), ("WheelTownModel", "plain", "[I", true), ("WheelTownModel", "isFixed", "[Z", true), ("WheelTownModel", "leakMany", "I", false), ("WheelTownModel", "leakMeter", "I", false), ("WheelTownModel", "leakRate", "I", false), ("WheelTownModel", "leakDay", "I", false), ("WheelTownModel", "leastRate", "I", false), ("WheelTownModel", "greatestRate", "I", false), ("WheelTownModel", "walked", "[I", true), ("WheelTownModel", "least", "[I", true), ("WheelTownModel", "back", "[I", true)]
def kt_cl : List vw_C := [("WheelTown$Event", kt_fT kt_f0, 4), ("WheelTown$Meter", kt_fT kt_f1, 12), ("WheelTown$Parser", kt_fT kt_f2, 10), ("WheelTown$Readings", kt_fT kt_f3, 5), ("WheelTown$Slot", kt_fT kt_f4, 4), ("WheelTown$Stretches", kt_fT kt_f5, 7), ("WheelTown$Supposed", kt_fT kt_f6, 12), ("WheelTown$Tally", kt_fT kt_f7, 2), ("WheelTown$Tariff", kt_fT kt_f8, 5), ("WheelTown$Town", kt_fT kt_f9, 10), ("WheelTown$Walks", kt_fT kt_f10, 8), ("WheelTown", kt_fT kt_f11, 16), ("WheelTownModel", kt_fT kt_f12, 70)]
def kt_AOs : List String := ["WheelTown$Event", "WheelTown$Meter", "WheelTown$Readings", "WheelTown$Slot", "WheelTown$Tariff", "WheelTown$Town"]
def kt_NWs : List (String × Nat × MethodName × String) := [("WheelTown", 26, ⟨"WheelTown$Parser", "<init>", "()V"⟩, "WheelTown"), ("WheelTown", 39, ⟨"WheelTown$Readings", "<init>", "()V"⟩, "WheelTown"), ("WheelTown", 54, ⟨"WheelTown$Stretches", "<init>", "()V"⟩, "WheelTown"), ("WheelTown", 61, ⟨"WheelTown$Tally", "<init>", "()V"⟩, "WheelTown"), ("WheelTown", 68, ⟨"WheelTown$Supposed", "<init>", "()V"⟩, "WheelTown"), ("WheelTown", 75, ⟨"WheelTown$Walks", "<init>", "()V"⟩, "WheelTown"), ("WheelTown", 93, ⟨"WheelTown$Slot", "<init>", "()V"⟩, "WheelTown"), ("WheelTown$Supposed", 32, ⟨"WheelTown$Tally", "<init>", "()V"⟩, "WheelTown"), ("WheelTown$Town", 51, ⟨"WheelTown$Meter", "<init>", "()V"⟩, "WheelTown"), ("WheelTown$Town", 52, ⟨"WheelTown$Event", "<init>", "()V"⟩, "WheelTown"), ("WheelTown$Town", 53, ⟨"WheelTown$Tariff", "<init>", "()V"⟩, "WheelTown")]
def kt_lkh : List (Nat × List (Nat × List (Nat × List (Nat × Nat × Nat)))) := [(5, [(0, [(1, [(1, (1, 117))])]), (1, [(3, [(3, (1, 46))])]), (2, [(56, [(3, (1, 235)), (42, (1, 237)), (47, (3, 56)), (53, (3, 59)), (56, (3, 63))])]), (3, [(28, [(3, (2, 37)), (28, (6, 103))])]), (4, [(26, [(3, (2, 208)), (26, (6, 123))])]), (5, [(64, [(3, (2, 70)), (37, (3, 233)), (43, (3, 236)), (46, (4, 4)), (50, (4, 8)), (64, (4, 0))]), (95, [(95, (4, 12))])])]), (11, [(6, [(5, [(5, (2, 121))])]), (7, [(3, [(3, (2, 108))])]), (8, [(1, [(1, (1, 148))])]), (9, [(65, [(3, (1, 35)), (58, (6, 87)), (62, (6, 91)), (65, (6, 95))])]), (10, [(84, [(3, (2, 172)), (75, (5, 138)), (78, (5, 142)), (84, (5, 147))])]), (11, [(120, [(1, (1, 27)), (19, (1, 32)), (94, (3, 40)), (98, (3, 52)), (114, (3, 225)), (120, (3, 229))]), (302, [(124, (4, 38)), (140, (4, 50)), (144, (4, 54)), (147, (4, 57)), (226, (4, 120)), (302, (5, 10))]), (472, [(333, (5, 76)), (366, (5, 173)), (387, (5, 193)), (427, (6, 9)), (466, (6, 75)), (472, (6, 83))]), (488, [(475, (6, 99)), (478, (6, 112)), (488, (6, 119))])])]), (13, [(12, [(233, [(1, (6, 143)), (176, (7, 125)), (180, (7, 121)), (191, (7, 143)), (198, (7, 167)), (233, (7, 163))]), (393, [(344, (7, 159)), (347, (7, 176)), (357, (8, 36)), (360, (8, 40)), (390, (8, 48)), (393, (8, 52))]), (460, [(396, (8, 56)), (415, (8, 98)), (418, (8, 102)), (421, (8, 94)), (457, (8, 191)), (460, (8, 199))]), (570, [(468, (8, 223)), (496, (8, 239)), (505, (8, 235)), (511, (9, 27)), (570, (9, 196))])]), (13, [(22, [(9, (1, 24)), (12, (6, 140)), (13, (3, 36)), (17, (7, 139)), (18, (3, 44)), (22, (7, 147))]), (36, [(23, (3, 48)), (27, (7, 155)), (28, (4, 42)), (31, (7, 151)), (32, (4, 46)), (36, (8, 44))]), (50, [(37, (4, 60)), (41, (8, 77)), (42, (4, 79)), (45, (8, 86)), (46, (4, 108)), (50, (8, 123))]), (62, [(51, (4, 128)), (54, (8, 132)), (55, (4, 136)), (58, (8, 136)), (59, (4, 140)), (62, (8, 140))]), (74, [(63, (4, 144)), (66, (8, 144)), (67, (4, 148)), (70, (8, 148)), (71, (4, 168)), (74, (8, 160))]), (86, [(75, (4, 196)), (78, (8, 179)), (79, (4, 206)), (82, (8, 187)), (83, (4, 218)), (86, (8, 195))]), (98, [(87, (4, 222)), (90, (8, 203)), (91, (4, 234)), (94, (8, 211)), (95, (5, 2)), (98, (8, 215))]), (110, [(99, (5, 6)), (102, (8, 231)), (103, (5, 48)), (106, (9, 19)), (107, (5, 56)), (110, (8, 227))]), (122, [(111, (5, 68)), (114, (8, 219)), (115, (5, 72)), (118, (9, 23)), (119, (5, 118)), (122, (9, 39))]), (134, [(123, (5, 130)), (126, (9, 51)), (127, (5, 151)), (130, (9, 56)), (131, (5, 161)), (134, (9, 65))]), (146, [(135, (5, 169)), (138, (9, 77)), (139, (5, 183)), (142, (9, 89)), (143, (5, 197)), (146, (9, 81))]), (158, [(147, (5, 201)), (150, (9, 94)), (151, (5, 214)), (154, (9, 167)), (155, (5, 223)), (158, (9, 175))]), (170, [(159, (5, 239)), (162, (9, 179)), (163, (6, 4)), (166, (9, 183)), (167, (6, 26)), (170, (9, 114))]), (182, [(171, (6, 34)), (174, (9, 118)), (175, (6, 42)), (178, (9, 126)), (179, (6, 51)), (182, (9, 133))]), (194, [(183, (5, 227)), (186, (9, 102)), (187, (5, 231)), (190, (9, 110)), (191, (5, 174)), (194, (9, 142))]), (206, [(195, (5, 178)), (198, (9, 146)), (199, (6, 13)), (202, (9, 151)), (203, (6, 22)), (206, (9, 155))]), (218, [(207, (6, 63)), (210, (9, 159)), (211, (6, 67)), (214, (9, 163)), (215, (6, 108)), (218, (8, 119))]), (230, [(219, (6, 71)), (222, (9, 188)), (223, (6, 79)), (226, (9, 192)), (227, (6, 104)), (230, (9, 200))]), (245, [(231, (6, 115)), (234, (7, 117)), (237, (6, 126)), (241, (7, 128)), (242, (6, 134)), (245, (7, 135))])])])]
def kt_flh : List (Nat × List (Nat × List (Nat × List (Nat × Nat × Nat)))) := [(5, [(0, [(19, [(7, (1, 118)), (13, (1, 122)), (16, (1, 126)), (19, (1, 131))])]), (1, [(27, [(9, (1, 47)), (15, (1, 52)), (18, (1, 55)), (21, (1, 59)), (24, (1, 62)), (27, (1, 65))]), (45, [(30, (1, 67)), (33, (1, 71)), (36, (1, 74)), (39, (1, 77)), (42, (1, 81)), (45, (1, 84))])]), (2, [(28, [(9, (1, 238)), (15, (1, 239)), (19, (2, 0)), (22, (2, 1)), (25, (2, 2)), (28, (2, 3))]), (43, [(31, (2, 4)), (34, (2, 5)), (37, (2, 7)), (43, (2, 9))])]), (3, [(24, [(9, (2, 38)), (15, (2, 40)), (18, (2, 43)), (21, (2, 46)), (24, (2, 48))])]), (4, [(23, [(9, (2, 209)), (15, (2, 211)), (19, (2, 213)), (23, (2, 215))])]), (5, [(31, [(11, (2, 73)), (15, (2, 75)), (19, (2, 77)), (25, (2, 80)), (28, (2, 82)), (31, (2, 84))]), (89, [(34, (2, 86)), (53, (1, 178)), (68, (1, 188)), (80, (1, 195)), (89, (1, 201))])])]), (11, [(6, [(33, [(13, (2, 125)), (16, (2, 126)), (19, (2, 127)), (23, (2, 128)), (26, (2, 129)), (33, (2, 130))]), (52, [(37, (2, 131)), (40, (2, 132)), (43, (2, 134)), (46, (2, 136)), (49, (2, 138)), (52, (2, 140))]), (56, [(56, (1, 179))])]), (7, [(17, [(11, (2, 109)), (17, (2, 110))])]), (8, [(23, [(7, (1, 149)), (13, (1, 153)), (17, (1, 155)), (20, (1, 157)), (23, (1, 159))])]), (9, [(33, [(11, (1, 172)), (17, (1, 177)), (23, (1, 183)), (27, (1, 187)), (30, (1, 191)), (33, (1, 194))]), (54, [(36, (1, 197)), (39, (1, 200)), (44, (1, 203)), (48, (1, 206)), (54, (1, 150))])]), (10, [(30, [(9, (2, 174)), (15, (2, 175)), (19, (2, 176)), (22, (2, 177)), (25, (2, 179)), (30, (2, 181))]), (37, [(33, (2, 182)), (37, (2, 183))])]), (11, [(34, [(9, (2, 227)), (13, (2, 228)), (20, (2, 229)), (27, (2, 230)), (31, (2, 231)), (34, (2, 232))]), (69, [(40, (2, 233)), (44, (2, 234)), (48, (2, 235)), (55, (2, 236)), (62, (2, 237)), (69, (2, 238))]), (105, [(76, (2, 239)), (82, (3, 0)), (86, (3, 1)), (90, (3, 2)), (102, (2, 6)), (105, (2, 8))]), (306, [(108, (2, 10)), (111, (2, 50)), (117, (1, 207)), (127, (2, 141)), (131, (1, 181)), (306, (2, 135))]), (393, [(309, (2, 137)), (312, (2, 139)), (315, (2, 133)), (352, (1, 205)), (356, (1, 152)), (393, (1, 190))]), (469, [(469, (2, 212))])])]), (12, [(12, [(27, [(7, (6, 146)), (13, (6, 147)), (16, (6, 148)), (20, (6, 149)), (23, (6, 150)), (27, (6, 160))]), (46, [(31, (6, 161)), (34, (6, 162)), (37, (6, 163)), (40, (6, 164)), (43, (6, 165)), (46, (6, 166))]), (64, [(49, (6, 167)), (52, (6, 168)), (55, (6, 169)), (58, (6, 170)), (61, (6, 171)), (64, (6, 172))]), (82, [(67, (6, 173)), (70, (6, 174)), (73, (6, 175)), (76, (6, 176)), (79, (6, 177)), (82, (6, 178))]), (100, [(85, (6, 179)), (88, (6, 180)), (91, (6, 181)), (94, (6, 182)), (97, (6, 183)), (100, (6, 184))]), (119, [(103, (6, 185)), (106, (6, 186)), (110, (6, 187)), (113, (6, 188)), (116, (6, 189)), (119, (6, 190))]), (137, [(122, (6, 191)), (125, (6, 192)), (128, (6, 195)), (131, (6, 196)), (134, (6, 197)), (137, (6, 198))]), (155, [(140, (6, 199)), (143, (6, 200)), (146, (6, 201)), (149, (6, 202)), (152, (6, 203)), (155, (6, 204))]), (188, [(158, (6, 205)), (162, (6, 212)), (165, (6, 213)), (168, (6, 214)), (171, (6, 145)), (188, (6, 151))]), (223, [(195, (6, 152)), (202, (6, 154)), (205, (6, 155)), (208, (6, 156)), (212, (6, 153)), (223, (6, 157))]), (487, [(226, (6, 158)), (250, (6, 159)), (478, (6, 206)), (481, (6, 207)), (484, (6, 208)), (487, (6, 209))]), (493, [(490, (6, 210)), (493, (6, 211))])])])]
def kt_nwh : List (Nat × List (Nat × List (Nat × List (Nat × Nat × Nat)))) := [(13, [(2, [(40, [(40, (1, 236))])]), (6, [(30, [(30, (2, 123))])]), (9, [(42, [(9, (1, 36)), (21, (1, 38)), (42, (1, 40))])]), (11, [(66, [(17, (1, 30)), (24, (1, 230)), (37, (2, 32)), (52, (2, 65)), (59, (2, 103)), (66, (2, 116))]), (80, [(73, (2, 167)), (80, (2, 202))])]), (13, [(10, [(7, (1, 22)), (10, (6, 138))])])])]
def kt_awh : List (Nat × List (Nat × List (Nat × List (Nat × Nat × Nat)))) := [(11, [(9, [(42, [(9, (1, 36)), (21, (1, 38)), (42, (1, 40))])]), (11, [(80, [(17, (1, 30)), (37, (2, 32)), (80, (2, 202))])])])]
def kt_mwh : List (Nat × List (Nat × List (Nat × List (Nat × Nat × Nat)))) := [(10, [(5, [(23, [(23, (2, 71))])]), (6, [(11, [(11, (2, 122))])]), (10, [(28, [(28, (2, 173))])])])]
def kt_kwh : List (Nat × List (Nat × List (Nat × List (Nat × Nat × Nat)))) := [(13, [(11, [(451, [(164, (4, 64)), (289, (4, 226)), (380, (5, 187)), (426, (6, 8)), (451, (6, 55))])]), (12, [(466, [(161, (6, 144)), (174, (7, 124)), (364, (8, 55)), (400, (8, 81)), (430, (8, 127)), (466, (8, 210))]), (568, [(523, (9, 55)), (539, (9, 93)), (553, (9, 137)), (568, (9, 187))])]), (13, [(235, [(235, (9, 204))])])])]
def kt_mhs : List (Nat × List (Nat × (Nat × Nat) × (Nat × Nat) × (Nat × Nat) × (Nat × Nat))) := [(12, [(1, ((3, 235), (1, 19), (3, 234), (0, 0))), (2, ((6, 125), (1, 19), (6, 124), (0, 0))), (3, ((6, 94), (1, 4), (6, 92), (6, 93))), (4, ((1, 116), (1, 4), (1, 115), (0, 0))), (5, ((5, 196), (1, 11), (5, 194), (5, 195))), (6, ((5, 150), (1, 11), (5, 148), (5, 149))), (7, ((4, 41), (1, 11), (4, 39), (4, 40))), (8, ((2, 171), (1, 11), (2, 170), (0, 0))), (9, ((5, 141), (1, 11), (5, 139), (5, 140))), (10, ((5, 145), (1, 11), (5, 143), (5, 144))), (11, ((4, 237), (1, 1), (4, 235), (4, 236))), (12, ((5, 177), (1, 1), (5, 175), (5, 176)))]), (24, [(13, ((6, 107), (1, 1), (6, 105), (6, 106))), (14, ((4, 171), (1, 1), (4, 169), (4, 170))), (15, ((5, 154), (1, 1), (5, 152), (5, 153))), (16, ((5, 164), (1, 1), (5, 162), (5, 163))), (17, ((5, 230), (1, 1), (5, 228), (5, 229))), (18, ((5, 234), (1, 1), (5, 232), (5, 233))), (19, ((5, 186), (1, 1), (5, 184), (5, 185))), (20, ((6, 74), (1, 1), (6, 72), (6, 73))), (21, ((4, 151), (1, 1), (4, 149), (4, 150))), (22, ((6, 2), (1, 1), (6, 0), (6, 1))), (23, ((3, 47), (1, 1), (3, 45), (3, 46))), (24, ((6, 29), (1, 1), (6, 27), (6, 28)))]), (36, [(25, ((4, 45), (1, 1), (4, 43), (4, 44))), (26, ((3, 39), (1, 1), (3, 37), (3, 38))), (27, ((4, 221), (1, 1), (4, 219), (4, 220))), (28, ((4, 209), (1, 1), (4, 207), (4, 208))), (29, ((4, 49), (1, 1), (4, 47), (4, 48))), (30, ((4, 123), (1, 1), (4, 122), (0, 8))), (31, ((6, 16), (1, 1), (6, 14), (6, 15))), (32, ((6, 70), (1, 1), (6, 68), (6, 69))), (33, ((1, 26), (1, 1), (1, 25), (0, 0))), (34, ((4, 56), (1, 1), (4, 55), (0, 0))), (35, ((4, 53), (1, 1), (4, 52), (0, 2))), (36, ((6, 114), (1, 1), (6, 113), (0, 0)))]), (48, [(37, ((5, 79), (1, 1), (5, 78), (0, 17))), (38, ((4, 59), (1, 1), (4, 58), (0, 0))), (39, ((6, 111), (1, 1), (6, 109), (6, 110))), (40, ((6, 82), (1, 1), (6, 80), (6, 81))), (41, ((5, 9), (1, 1), (5, 7), (5, 8))), (42, ((6, 7), (1, 1), (6, 5), (6, 6))), (43, ((3, 228), (1, 1), (3, 227), (0, 1))), (44, ((4, 199), (1, 1), (4, 197), (4, 198))), (45, ((6, 54), (1, 1), (6, 52), (6, 53))), (46, ((5, 226), (1, 1), (5, 224), (5, 225))), (47, ((6, 66), (1, 1), (6, 64), (6, 65))), (48, ((5, 59), (1, 1), (5, 57), (5, 58)))]), (60, [(49, ((5, 204), (1, 1), (5, 202), (5, 203))), (50, ((6, 37), (1, 1), (6, 35), (6, 36))), (51, ((5, 172), (1, 1), (5, 170), (5, 171))), (52, ((6, 137), (1, 1), (6, 135), (6, 136))), (53, ((3, 43), (1, 1), (3, 42), (0, 0))), (54, ((4, 131), (1, 1), (4, 129), (4, 130))), (55, ((4, 111), (1, 1), (4, 109), (4, 110))), (56, ((4, 147), (1, 1), (4, 145), (4, 146))), (57, ((5, 217), (1, 1), (5, 215), (5, 216))), (58, ((5, 133), (1, 1), (5, 131), (5, 132))), (59, ((6, 118), (1, 1), (6, 116), (6, 117))), (60, ((6, 78), (1, 1), (6, 77), (0, 28)))]), (72, [(61, ((4, 225), (1, 1), (4, 223), (4, 224))), (62, ((5, 181), (1, 1), (5, 179), (5, 180))), (63, ((5, 51), (1, 1), (5, 49), (5, 50))), (64, ((5, 121), (1, 1), (5, 119), (5, 120))), (65, ((4, 143), (1, 1), (4, 141), (4, 142))), (66, ((3, 51), (1, 1), (3, 49), (3, 50))), (67, ((4, 63), (1, 1), (4, 61), (4, 62))), (68, ((4, 139), (1, 1), (4, 137), (4, 138))), (69, ((5, 71), (1, 1), (5, 69), (5, 70))), (70, ((6, 12), (1, 1), (6, 11), (0, 23))), (71, ((6, 25), (1, 1), (6, 23), (6, 24))), (72, ((5, 75), (1, 1), (5, 73), (5, 74)))]), (84, [(73, ((5, 5), (1, 1), (5, 3), (5, 4))), (74, ((4, 82), (1, 1), (4, 80), (4, 81))), (75, ((5, 200), (1, 1), (5, 198), (5, 199))), (76, ((6, 45), (1, 1), (6, 43), (6, 44))), (77, ((6, 129), (1, 1), (6, 127), (6, 128))), (78, ((8, 214), (1, 13), (8, 212), (8, 213))), (79, ((9, 145), (1, 13), (9, 143), (9, 144))), (80, ((9, 203), (1, 13), (9, 201), (9, 202))), (81, ((8, 163), (1, 13), (8, 161), (8, 162))), (82, ((7, 162), (1, 13), (7, 161), (0, 30))), (83, ((8, 101), (1, 13), (8, 100), (0, 60))), (84, ((9, 59), (1, 13), (9, 57), (9, 58)))]), (96, [(85, ((9, 68), (1, 13), (9, 66), (9, 67))), (86, ((9, 105), (1, 13), (9, 103), (9, 104))), (87, ((9, 113), (1, 13), (9, 111), (9, 112))), (88, ((8, 202), (1, 13), (8, 201), (0, 72))), (89, ((9, 92), (1, 13), (9, 90), (9, 91))), (90, ((9, 199), (1, 13), (9, 198), (0, 93))), (91, ((8, 43), (1, 13), (8, 42), (0, 51))), (92, ((9, 191), (1, 13), (9, 189), (9, 190))), (93, ((8, 151), (1, 13), (8, 149), (8, 150))), (94, ((9, 182), (1, 13), (9, 180), (9, 181))), (95, ((7, 150), (1, 13), (7, 148), (7, 149))), (96, ((9, 117), (1, 13), (9, 115), (9, 116)))]), (108, [(97, ((7, 154), (1, 13), (7, 152), (7, 153))), (98, ((7, 142), (1, 13), (7, 140), (7, 141))), (99, ((8, 198), (1, 13), (8, 196), (8, 197))), (100, ((8, 190), (1, 13), (8, 188), (8, 189))), (101, ((8, 194), (1, 13), (8, 193), (0, 71))), (102, ((8, 47), (1, 13), (8, 45), (8, 46))), (103, ((8, 59), (1, 13), (8, 58), (0, 53))), (104, ((7, 146), (1, 13), (7, 145), (0, 29))), (105, ((9, 154), (1, 13), (9, 152), (9, 153))), (106, ((8, 97), (1, 13), (8, 96), (0, 59))), (107, ((9, 166), (1, 13), (9, 164), (9, 165))), (108, ((7, 127), (1, 13), (7, 126), (0, 0)))]), (120, [(109, ((6, 142), (1, 13), (6, 141), (0, 0))), (110, ((7, 170), (1, 13), (7, 169), (0, 32))), (111, ((8, 54), (1, 13), (8, 53), (0, 0))), (112, ((7, 179), (1, 13), (7, 178), (0, 33))), (113, ((8, 51), (1, 13), (8, 50), (0, 52))), (114, ((8, 39), (1, 13), (8, 38), (0, 50))), (115, ((9, 30), (1, 13), (9, 29), (0, 80))), (116, ((7, 123), (1, 13), (7, 122), (0, 0))), (117, ((8, 122), (1, 13), (8, 120), (8, 121))), (118, ((9, 195), (1, 13), (9, 193), (9, 194))), (119, ((8, 234), (1, 13), (8, 232), (8, 233))), (120, ((9, 186), (1, 13), (9, 184), (9, 185)))]), (132, [(121, ((8, 182), (1, 13), (8, 180), (8, 181))), (122, ((9, 136), (1, 13), (9, 134), (9, 135))), (123, ((9, 178), (1, 13), (9, 176), (9, 177))), (124, ((9, 162), (1, 13), (9, 160), (9, 161))), (125, ((7, 166), (1, 13), (7, 165), (0, 31))), (126, ((8, 230), (1, 13), (8, 228), (8, 229))), (127, ((9, 97), (1, 13), (9, 95), (9, 96))), (128, ((9, 121), (1, 13), (9, 119), (9, 120))), (129, ((9, 80), (1, 13), (9, 78), (9, 79))), (130, ((7, 138), (1, 13), (7, 136), (7, 137))), (131, ((9, 2), (1, 13), (9, 1), (0, 75))), (132, ((8, 135), (1, 13), (8, 133), (8, 134)))]), (144, [(133, ((8, 126), (1, 13), (8, 124), (8, 125))), (134, ((8, 147), (1, 13), (8, 145), (8, 146))), (135, ((9, 170), (1, 13), (9, 168), (9, 169))), (136, ((9, 54), (1, 13), (9, 52), (9, 53))), (137, ((7, 120), (1, 13), (7, 118), (7, 119))), (138, ((8, 206), (1, 13), (8, 204), (8, 205))), (139, ((9, 149), (1, 13), (9, 147), (9, 148))), (140, ((9, 22), (1, 13), (9, 20), (9, 21))), (141, ((9, 42), (1, 13), (9, 40), (9, 41))), (142, ((8, 238), (1, 13), (8, 237), (0, 74))), (143, ((8, 143), (1, 13), (8, 141), (8, 142))), (144, ((7, 158), (1, 13), (7, 156), (7, 157)))]), (156, [(145, ((8, 80), (1, 13), (8, 78), (8, 79))), (146, ((8, 105), (1, 13), (8, 104), (0, 61))), (147, ((8, 139), (1, 13), (8, 137), (8, 138))), (148, ((8, 222), (1, 13), (8, 220), (8, 221))), (149, ((8, 226), (1, 13), (8, 225), (0, 73))), (150, ((9, 158), (1, 13), (9, 156), (9, 157))), (151, ((9, 26), (1, 13), (9, 24), (9, 25))), (152, ((8, 218), (1, 13), (8, 216), (8, 217))), (153, ((8, 89), (1, 13), (8, 87), (8, 88))), (154, ((9, 84), (1, 13), (9, 82), (9, 83))), (155, ((9, 129), (1, 13), (9, 127), (9, 128))), (156, ((7, 131), (1, 13), (7, 129), (7, 130)))]), (168, [(157, ((6, 90), (1, 3), (6, 88), (6, 89))), (158, ((1, 45), (1, 3), (1, 44), (0, 0))), (159, ((3, 66), (1, 6), (3, 64), (3, 65))), (160, ((1, 234), (1, 6), (1, 233), (0, 0))), (161, ((3, 55), (1, 6), (3, 53), (3, 54))), (162, ((6, 102), (1, 7), (6, 100), (6, 101))), (163, ((2, 36), (1, 7), (2, 35), (0, 0))), (164, ((2, 207), (1, 12), (2, 206), (0, 0))), (165, ((6, 122), (1, 12), (6, 120), (6, 121))), (166, ((4, 3), (1, 8), (4, 1), (4, 2))), (167, ((3, 239), (1, 8), (3, 237), (3, 238))), (168, ((4, 7), (1, 8), (4, 5), (4, 6)))]), (179, [(169, ((2, 69), (1, 8), (2, 68), (0, 0))), (170, ((3, 232), (1, 8), (3, 230), (3, 231))), (171, ((4, 11), (1, 8), (4, 9), (4, 10))), (172, ((2, 120), (1, 10), (2, 119), (0, 0))), (173, ((5, 13), (1, 10), (5, 11), (5, 12))), (174, ((2, 107), (1, 9), (2, 106), (0, 0))), (175, ((6, 98), (1, 5), (6, 96), (6, 97))), (176, ((1, 147), (1, 5), (1, 146), (0, 0))), (177, ((3, 62), (1, 2), (3, 60), (3, 61))), (178, ((6, 86), (1, 2), (6, 84), (6, 85))), (179, ((1, 34), (1, 2), (1, 33), (0, 0)))])]
def kt_mh (y : Nat) : (Nat × Nat) × (Nat × Nat) × (Nat × Nat) × (Nat × Nat) := (kc_f2 y kt_mhs).getD ((0, 0), (0, 0), (0, 0), (0, 0))
def kt_chs : List (Nat × (Nat × Nat) × (Nat × Nat) × List (Nat × Nat)) := [(0, ((1, 113), (1, 4), [(1, 135), (1, 137), (1, 139), (1, 141)])), (1, ((1, 42), (1, 3), [(1, 87), (1, 89), (1, 91), (1, 93), (1, 95), (1, 97), (1, 99), (1, 101), (1, 103), (1, 105), (1, 107), (1, 109)])), (2, ((1, 231), (1, 6), [(2, 11), (2, 13), (2, 15), (2, 17), (2, 19), (2, 21), (2, 23), (2, 25), (2, 27), (2, 29)])), (3, ((2, 33), (1, 7), [(2, 51), (2, 53), (2, 55), (2, 57), (2, 59)])), (4, ((2, 204), (1, 12), [(2, 217), (2, 219), (2, 221), (2, 223)])), (5, ((2, 66), (1, 8), [(2, 88), (2, 90), (2, 92), (2, 94), (2, 96), (2, 98), (2, 100)])), (6, ((2, 117), (1, 10), [(2, 142), (2, 144), (2, 146), (2, 148), (2, 150), (2, 152), (2, 154), (2, 156), (2, 158), (2, 160), (2, 162), (2, 164)])), (7, ((2, 104), (1, 9), [(2, 111), (2, 113)])), (8, ((1, 144), (1, 5), [(1, 161), (1, 163), (1, 165), (1, 167), (1, 169)])), (9, ((1, 31), (1, 2), [(1, 209), (1, 211), (1, 213), (1, 215), (1, 217), (1, 219), (1, 221), (1, 223), (1, 225), (1, 227)])), (10, ((2, 168), (1, 11), [(2, 184), (2, 186), (2, 188), (2, 190), (2, 192), (2, 194), (2, 196), (2, 198)])), (11, ((1, 23), (1, 1), [(3, 3), (3, 5), (3, 7), (3, 9), (3, 11), (3, 13), (3, 15), (3, 17), (3, 19), (3, 21), (3, 23), (3, 25), (3, 27), (3, 29), (3, 31), (3, 33)])), (12, ((6, 139), (1, 13), [(6, 215), (6, 217), (6, 219), (6, 221), (6, 223), (6, 225), (6, 227), (6, 229), (6, 231), (6, 233), (6, 235), (6, 237), (6, 239), (7, 1), (7, 3), (7, 5), (7, 7), (7, 9), (7, 11), (7, 13), (7, 15), (7, 17), (7, 19), (7, 21), (7, 23), (7, 25), (7, 27), (7, 29), (7, 31), (7, 33), (7, 35), (7, 37), (7, 39), (7, 41), (7, 43), (7, 45), (7, 47), (7, 49), (7, 51), (7, 53), (7, 55), (7, 57), (7, 59), (7, 61), (7, 63), (7, 65), (7, 67), (7, 69), (7, 71), (7, 73), (7, 75), (7, 77), (7, 79), (7, 81), (7, 83), (7, 85), (7, 87), (7, 89), (7, 91), (7, 93), (7, 95), (7, 97), (7, 99), (7, 101), (7, 103), (7, 105), (7, 107), (7, 109), (7, 111), (7, 113)]))]
def kt_ch (c : Nat) : (Nat × Nat) × (Nat × Nat) × List (Nat × Nat) := (kc_f1 c kt_chs).getD ((0, 0), (0, 0), [])
def kt_tb : List (List Jvm.Cond) := [k2_sels lw_privs, tables_1_1, tables_1_2, tables_1_3, tables_1_4, tables_1_5, tables_1_6, tables_1_7, tables_1_8, tables_1_9]
def kt_Ts : List Jvm.Cond := lw_tbl.filter goodWord
theorem kt_Ts_good : GoodIn kt_Ts kt_Ts := fun w hw => ⟨hw, good_of_word (List.mem_filter.mp hw).2⟩
def kt_at (h : Nat × Nat) : Option Jvm.Cond := (kt_tb[h.1]?).bind (fun l => l[h.2]?)
def kt_in (h : Nat × Nat) (w : Jvm.Cond) : Bool := decide (kt_at h = some w) && goodWord w
theorem kt_tb_eq : kt_tb.flatten = lw_tbl := by
  unfold kt_tb lw_tbl tables_1
  simp only [List.flatten_cons, List.flatten_nil, List.append_nil]
theorem kt_in.ok {h : Nat × Nat} {w : Jvm.Cond} (hh : kt_in h w = true) : w ∈ kt_Ts := by
  unfold kt_in kt_at at hh
  rw [Bool.and_eq_true] at hh
  obtain ⟨l, h1, h2⟩ := Option.bind_eq_some_iff.mp (of_decide_eq_true hh.1)
  refine List.mem_filter.mpr ⟨?_, hh.2⟩
  rw [← kt_tb_eq]
  exact List.mem_flatten.mpr ⟨l, List.mem_of_getElem? h1, List.mem_of_getElem? h2⟩
def kt_h4 (l : List (Nat × List (Nat × List (Nat × List (Nat × Nat × Nat))))) (c ix : Nat) : Nat × Nat := (match kc_f2 c l with
  | some l2 => kc_f2 ix l2
  | none => none).getD (0, 0)
theorem kc_f1.mem {α : Type} {k : Nat} {a : α} : ∀ {l : List (Nat × α)}, kc_f1 k l = some a → (k, a) ∈ l
  | [], h => by cases h
  | q :: l, h => by
    unfold kc_f1 at h
    split at h
    · rename_i e
      cases h
      rw [← Nat.eq_of_beq_eq_true e]
      exact List.mem_cons_self
    · exact List.mem_cons_of_mem _ (kc_f1.mem h)
theorem kc_f2.mem {α : Type} {k : Nat} {a : α} : ∀ {l : List (Nat × List (Nat × α))}, kc_f2 k l = some a → ∃ b ∈ l, (k, a) ∈ b.2
  | [], h => by cases h
  | q :: l, h => by
    unfold kc_f2 at h
    split at h
    · exact ⟨q, List.mem_cons_self, kc_f1.mem h⟩
    · obtain ⟨b, h1, h2⟩ := kc_f2.mem h
      exact ⟨b, List.mem_cons_of_mem _ h1, h2⟩
def kt_all2 {α : Type} (P : Nat → α → Bool) (l : List (Nat × List (Nat × α))) : Bool := l.all (fun b => b.2.all (fun q => P q.1 q.2))
theorem kt_all2.ok {α : Type} {P : Nat → α → Bool} {l : List (Nat × List (Nat × α))} (h : kt_all2 P l = true) {k : Nat} {a : α} (hk : kc_f2 k l = some a) : P k a = true := by
  obtain ⟨b, h1, h2⟩ := kc_f2.mem hk
  exact List.all_eq_true.mp (List.all_eq_true.mp h b h1) (k, a) h2
def kt_all4 {α : Type} (P : Nat → Nat → α → Bool) (l : List (Nat × List (Nat × List (Nat × List (Nat × α))))) : Bool := kt_all2 (fun c l2 => kt_all2 (P c) l2) l
theorem kt_all4.ok {α : Type} {P : Nat → Nat → α → Bool} {l : List (Nat × List (Nat × List (Nat × List (Nat × α))))} (h : kt_all4 P l = true) {c k : Nat} {a : α} (hk : (match kc_f2 c l with
  | some l2 => kc_f2 k l2
  | none => none) = some a) : P c k a = true := by
  cases hq : kc_f2 c l with
  | none => rw [hq] at hk; cases hk
  | some l2 => rw [hq] at hk; exact kt_all2.ok (kt_all2.ok h hq) hk
def kt_rgl (n : Nat) (P : Nat → Bool) : Bool := (List.range n).all P
theorem kt_rgl.ok {n : Nat} {P : Nat → Bool} (h : kt_rgl n P = true) {k : Nat} (hk : k < n) : P k = true := List.all_eq_true.mp h k (List.mem_range.mpr hk)
-- the checks
def kt_cCL (ci : Nat) : Bool := match kt_cl[ci]? with
  | some q => kt_rgl q.2.2 (fun k => kt_in ((kt_ch ci).2.2.getD k (0, 0)) (u_lay q.1 q.2.1 k)) && decide ((kt_fd ci).length = q.2.2) && kt_rgl q.2.2 (fun k => decide (parseFieldDescriptor (q.2.1 k).2.2.1 = some ((kt_fd ci).getD k (.int, false)).1) && decide ((q.2.1 k).1 = q.1) && decide ((q.2.1 k).2.2.2 = ((kt_fd ci).getD k (.int, false)).2)) && kt_rgl q.2.2 (fun a => kt_rgl q.2.2 (fun b => Nat.beq a b || decide ((q.2.1 a).2.1 ≠ (q.2.1 b).2.1))) && (kt_fd ci).all (fun z => kc_pl z.1) && decide (kt_cn ci = .object q.1) && decide (q.1 = kt_cln ci) && kt_in (kt_ch ci).1 (.instantiable q.1 q.2.2)
  | none => true
def kt_cFL (ci ix : Nat) (v : Nat × Nat) : Bool := match kt_cl[v.1]? with
  | some z => decide (v.2 < z.2.2) && kt_in (kt_h4 kt_flh ci ix) (.fieldLink (kt_cln ci) ix (z.2.1 v.2).1 (z.2.1 v.2).2.1 (z.2.1 v.2).2.2.1)
  | none => false
def kt_cNL (ci ix : Nat) (v : Nat) : Bool := match kt_cl[v]? with
  | some z => kt_in (kt_h4 kt_nwh ci ix) (.classLink (kt_cln ci) ix z.1) && kt_in (kt_ch v).1 (.instantiable z.1 z.2.2) && kt_in (kt_ch v).2.1 (.initialized z.1)
  | none => false
def kt_cKL (ci ix : Nat) (v : Nat × Int) : Bool := (Nat.beq v.1 1 && decide ((Int32.ofInt v.2).toInt = v.2) && kt_in (kt_h4 kt_kwh ci ix) (.constant (kt_cln ci) ix (Int32.ofInt v.2))) || (Nat.beq v.1 2 && decide ((Int64.ofInt v.2).toInt = v.2) && kt_in (kt_h4 kt_kwh ci ix) (.constantLong (kt_cln ci) ix (Int64.ofInt v.2)))
def kt_cAL (ci ix : Nat) (ty : FieldType) : Bool := match ty with
  | .object C => kt_AOs.contains C && kt_in (kt_h4 kt_awh ci ix) (.classLink (kt_cln ci) ix C)
  | _ => false
def kt_cML (ci ix : Nat) (_ : Bool) : Bool := kt_in (kt_h4 kt_mwh ci ix) (.classLink (kt_cln ci) ix ("[" ++ (FieldType.array .int).toString))
def kt_cLK (ci ix : Nat) (v : Nat × Nat) : Bool :=
  if v.1 = 3 then kt_in (kt_h4 kt_lkh ci ix) (.methodLink (kt_cln ci) ix Lib.objectInit) else
  if v.1 = 4 then kt_in (kt_h4 kt_lkh ci ix) (.methodLink (kt_cln ci) ix arraycopyName) else
  if v.1 = 5 then kt_in (kt_h4 kt_lkh ci ix) (.methodLink (kt_cln ci) ix Lib.Math.min.name) else
  if v.1 = 6 then kt_in (kt_h4 kt_lkh ci ix) (.methodLink (kt_cln ci) ix Lib.Math.max.name) else
  Nat.ble 1 v.2 && Nat.ble v.2 179 && (if v.1 ≤ 2 then kt_in (kt_h4 kt_lkh ci ix) (.methodLink (kt_cln ci) ix (kt_nm v.2)) else kt_NWs.any (fun q => decide (q.1 = kt_cln ci ∧ q.2.1 = ix ∧ q.2.2.1 = kt_nm v.2))) &&
  (if v.1 = 0 ∨ v.1 = 10 then kt_in (kt_mh v.2).2.2.1 (.instanceMethod (kt_nm v.2)) && kt_in (kt_mh v.2).2.2.2 (.selects (kt_nm v.2).cls (kt_nm v.2) (kt_nm v.2)) && decide ((parseMethodDescriptor (kt_nm v.2).desc).map (fun d => d.parameters.length) = some ((kt_mi v.2).2.1.length - 1))
   else if v.1 = 1 ∨ v.1 = 11 then kt_in (kt_mh v.2).2.2.1 (.static (kt_nm v.2)) && decide ((parseMethodDescriptor (kt_nm v.2).desc).map (fun d => d.parameters.length) = some (kt_mi v.2).2.1.length)
   else if v.1 = 2 ∨ v.1 = 12 then kt_in (kt_mh v.2).2.2.1 (.instanceMethod (kt_nm v.2)) && decide ((kt_nm v.2).name = "<init>") && decide (kt_rt v.2 = none) && decide ((parseMethodDescriptor (kt_nm v.2).desc).map (fun d => d.parameters.length) = some ((kt_mi v.2).2.1.length - 1))
   else false)
def kt_cRK (rk : Nat) (r : Option FieldType) : Bool := match rk, r with
  | 0, none => true
  | 1, some .int => true
  | 2, some .long => true
  | 3, some (.object _) => true
  | 3, some (.array _) => true
  | 4, some .boolean => true
  | _, _ => false
def kt_cMV (y : Nat) : Bool := kt_in (kt_mh y).2.1 (.initialized (kt_nm y).cls) && plainName (kt_nm y).cls && decide ((kt_nm y).cls ≠ "java/lang/invoke/MethodHandle" ∧ (kt_nm y).cls ≠ "java/lang/invoke/VarHandle") && decide (kt_cln (kt_mi y).2.2.2.2.2.2.1 = (kt_nm y).cls) && (!(kt_mi y).2.2.2.2.2.2.2 || decide ((kt_nm y).name = "<init>")) && kt_cRK (kt_rk y) (kt_rt y)
def kt_cCW (y : Nat) : Bool := kt_in (kt_mh y).1 (Jvm.Cond.code (kt_nm y) (kt_cc y) (kt_mi y).1 (kt_rt y))
def kt_cD (y : Nat) (rows : List (Nat × List (Nat × Instr × Nat))) : Bool := kt_all2 (fun pc v => decide (decode (kt_cc y) pc = .ok v)) rows
end
section
set_option maxRecDepth 100000 in
theorem kt_hCL : kt_rgl 13 kt_cCL = true := by decide +kernel
set_option maxRecDepth 100000 in
theorem kt_hFL : kt_all4 kt_cFL kt_fls = true := by decide +kernel
set_option maxRecDepth 100000 in
theorem kt_hNL : kt_all4 kt_cNL kt_nws = true := by decide +kernel
set_option maxRecDepth 100000 in
theorem kt_hKL : kt_all4 kt_cKL kt_kws = true := by decide +kernel
set_option maxRecDepth 100000 in
theorem kt_hAL : kt_all4 kt_cAL kt_aws = true := by decide +kernel
set_option maxRecDepth 100000 in
theorem kt_hML : kt_all4 kt_cML kt_mxs = true := by decide +kernel
set_option maxRecDepth 100000 in
theorem kt_hAC : ((kt_in (2, 62) (.arrayClass .int) && kt_in (1, 112) (.arrayClass .byte) && kt_in (2, 201) (.arrayClass .short) && kt_in (7, 116) (.arrayClass .boolean) && kt_in (2, 226) (.arrayClass .long)) && kt_in (1, 28) (.instanceMethod Lib.objectInit) && kt_in (6, 62) (.native arraycopyName) && kt_in (6, 61) (.static arraycopyName) && kt_in (1, 21) (.initialized "java/lang/System") && kt_in (1, 29) (.code Lib.objectInit object_method_1_code 1 none)) = true := by decide +kernel
set_option maxRecDepth 100000 in
theorem kt_hMM : (kt_in (3, 57) (.static Lib.Math.min.name) && kt_in (4, 13) (.static Lib.Math.max.name) && kt_in (1, 14) (.initialized "java/lang/Math") && kt_in (3, 58) (.code Lib.Math.min.name Lib.Math.min.code 2 (some .int)) && kt_in (4, 14) (.code Lib.Math.max.name Lib.Math.max.code 2 (some .int))) = true := by decide +kernel
end
section
set_option maxRecDepth 100000 in
theorem kt_hLK : kt_all4 kt_cLK kt_lks = true := by decide +kernel
end
section
set_option maxRecDepth 100000 in
theorem kt_hMV : kt_rgl 179 (fun y => kt_cMV (y + 1)) = true := by decide +kernel
end
section
theorem kt_in2 {h : Nat × Nat} {w : Jvm.Cond} (h1 : kt_at h = some w) (h2 : goodWord w = true) : w ∈ kt_Ts := by
  unfold kt_at at h1
  obtain ⟨l, g1, g2⟩ := Option.bind_eq_some_iff.mp h1
  refine List.mem_filter.mpr ⟨?_, h2⟩
  rw [← kt_tb_eq]
  exact List.mem_flatten.mpr ⟨l, List.mem_of_getElem? g1, List.mem_of_getElem? g2⟩

set_option maxRecDepth 100000 in
theorem kt_cw1 : Jvm.Cond.code (kt_nm 1) (kt_cc 1) (kt_mi 1).1 (kt_rt 1) ∈ kt_Ts := kt_in2 (h := (3, 235)) rfl rfl
set_option maxRecDepth 100000 in
theorem kt_cw2 : Jvm.Cond.code (kt_nm 2) (kt_cc 2) (kt_mi 2).1 (kt_rt 2) ∈ kt_Ts := kt_in2 (h := (6, 125)) rfl rfl
set_option maxRecDepth 100000 in
theorem kt_cw3 : Jvm.Cond.code (kt_nm 3) (kt_cc 3) (kt_mi 3).1 (kt_rt 3) ∈ kt_Ts := kt_in2 (h := (6, 94)) rfl rfl
set_option maxRecDepth 100000 in
theorem kt_cw4 : Jvm.Cond.code (kt_nm 4) (kt_cc 4) (kt_mi 4).1 (kt_rt 4) ∈ kt_Ts := kt_in2 (h := (1, 116)) rfl rfl
set_option maxRecDepth 100000 in
theorem kt_cw5 : Jvm.Cond.code (kt_nm 5) (kt_cc 5) (kt_mi 5).1 (kt_rt 5) ∈ kt_Ts := kt_in2 (h := (5, 196)) rfl rfl
set_option maxRecDepth 100000 in
theorem kt_cw6 : Jvm.Cond.code (kt_nm 6) (kt_cc 6) (kt_mi 6).1 (kt_rt 6) ∈ kt_Ts := kt_in2 (h := (5, 150)) rfl rfl
set_option maxRecDepth 100000 in
theorem kt_cw7 : Jvm.Cond.code (kt_nm 7) (kt_cc 7) (kt_mi 7).1 (kt_rt 7) ∈ kt_Ts := kt_in2 (h := (4, 41)) rfl rfl
set_option maxRecDepth 100000 in
theorem kt_cw8 : Jvm.Cond.code (kt_nm 8) (kt_cc 8) (kt_mi 8).1 (kt_rt 8) ∈ kt_Ts := kt_in2 (h := (2, 171)) rfl rfl
set_option maxRecDepth 100000 in
theorem kt_cw9 : Jvm.Cond.code (kt_nm 9) (kt_cc 9) (kt_mi 9).1 (kt_rt 9) ∈ kt_Ts := kt_in2 (h := (5, 141)) rfl rfl
set_option maxRecDepth 100000 in
theorem kt_cw10 : Jvm.Cond.code (kt_nm 10) (kt_cc 10) (kt_mi 10).1 (kt_rt 10) ∈ kt_Ts := kt_in2 (h := (5, 145)) rfl rfl
set_option maxRecDepth 100000 in
theorem kt_cw11 : Jvm.Cond.code (kt_nm 11) (kt_cc 11) (kt_mi 11).1 (kt_rt 11) ∈ kt_Ts := kt_in2 (h := (4, 237)) rfl rfl
set_option maxRecDepth 100000 in
theorem kt_cw12 : Jvm.Cond.code (kt_nm 12) (kt_cc 12) (kt_mi 12).1 (kt_rt 12) ∈ kt_Ts := kt_in2 (h := (5, 177)) rfl rfl
set_option maxRecDepth 100000 in
theorem kt_cw13 : Jvm.Cond.code (kt_nm 13) (kt_cc 13) (kt_mi 13).1 (kt_rt 13) ∈ kt_Ts := kt_in2 (h := (6, 107)) rfl rfl
set_option maxRecDepth 100000 in
theorem kt_cw14 : Jvm.Cond.code (kt_nm 14) (kt_cc 14) (kt_mi 14).1 (kt_rt 14) ∈ kt_Ts := kt_in2 (h := (4, 171)) rfl rfl
set_option maxRecDepth 100000 in
theorem kt_cw15 : Jvm.Cond.code (kt_nm 15) (kt_cc 15) (kt_mi 15).1 (kt_rt 15) ∈ kt_Ts := kt_in2 (h := (5, 154)) rfl rfl
set_option maxRecDepth 100000 in
theorem kt_cw16 : Jvm.Cond.code (kt_nm 16) (kt_cc 16) (kt_mi 16).1 (kt_rt 16) ∈ kt_Ts := kt_in2 (h := (5, 164)) rfl rfl
set_option maxRecDepth 100000 in
theorem kt_cw17 : Jvm.Cond.code (kt_nm 17) (kt_cc 17) (kt_mi 17).1 (kt_rt 17) ∈ kt_Ts := kt_in2 (h := (5, 230)) rfl rfl
set_option maxRecDepth 100000 in
theorem kt_cw18 : Jvm.Cond.code (kt_nm 18) (kt_cc 18) (kt_mi 18).1 (kt_rt 18) ∈ kt_Ts := kt_in2 (h := (5, 234)) rfl rfl
set_option maxRecDepth 100000 in
theorem kt_cw19 : Jvm.Cond.code (kt_nm 19) (kt_cc 19) (kt_mi 19).1 (kt_rt 19) ∈ kt_Ts := kt_in2 (h := (5, 186)) rfl rfl
set_option maxRecDepth 100000 in
theorem kt_cw20 : Jvm.Cond.code (kt_nm 20) (kt_cc 20) (kt_mi 20).1 (kt_rt 20) ∈ kt_Ts := kt_in2 (h := (6, 74)) rfl rfl
set_option maxRecDepth 100000 in
theorem kt_cw21 : Jvm.Cond.code (kt_nm 21) (kt_cc 21) (kt_mi 21).1 (kt_rt 21) ∈ kt_Ts := kt_in2 (h := (4, 151)) rfl rfl
set_option maxRecDepth 100000 in
theorem kt_cw22 : Jvm.Cond.code (kt_nm 22) (kt_cc 22) (kt_mi 22).1 (kt_rt 22) ∈ kt_Ts := kt_in2 (h := (6, 2)) rfl rfl
set_option maxRecDepth 100000 in
theorem kt_cw23 : Jvm.Cond.code (kt_nm 23) (kt_cc 23) (kt_mi 23).1 (kt_rt 23) ∈ kt_Ts := kt_in2 (h := (3, 47)) rfl rfl
set_option maxRecDepth 100000 in
theorem kt_cw24 : Jvm.Cond.code (kt_nm 24) (kt_cc 24) (kt_mi 24).1 (kt_rt 24) ∈ kt_Ts := kt_in2 (h := (6, 29)) rfl rfl
set_option maxRecDepth 100000 in
theorem kt_cw25 : Jvm.Cond.code (kt_nm 25) (kt_cc 25) (kt_mi 25).1 (kt_rt 25) ∈ kt_Ts := kt_in2 (h := (4, 45)) rfl rfl
set_option maxRecDepth 100000 in
theorem kt_cw26 : Jvm.Cond.code (kt_nm 26) (kt_cc 26) (kt_mi 26).1 (kt_rt 26) ∈ kt_Ts := kt_in2 (h := (3, 39)) rfl rfl
set_option maxRecDepth 100000 in
theorem kt_cw27 : Jvm.Cond.code (kt_nm 27) (kt_cc 27) (kt_mi 27).1 (kt_rt 27) ∈ kt_Ts := kt_in2 (h := (4, 221)) rfl rfl
set_option maxRecDepth 100000 in
theorem kt_cw28 : Jvm.Cond.code (kt_nm 28) (kt_cc 28) (kt_mi 28).1 (kt_rt 28) ∈ kt_Ts := kt_in2 (h := (4, 209)) rfl rfl
set_option maxRecDepth 100000 in
theorem kt_cw29 : Jvm.Cond.code (kt_nm 29) (kt_cc 29) (kt_mi 29).1 (kt_rt 29) ∈ kt_Ts := kt_in2 (h := (4, 49)) rfl rfl
set_option maxRecDepth 100000 in
theorem kt_cw30 : Jvm.Cond.code (kt_nm 30) (kt_cc 30) (kt_mi 30).1 (kt_rt 30) ∈ kt_Ts := kt_in2 (h := (4, 123)) rfl rfl
theorem kt_cwc0 : ∀ y ∈ ([1, 2, 3, 4, 5, 6, 7, 8, 9, 10, 11, 12, 13, 14, 15, 16, 17, 18, 19, 20, 21, 22, 23, 24, 25, 26, 27, 28, 29, 30] : List Nat), Jvm.Cond.code (kt_nm y) (kt_cc y) (kt_mi y).1 (kt_rt y) ∈ kt_Ts := List.forall_mem_cons.mpr ⟨kt_cw1, List.forall_mem_cons.mpr ⟨kt_cw2, List.forall_mem_cons.mpr ⟨kt_cw3, List.forall_mem_cons.mpr ⟨kt_cw4, List.forall_mem_cons.mpr ⟨kt_cw5, List.forall_mem_cons.mpr ⟨kt_cw6, List.forall_mem_cons.mpr ⟨kt_cw7, List.forall_mem_cons.mpr ⟨kt_cw8, List.forall_mem_cons.mpr ⟨kt_cw9, List.forall_mem_cons.mpr ⟨kt_cw10, List.forall_mem_cons.mpr ⟨kt_cw11, List.forall_mem_cons.mpr ⟨kt_cw12, List.forall_mem_cons.mpr ⟨kt_cw13, List.forall_mem_cons.mpr ⟨kt_cw14, List.forall_mem_cons.mpr ⟨kt_cw15, List.forall_mem_cons.mpr ⟨kt_cw16, List.forall_mem_cons.mpr ⟨kt_cw17, List.forall_mem_cons.mpr ⟨kt_cw18, List.forall_mem_cons.mpr ⟨kt_cw19, List.forall_mem_cons.mpr ⟨kt_cw20, List.forall_mem_cons.mpr ⟨kt_cw21, List.forall_mem_cons.mpr ⟨kt_cw22, List.forall_mem_cons.mpr ⟨kt_cw23, List.forall_mem_cons.mpr ⟨kt_cw24, List.forall_mem_cons.mpr ⟨kt_cw25, List.forall_mem_cons.mpr ⟨kt_cw26, List.forall_mem_cons.mpr ⟨kt_cw27, List.forall_mem_cons.mpr ⟨kt_cw28, List.forall_mem_cons.mpr ⟨kt_cw29, List.forall_mem_cons.mpr ⟨kt_cw30, fun _ h => absurd h List.not_mem_nil⟩⟩⟩⟩⟩⟩⟩⟩⟩⟩⟩⟩⟩⟩⟩⟩⟩⟩⟩⟩⟩⟩⟩⟩⟩⟩⟩⟩⟩⟩
end
section
set_option maxRecDepth 100000 in
theorem kt_cw31 : Jvm.Cond.code (kt_nm 31) (kt_cc 31) (kt_mi 31).1 (kt_rt 31) ∈ kt_Ts := kt_in2 (h := (6, 16)) rfl rfl
set_option maxRecDepth 100000 in
theorem kt_cw32 : Jvm.Cond.code (kt_nm 32) (kt_cc 32) (kt_mi 32).1 (kt_rt 32) ∈ kt_Ts := kt_in2 (h := (6, 70)) rfl rfl
set_option maxRecDepth 100000 in
theorem kt_cw33 : Jvm.Cond.code (kt_nm 33) (kt_cc 33) (kt_mi 33).1 (kt_rt 33) ∈ kt_Ts := kt_in2 (h := (1, 26)) rfl rfl
set_option maxRecDepth 100000 in
theorem kt_cw34 : Jvm.Cond.code (kt_nm 34) (kt_cc 34) (kt_mi 34).1 (kt_rt 34) ∈ kt_Ts := kt_in2 (h := (4, 56)) rfl rfl
set_option maxRecDepth 100000 in
theorem kt_cw35 : Jvm.Cond.code (kt_nm 35) (kt_cc 35) (kt_mi 35).1 (kt_rt 35) ∈ kt_Ts := kt_in2 (h := (4, 53)) rfl rfl
set_option maxRecDepth 100000 in
theorem kt_cw36 : Jvm.Cond.code (kt_nm 36) (kt_cc 36) (kt_mi 36).1 (kt_rt 36) ∈ kt_Ts := kt_in2 (h := (6, 114)) rfl rfl
set_option maxRecDepth 100000 in
theorem kt_cw37 : Jvm.Cond.code (kt_nm 37) (kt_cc 37) (kt_mi 37).1 (kt_rt 37) ∈ kt_Ts := kt_in2 (h := (5, 79)) rfl rfl
set_option maxRecDepth 100000 in
theorem kt_cw38 : Jvm.Cond.code (kt_nm 38) (kt_cc 38) (kt_mi 38).1 (kt_rt 38) ∈ kt_Ts := kt_in2 (h := (4, 59)) rfl rfl
set_option maxRecDepth 100000 in
theorem kt_cw39 : Jvm.Cond.code (kt_nm 39) (kt_cc 39) (kt_mi 39).1 (kt_rt 39) ∈ kt_Ts := kt_in2 (h := (6, 111)) rfl rfl
set_option maxRecDepth 100000 in
theorem kt_cw40 : Jvm.Cond.code (kt_nm 40) (kt_cc 40) (kt_mi 40).1 (kt_rt 40) ∈ kt_Ts := kt_in2 (h := (6, 82)) rfl rfl
set_option maxRecDepth 100000 in
theorem kt_cw41 : Jvm.Cond.code (kt_nm 41) (kt_cc 41) (kt_mi 41).1 (kt_rt 41) ∈ kt_Ts := kt_in2 (h := (5, 9)) rfl rfl
set_option maxRecDepth 100000 in
theorem kt_cw42 : Jvm.Cond.code (kt_nm 42) (kt_cc 42) (kt_mi 42).1 (kt_rt 42) ∈ kt_Ts := kt_in2 (h := (6, 7)) rfl rfl
set_option maxRecDepth 100000 in
theorem kt_cw43 : Jvm.Cond.code (kt_nm 43) (kt_cc 43) (kt_mi 43).1 (kt_rt 43) ∈ kt_Ts := kt_in2 (h := (3, 228)) rfl rfl
set_option maxRecDepth 100000 in
theorem kt_cw44 : Jvm.Cond.code (kt_nm 44) (kt_cc 44) (kt_mi 44).1 (kt_rt 44) ∈ kt_Ts := kt_in2 (h := (4, 199)) rfl rfl
set_option maxRecDepth 100000 in
theorem kt_cw45 : Jvm.Cond.code (kt_nm 45) (kt_cc 45) (kt_mi 45).1 (kt_rt 45) ∈ kt_Ts := kt_in2 (h := (6, 54)) rfl rfl
set_option maxRecDepth 100000 in
theorem kt_cw46 : Jvm.Cond.code (kt_nm 46) (kt_cc 46) (kt_mi 46).1 (kt_rt 46) ∈ kt_Ts := kt_in2 (h := (5, 226)) rfl rfl
set_option maxRecDepth 100000 in
theorem kt_cw47 : Jvm.Cond.code (kt_nm 47) (kt_cc 47) (kt_mi 47).1 (kt_rt 47) ∈ kt_Ts := kt_in2 (h := (6, 66)) rfl rfl
set_option maxRecDepth 100000 in
theorem kt_cw48 : Jvm.Cond.code (kt_nm 48) (kt_cc 48) (kt_mi 48).1 (kt_rt 48) ∈ kt_Ts := kt_in2 (h := (5, 59)) rfl rfl
set_option maxRecDepth 100000 in
theorem kt_cw49 : Jvm.Cond.code (kt_nm 49) (kt_cc 49) (kt_mi 49).1 (kt_rt 49) ∈ kt_Ts := kt_in2 (h := (5, 204)) rfl rfl
set_option maxRecDepth 100000 in
theorem kt_cw50 : Jvm.Cond.code (kt_nm 50) (kt_cc 50) (kt_mi 50).1 (kt_rt 50) ∈ kt_Ts := kt_in2 (h := (6, 37)) rfl rfl
set_option maxRecDepth 100000 in
theorem kt_cw51 : Jvm.Cond.code (kt_nm 51) (kt_cc 51) (kt_mi 51).1 (kt_rt 51) ∈ kt_Ts := kt_in2 (h := (5, 172)) rfl rfl
set_option maxRecDepth 100000 in
theorem kt_cw52 : Jvm.Cond.code (kt_nm 52) (kt_cc 52) (kt_mi 52).1 (kt_rt 52) ∈ kt_Ts := kt_in2 (h := (6, 137)) rfl rfl
set_option maxRecDepth 100000 in
theorem kt_cw53 : Jvm.Cond.code (kt_nm 53) (kt_cc 53) (kt_mi 53).1 (kt_rt 53) ∈ kt_Ts := kt_in2 (h := (3, 43)) rfl rfl
set_option maxRecDepth 100000 in
theorem kt_cw54 : Jvm.Cond.code (kt_nm 54) (kt_cc 54) (kt_mi 54).1 (kt_rt 54) ∈ kt_Ts := kt_in2 (h := (4, 131)) rfl rfl
set_option maxRecDepth 100000 in
theorem kt_cw55 : Jvm.Cond.code (kt_nm 55) (kt_cc 55) (kt_mi 55).1 (kt_rt 55) ∈ kt_Ts := kt_in2 (h := (4, 111)) rfl rfl
set_option maxRecDepth 100000 in
theorem kt_cw56 : Jvm.Cond.code (kt_nm 56) (kt_cc 56) (kt_mi 56).1 (kt_rt 56) ∈ kt_Ts := kt_in2 (h := (4, 147)) rfl rfl
set_option maxRecDepth 100000 in
theorem kt_cw57 : Jvm.Cond.code (kt_nm 57) (kt_cc 57) (kt_mi 57).1 (kt_rt 57) ∈ kt_Ts := kt_in2 (h := (5, 217)) rfl rfl
set_option maxRecDepth 100000 in
theorem kt_cw58 : Jvm.Cond.code (kt_nm 58) (kt_cc 58) (kt_mi 58).1 (kt_rt 58) ∈ kt_Ts := kt_in2 (h := (5, 133)) rfl rfl
set_option maxRecDepth 100000 in
theorem kt_cw59 : Jvm.Cond.code (kt_nm 59) (kt_cc 59) (kt_mi 59).1 (kt_rt 59) ∈ kt_Ts := kt_in2 (h := (6, 118)) rfl rfl
set_option maxRecDepth 100000 in
theorem kt_cw60 : Jvm.Cond.code (kt_nm 60) (kt_cc 60) (kt_mi 60).1 (kt_rt 60) ∈ kt_Ts := kt_in2 (h := (6, 78)) rfl rfl
theorem kt_cwc1 : ∀ y ∈ ([31, 32, 33, 34, 35, 36, 37, 38, 39, 40, 41, 42, 43, 44, 45, 46, 47, 48, 49, 50, 51, 52, 53, 54, 55, 56, 57, 58, 59, 60] : List Nat), Jvm.Cond.code (kt_nm y) (kt_cc y) (kt_mi y).1 (kt_rt y) ∈ kt_Ts := List.forall_mem_cons.mpr ⟨kt_cw31, List.forall_mem_cons.mpr ⟨kt_cw32, List.forall_mem_cons.mpr ⟨kt_cw33, List.forall_mem_cons.mpr ⟨kt_cw34, List.forall_mem_cons.mpr ⟨kt_cw35, List.forall_mem_cons.mpr ⟨kt_cw36, List.forall_mem_cons.mpr ⟨kt_cw37, List.forall_mem_cons.mpr ⟨kt_cw38, List.forall_mem_cons.mpr ⟨kt_cw39, List.forall_mem_cons.mpr ⟨kt_cw40, List.forall_mem_cons.mpr ⟨kt_cw41, List.forall_mem_cons.mpr ⟨kt_cw42, List.forall_mem_cons.mpr ⟨kt_cw43, List.forall_mem_cons.mpr ⟨kt_cw44, List.forall_mem_cons.mpr ⟨kt_cw45, List.forall_mem_cons.mpr ⟨kt_cw46, List.forall_mem_cons.mpr ⟨kt_cw47, List.forall_mem_cons.mpr ⟨kt_cw48, List.forall_mem_cons.mpr ⟨kt_cw49, List.forall_mem_cons.mpr ⟨kt_cw50, List.forall_mem_cons.mpr ⟨kt_cw51, List.forall_mem_cons.mpr ⟨kt_cw52, List.forall_mem_cons.mpr ⟨kt_cw53, List.forall_mem_cons.mpr ⟨kt_cw54, List.forall_mem_cons.mpr ⟨kt_cw55, List.forall_mem_cons.mpr ⟨kt_cw56, List.forall_mem_cons.mpr ⟨kt_cw57, List.forall_mem_cons.mpr ⟨kt_cw58, List.forall_mem_cons.mpr ⟨kt_cw59, List.forall_mem_cons.mpr ⟨kt_cw60, fun _ h => absurd h List.not_mem_nil⟩⟩⟩⟩⟩⟩⟩⟩⟩⟩⟩⟩⟩⟩⟩⟩⟩⟩⟩⟩⟩⟩⟩⟩⟩⟩⟩⟩⟩⟩
end
section
set_option maxRecDepth 100000 in
theorem kt_cw61 : Jvm.Cond.code (kt_nm 61) (kt_cc 61) (kt_mi 61).1 (kt_rt 61) ∈ kt_Ts := kt_in2 (h := (4, 225)) rfl rfl
set_option maxRecDepth 100000 in
theorem kt_cw62 : Jvm.Cond.code (kt_nm 62) (kt_cc 62) (kt_mi 62).1 (kt_rt 62) ∈ kt_Ts := kt_in2 (h := (5, 181)) rfl rfl
set_option maxRecDepth 100000 in
theorem kt_cw63 : Jvm.Cond.code (kt_nm 63) (kt_cc 63) (kt_mi 63).1 (kt_rt 63) ∈ kt_Ts := kt_in2 (h := (5, 51)) rfl rfl
set_option maxRecDepth 100000 in
theorem kt_cw64 : Jvm.Cond.code (kt_nm 64) (kt_cc 64) (kt_mi 64).1 (kt_rt 64) ∈ kt_Ts := kt_in2 (h := (5, 121)) rfl rfl
set_option maxRecDepth 100000 in
theorem kt_cw65 : Jvm.Cond.code (kt_nm 65) (kt_cc 65) (kt_mi 65).1 (kt_rt 65) ∈ kt_Ts := kt_in2 (h := (4, 143)) rfl rfl
set_option maxRecDepth 100000 in
theorem kt_cw66 : Jvm.Cond.code (kt_nm 66) (kt_cc 66) (kt_mi 66).1 (kt_rt 66) ∈ kt_Ts := kt_in2 (h := (3, 51)) rfl rfl
set_option maxRecDepth 100000 in
theorem kt_cw67 : Jvm.Cond.code (kt_nm 67) (kt_cc 67) (kt_mi 67).1 (kt_rt 67) ∈ kt_Ts := kt_in2 (h := (4, 63)) rfl rfl
set_option maxRecDepth 100000 in
theorem kt_cw68 : Jvm.Cond.code (kt_nm 68) (kt_cc 68) (kt_mi 68).1 (kt_rt 68) ∈ kt_Ts := kt_in2 (h := (4, 139)) rfl rfl
set_option maxRecDepth 100000 in
theorem kt_cw69 : Jvm.Cond.code (kt_nm 69) (kt_cc 69) (kt_mi 69).1 (kt_rt 69) ∈ kt_Ts := kt_in2 (h := (5, 71)) rfl rfl
set_option maxRecDepth 100000 in
theorem kt_cw70 : Jvm.Cond.code (kt_nm 70) (kt_cc 70) (kt_mi 70).1 (kt_rt 70) ∈ kt_Ts := kt_in2 (h := (6, 12)) rfl rfl
set_option maxRecDepth 100000 in
theorem kt_cw71 : Jvm.Cond.code (kt_nm 71) (kt_cc 71) (kt_mi 71).1 (kt_rt 71) ∈ kt_Ts := kt_in2 (h := (6, 25)) rfl rfl
set_option maxRecDepth 100000 in
theorem kt_cw72 : Jvm.Cond.code (kt_nm 72) (kt_cc 72) (kt_mi 72).1 (kt_rt 72) ∈ kt_Ts := kt_in2 (h := (5, 75)) rfl rfl
set_option maxRecDepth 100000 in
theorem kt_cw73 : Jvm.Cond.code (kt_nm 73) (kt_cc 73) (kt_mi 73).1 (kt_rt 73) ∈ kt_Ts := kt_in2 (h := (5, 5)) rfl rfl
set_option maxRecDepth 100000 in
theorem kt_cw74 : Jvm.Cond.code (kt_nm 74) (kt_cc 74) (kt_mi 74).1 (kt_rt 74) ∈ kt_Ts := kt_in2 (h := (4, 82)) rfl rfl
set_option maxRecDepth 100000 in
theorem kt_cw75 : Jvm.Cond.code (kt_nm 75) (kt_cc 75) (kt_mi 75).1 (kt_rt 75) ∈ kt_Ts := kt_in2 (h := (5, 200)) rfl rfl
set_option maxRecDepth 100000 in
theorem kt_cw76 : Jvm.Cond.code (kt_nm 76) (kt_cc 76) (kt_mi 76).1 (kt_rt 76) ∈ kt_Ts := kt_in2 (h := (6, 45)) rfl rfl
set_option maxRecDepth 100000 in
theorem kt_cw77 : Jvm.Cond.code (kt_nm 77) (kt_cc 77) (kt_mi 77).1 (kt_rt 77) ∈ kt_Ts := kt_in2 (h := (6, 129)) rfl rfl
set_option maxRecDepth 100000 in
theorem kt_cw78 : Jvm.Cond.code (kt_nm 78) (kt_cc 78) (kt_mi 78).1 (kt_rt 78) ∈ kt_Ts := kt_in2 (h := (8, 214)) rfl rfl
set_option maxRecDepth 100000 in
theorem kt_cw79 : Jvm.Cond.code (kt_nm 79) (kt_cc 79) (kt_mi 79).1 (kt_rt 79) ∈ kt_Ts := kt_in2 (h := (9, 145)) rfl rfl
set_option maxRecDepth 100000 in
theorem kt_cw80 : Jvm.Cond.code (kt_nm 80) (kt_cc 80) (kt_mi 80).1 (kt_rt 80) ∈ kt_Ts := kt_in2 (h := (9, 203)) rfl rfl
set_option maxRecDepth 100000 in
theorem kt_cw81 : Jvm.Cond.code (kt_nm 81) (kt_cc 81) (kt_mi 81).1 (kt_rt 81) ∈ kt_Ts := kt_in2 (h := (8, 163)) rfl rfl
set_option maxRecDepth 100000 in
theorem kt_cw82 : Jvm.Cond.code (kt_nm 82) (kt_cc 82) (kt_mi 82).1 (kt_rt 82) ∈ kt_Ts := kt_in2 (h := (7, 162)) rfl rfl
set_option maxRecDepth 100000 in
theorem kt_cw83 : Jvm.Cond.code (kt_nm 83) (kt_cc 83) (kt_mi 83).1 (kt_rt 83) ∈ kt_Ts := kt_in2 (h := (8, 101)) rfl rfl
set_option maxRecDepth 100000 in
theorem kt_cw84 : Jvm.Cond.code (kt_nm 84) (kt_cc 84) (kt_mi 84).1 (kt_rt 84) ∈ kt_Ts := kt_in2 (h := (9, 59)) rfl rfl
set_option maxRecDepth 100000 in
theorem kt_cw85 : Jvm.Cond.code (kt_nm 85) (kt_cc 85) (kt_mi 85).1 (kt_rt 85) ∈ kt_Ts := kt_in2 (h := (9, 68)) rfl rfl
set_option maxRecDepth 100000 in
theorem kt_cw86 : Jvm.Cond.code (kt_nm 86) (kt_cc 86) (kt_mi 86).1 (kt_rt 86) ∈ kt_Ts := kt_in2 (h := (9, 105)) rfl rfl
set_option maxRecDepth 100000 in
theorem kt_cw87 : Jvm.Cond.code (kt_nm 87) (kt_cc 87) (kt_mi 87).1 (kt_rt 87) ∈ kt_Ts := kt_in2 (h := (9, 113)) rfl rfl
set_option maxRecDepth 100000 in
theorem kt_cw88 : Jvm.Cond.code (kt_nm 88) (kt_cc 88) (kt_mi 88).1 (kt_rt 88) ∈ kt_Ts := kt_in2 (h := (8, 202)) rfl rfl
set_option maxRecDepth 100000 in
theorem kt_cw89 : Jvm.Cond.code (kt_nm 89) (kt_cc 89) (kt_mi 89).1 (kt_rt 89) ∈ kt_Ts := kt_in2 (h := (9, 92)) rfl rfl
set_option maxRecDepth 100000 in
theorem kt_cw90 : Jvm.Cond.code (kt_nm 90) (kt_cc 90) (kt_mi 90).1 (kt_rt 90) ∈ kt_Ts := kt_in2 (h := (9, 199)) rfl rfl
theorem kt_cwc2 : ∀ y ∈ ([61, 62, 63, 64, 65, 66, 67, 68, 69, 70, 71, 72, 73, 74, 75, 76, 77, 78, 79, 80, 81, 82, 83, 84, 85, 86, 87, 88, 89, 90] : List Nat), Jvm.Cond.code (kt_nm y) (kt_cc y) (kt_mi y).1 (kt_rt y) ∈ kt_Ts := List.forall_mem_cons.mpr ⟨kt_cw61, List.forall_mem_cons.mpr ⟨kt_cw62, List.forall_mem_cons.mpr ⟨kt_cw63, List.forall_mem_cons.mpr ⟨kt_cw64, List.forall_mem_cons.mpr ⟨kt_cw65, List.forall_mem_cons.mpr ⟨kt_cw66, List.forall_mem_cons.mpr ⟨kt_cw67, List.forall_mem_cons.mpr ⟨kt_cw68, List.forall_mem_cons.mpr ⟨kt_cw69, List.forall_mem_cons.mpr ⟨kt_cw70, List.forall_mem_cons.mpr ⟨kt_cw71, List.forall_mem_cons.mpr ⟨kt_cw72, List.forall_mem_cons.mpr ⟨kt_cw73, List.forall_mem_cons.mpr ⟨kt_cw74, List.forall_mem_cons.mpr ⟨kt_cw75, List.forall_mem_cons.mpr ⟨kt_cw76, List.forall_mem_cons.mpr ⟨kt_cw77, List.forall_mem_cons.mpr ⟨kt_cw78, List.forall_mem_cons.mpr ⟨kt_cw79, List.forall_mem_cons.mpr ⟨kt_cw80, List.forall_mem_cons.mpr ⟨kt_cw81, List.forall_mem_cons.mpr ⟨kt_cw82, List.forall_mem_cons.mpr ⟨kt_cw83, List.forall_mem_cons.mpr ⟨kt_cw84, List.forall_mem_cons.mpr ⟨kt_cw85, List.forall_mem_cons.mpr ⟨kt_cw86, List.forall_mem_cons.mpr ⟨kt_cw87, List.forall_mem_cons.mpr ⟨kt_cw88, List.forall_mem_cons.mpr ⟨kt_cw89, List.forall_mem_cons.mpr ⟨kt_cw90, fun _ h => absurd h List.not_mem_nil⟩⟩⟩⟩⟩⟩⟩⟩⟩⟩⟩⟩⟩⟩⟩⟩⟩⟩⟩⟩⟩⟩⟩⟩⟩⟩⟩⟩⟩⟩
end
section
set_option maxRecDepth 100000 in
theorem kt_cw91 : Jvm.Cond.code (kt_nm 91) (kt_cc 91) (kt_mi 91).1 (kt_rt 91) ∈ kt_Ts := kt_in2 (h := (8, 43)) rfl rfl
set_option maxRecDepth 100000 in
theorem kt_cw92 : Jvm.Cond.code (kt_nm 92) (kt_cc 92) (kt_mi 92).1 (kt_rt 92) ∈ kt_Ts := kt_in2 (h := (9, 191)) rfl rfl
set_option maxRecDepth 100000 in
theorem kt_cw93 : Jvm.Cond.code (kt_nm 93) (kt_cc 93) (kt_mi 93).1 (kt_rt 93) ∈ kt_Ts := kt_in2 (h := (8, 151)) rfl rfl
set_option maxRecDepth 100000 in
theorem kt_cw94 : Jvm.Cond.code (kt_nm 94) (kt_cc 94) (kt_mi 94).1 (kt_rt 94) ∈ kt_Ts := kt_in2 (h := (9, 182)) rfl rfl
set_option maxRecDepth 100000 in
theorem kt_cw95 : Jvm.Cond.code (kt_nm 95) (kt_cc 95) (kt_mi 95).1 (kt_rt 95) ∈ kt_Ts := kt_in2 (h := (7, 150)) rfl rfl
set_option maxRecDepth 100000 in
theorem kt_cw96 : Jvm.Cond.code (kt_nm 96) (kt_cc 96) (kt_mi 96).1 (kt_rt 96) ∈ kt_Ts := kt_in2 (h := (9, 117)) rfl rfl
set_option maxRecDepth 100000 in
theorem kt_cw97 : Jvm.Cond.code (kt_nm 97) (kt_cc 97) (kt_mi 97).1 (kt_rt 97) ∈ kt_Ts := kt_in2 (h := (7, 154)) rfl rfl
set_option maxRecDepth 100000 in
theorem kt_cw98 : Jvm.Cond.code (kt_nm 98) (kt_cc 98) (kt_mi 98).1 (kt_rt 98) ∈ kt_Ts := kt_in2 (h := (7, 142)) rfl rfl
set_option maxRecDepth 100000 in
theorem kt_cw99 : Jvm.Cond.code (kt_nm 99) (kt_cc 99) (kt_mi 99).1 (kt_rt 99) ∈ kt_Ts := kt_in2 (h := (8, 198)) rfl rfl
set_option maxRecDepth 100000 in
theorem kt_cw100 : Jvm.Cond.code (kt_nm 100) (kt_cc 100) (kt_mi 100).1 (kt_rt 100) ∈ kt_Ts := kt_in2 (h := (8, 190)) rfl rfl
set_option maxRecDepth 100000 in
theorem kt_cw101 : Jvm.Cond.code (kt_nm 101) (kt_cc 101) (kt_mi 101).1 (kt_rt 101) ∈ kt_Ts := kt_in2 (h := (8, 194)) rfl rfl
set_option maxRecDepth 100000 in
theorem kt_cw102 : Jvm.Cond.code (kt_nm 102) (kt_cc 102) (kt_mi 102).1 (kt_rt 102) ∈ kt_Ts := kt_in2 (h := (8, 47)) rfl rfl
set_option maxRecDepth 100000 in
theorem kt_cw103 : Jvm.Cond.code (kt_nm 103) (kt_cc 103) (kt_mi 103).1 (kt_rt 103) ∈ kt_Ts := kt_in2 (h := (8, 59)) rfl rfl
set_option maxRecDepth 100000 in
theorem kt_cw104 : Jvm.Cond.code (kt_nm 104) (kt_cc 104) (kt_mi 104).1 (kt_rt 104) ∈ kt_Ts := kt_in2 (h := (7, 146)) rfl rfl
set_option maxRecDepth 100000 in
theorem kt_cw105 : Jvm.Cond.code (kt_nm 105) (kt_cc 105) (kt_mi 105).1 (kt_rt 105) ∈ kt_Ts := kt_in2 (h := (9, 154)) rfl rfl
set_option maxRecDepth 100000 in
theorem kt_cw106 : Jvm.Cond.code (kt_nm 106) (kt_cc 106) (kt_mi 106).1 (kt_rt 106) ∈ kt_Ts := kt_in2 (h := (8, 97)) rfl rfl
set_option maxRecDepth 100000 in
theorem kt_cw107 : Jvm.Cond.code (kt_nm 107) (kt_cc 107) (kt_mi 107).1 (kt_rt 107) ∈ kt_Ts := kt_in2 (h := (9, 166)) rfl rfl
set_option maxRecDepth 100000 in
theorem kt_cw108 : Jvm.Cond.code (kt_nm 108) (kt_cc 108) (kt_mi 108).1 (kt_rt 108) ∈ kt_Ts := kt_in2 (h := (7, 127)) rfl rfl
set_option maxRecDepth 100000 in
theorem kt_cw109 : Jvm.Cond.code (kt_nm 109) (kt_cc 109) (kt_mi 109).1 (kt_rt 109) ∈ kt_Ts := kt_in2 (h := (6, 142)) rfl rfl
set_option maxRecDepth 100000 in
theorem kt_cw110 : Jvm.Cond.code (kt_nm 110) (kt_cc 110) (kt_mi 110).1 (kt_rt 110) ∈ kt_Ts := kt_in2 (h := (7, 170)) rfl rfl
set_option maxRecDepth 100000 in
theorem kt_cw111 : Jvm.Cond.code (kt_nm 111) (kt_cc 111) (kt_mi 111).1 (kt_rt 111) ∈ kt_Ts := kt_in2 (h := (8, 54)) rfl rfl
set_option maxRecDepth 100000 in
theorem kt_cw112 : Jvm.Cond.code (kt_nm 112) (kt_cc 112) (kt_mi 112).1 (kt_rt 112) ∈ kt_Ts := kt_in2 (h := (7, 179)) rfl rfl
set_option maxRecDepth 100000 in
theorem kt_cw113 : Jvm.Cond.code (kt_nm 113) (kt_cc 113) (kt_mi 113).1 (kt_rt 113) ∈ kt_Ts := kt_in2 (h := (8, 51)) rfl rfl
set_option maxRecDepth 100000 in
theorem kt_cw114 : Jvm.Cond.code (kt_nm 114) (kt_cc 114) (kt_mi 114).1 (kt_rt 114) ∈ kt_Ts := kt_in2 (h := (8, 39)) rfl rfl
set_option maxRecDepth 100000 in
theorem kt_cw115 : Jvm.Cond.code (kt_nm 115) (kt_cc 115) (kt_mi 115).1 (kt_rt 115) ∈ kt_Ts := kt_in2 (h := (9, 30)) rfl rfl
set_option maxRecDepth 100000 in
theorem kt_cw116 : Jvm.Cond.code (kt_nm 116) (kt_cc 116) (kt_mi 116).1 (kt_rt 116) ∈ kt_Ts := kt_in2 (h := (7, 123)) rfl rfl
set_option maxRecDepth 100000 in
theorem kt_cw117 : Jvm.Cond.code (kt_nm 117) (kt_cc 117) (kt_mi 117).1 (kt_rt 117) ∈ kt_Ts := kt_in2 (h := (8, 122)) rfl rfl
set_option maxRecDepth 100000 in
theorem kt_cw118 : Jvm.Cond.code (kt_nm 118) (kt_cc 118) (kt_mi 118).1 (kt_rt 118) ∈ kt_Ts := kt_in2 (h := (9, 195)) rfl rfl
set_option maxRecDepth 100000 in
theorem kt_cw119 : Jvm.Cond.code (kt_nm 119) (kt_cc 119) (kt_mi 119).1 (kt_rt 119) ∈ kt_Ts := kt_in2 (h := (8, 234)) rfl rfl
set_option maxRecDepth 100000 in
theorem kt_cw120 : Jvm.Cond.code (kt_nm 120) (kt_cc 120) (kt_mi 120).1 (kt_rt 120) ∈ kt_Ts := kt_in2 (h := (9, 186)) rfl rfl
theorem kt_cwc3 : ∀ y ∈ ([91, 92, 93, 94, 95, 96, 97, 98, 99, 100, 101, 102, 103, 104, 105, 106, 107, 108, 109, 110, 111, 112, 113, 114, 115, 116, 117, 118, 119, 120] : List Nat), Jvm.Cond.code (kt_nm y) (kt_cc y) (kt_mi y).1 (kt_rt y) ∈ kt_Ts := List.forall_mem_cons.mpr ⟨kt_cw91, List.forall_mem_cons.mpr ⟨kt_cw92, List.forall_mem_cons.mpr ⟨kt_cw93, List.forall_mem_cons.mpr ⟨kt_cw94, List.forall_mem_cons.mpr ⟨kt_cw95, List.forall_mem_cons.mpr ⟨kt_cw96, List.forall_mem_cons.mpr ⟨kt_cw97, List.forall_mem_cons.mpr ⟨kt_cw98, List.forall_mem_cons.mpr ⟨kt_cw99, List.forall_mem_cons.mpr ⟨kt_cw100, List.forall_mem_cons.mpr ⟨kt_cw101, List.forall_mem_cons.mpr ⟨kt_cw102, List.forall_mem_cons.mpr ⟨kt_cw103, List.forall_mem_cons.mpr ⟨kt_cw104, List.forall_mem_cons.mpr ⟨kt_cw105, List.forall_mem_cons.mpr ⟨kt_cw106, List.forall_mem_cons.mpr ⟨kt_cw107, List.forall_mem_cons.mpr ⟨kt_cw108, List.forall_mem_cons.mpr ⟨kt_cw109, List.forall_mem_cons.mpr ⟨kt_cw110, List.forall_mem_cons.mpr ⟨kt_cw111, List.forall_mem_cons.mpr ⟨kt_cw112, List.forall_mem_cons.mpr ⟨kt_cw113, List.forall_mem_cons.mpr ⟨kt_cw114, List.forall_mem_cons.mpr ⟨kt_cw115, List.forall_mem_cons.mpr ⟨kt_cw116, List.forall_mem_cons.mpr ⟨kt_cw117, List.forall_mem_cons.mpr ⟨kt_cw118, List.forall_mem_cons.mpr ⟨kt_cw119, List.forall_mem_cons.mpr ⟨kt_cw120, fun _ h => absurd h List.not_mem_nil⟩⟩⟩⟩⟩⟩⟩⟩⟩⟩⟩⟩⟩⟩⟩⟩⟩⟩⟩⟩⟩⟩⟩⟩⟩⟩⟩⟩⟩⟩
end
section
set_option maxRecDepth 100000 in
theorem kt_cw121 : Jvm.Cond.code (kt_nm 121) (kt_cc 121) (kt_mi 121).1 (kt_rt 121) ∈ kt_Ts := kt_in2 (h := (8, 182)) rfl rfl
set_option maxRecDepth 100000 in
theorem kt_cw122 : Jvm.Cond.code (kt_nm 122) (kt_cc 122) (kt_mi 122).1 (kt_rt 122) ∈ kt_Ts := kt_in2 (h := (9, 136)) rfl rfl
set_option maxRecDepth 100000 in
theorem kt_cw123 : Jvm.Cond.code (kt_nm 123) (kt_cc 123) (kt_mi 123).1 (kt_rt 123) ∈ kt_Ts := kt_in2 (h := (9, 178)) rfl rfl
set_option maxRecDepth 100000 in
theorem kt_cw124 : Jvm.Cond.code (kt_nm 124) (kt_cc 124) (kt_mi 124).1 (kt_rt 124) ∈ kt_Ts := kt_in2 (h := (9, 162)) rfl rfl
set_option maxRecDepth 100000 in
theorem kt_cw125 : Jvm.Cond.code (kt_nm 125) (kt_cc 125) (kt_mi 125).1 (kt_rt 125) ∈ kt_Ts := kt_in2 (h := (7, 166)) rfl rfl
set_option maxRecDepth 100000 in
theorem kt_cw126 : Jvm.Cond.code (kt_nm 126) (kt_cc 126) (kt_mi 126).1 (kt_rt 126) ∈ kt_Ts := kt_in2 (h := (8, 230)) rfl rfl
set_option maxRecDepth 100000 in
theorem kt_cw127 : Jvm.Cond.code (kt_nm 127) (kt_cc 127) (kt_mi 127).1 (kt_rt 127) ∈ kt_Ts := kt_in2 (h := (9, 97)) rfl rfl
set_option maxRecDepth 100000 in
theorem kt_cw128 : Jvm.Cond.code (kt_nm 128) (kt_cc 128) (kt_mi 128).1 (kt_rt 128) ∈ kt_Ts := kt_in2 (h := (9, 121)) rfl rfl
set_option maxRecDepth 100000 in
theorem kt_cw129 : Jvm.Cond.code (kt_nm 129) (kt_cc 129) (kt_mi 129).1 (kt_rt 129) ∈ kt_Ts := kt_in2 (h := (9, 80)) rfl rfl
set_option maxRecDepth 100000 in
theorem kt_cw130 : Jvm.Cond.code (kt_nm 130) (kt_cc 130) (kt_mi 130).1 (kt_rt 130) ∈ kt_Ts := kt_in2 (h := (7, 138)) rfl rfl
set_option maxRecDepth 100000 in
theorem kt_cw131 : Jvm.Cond.code (kt_nm 131) (kt_cc 131) (kt_mi 131).1 (kt_rt 131) ∈ kt_Ts := kt_in2 (h := (9, 2)) rfl rfl
set_option maxRecDepth 100000 in
theorem kt_cw132 : Jvm.Cond.code (kt_nm 132) (kt_cc 132) (kt_mi 132).1 (kt_rt 132) ∈ kt_Ts := kt_in2 (h := (8, 135)) rfl rfl
set_option maxRecDepth 100000 in
theorem kt_cw133 : Jvm.Cond.code (kt_nm 133) (kt_cc 133) (kt_mi 133).1 (kt_rt 133) ∈ kt_Ts := kt_in2 (h := (8, 126)) rfl rfl
set_option maxRecDepth 100000 in
theorem kt_cw134 : Jvm.Cond.code (kt_nm 134) (kt_cc 134) (kt_mi 134).1 (kt_rt 134) ∈ kt_Ts := kt_in2 (h := (8, 147)) rfl rfl
set_option maxRecDepth 100000 in
theorem kt_cw135 : Jvm.Cond.code (kt_nm 135) (kt_cc 135) (kt_mi 135).1 (kt_rt 135) ∈ kt_Ts := kt_in2 (h := (9, 170)) rfl rfl
set_option maxRecDepth 100000 in
theorem kt_cw136 : Jvm.Cond.code (kt_nm 136) (kt_cc 136) (kt_mi 136).1 (kt_rt 136) ∈ kt_Ts := kt_in2 (h := (9, 54)) rfl rfl
set_option maxRecDepth 100000 in
theorem kt_cw137 : Jvm.Cond.code (kt_nm 137) (kt_cc 137) (kt_mi 137).1 (kt_rt 137) ∈ kt_Ts := kt_in2 (h := (7, 120)) rfl rfl
set_option maxRecDepth 100000 in
theorem kt_cw138 : Jvm.Cond.code (kt_nm 138) (kt_cc 138) (kt_mi 138).1 (kt_rt 138) ∈ kt_Ts := kt_in2 (h := (8, 206)) rfl rfl
set_option maxRecDepth 100000 in
theorem kt_cw139 : Jvm.Cond.code (kt_nm 139) (kt_cc 139) (kt_mi 139).1 (kt_rt 139) ∈ kt_Ts := kt_in2 (h := (9, 149)) rfl rfl
set_option maxRecDepth 100000 in
theorem kt_cw140 : Jvm.Cond.code (kt_nm 140) (kt_cc 140) (kt_mi 140).1 (kt_rt 140) ∈ kt_Ts := kt_in2 (h := (9, 22)) rfl rfl
set_option maxRecDepth 100000 in
theorem kt_cw141 : Jvm.Cond.code (kt_nm 141) (kt_cc 141) (kt_mi 141).1 (kt_rt 141) ∈ kt_Ts := kt_in2 (h := (9, 42)) rfl rfl
set_option maxRecDepth 100000 in
theorem kt_cw142 : Jvm.Cond.code (kt_nm 142) (kt_cc 142) (kt_mi 142).1 (kt_rt 142) ∈ kt_Ts := kt_in2 (h := (8, 238)) rfl rfl
set_option maxRecDepth 100000 in
theorem kt_cw143 : Jvm.Cond.code (kt_nm 143) (kt_cc 143) (kt_mi 143).1 (kt_rt 143) ∈ kt_Ts := kt_in2 (h := (8, 143)) rfl rfl
set_option maxRecDepth 100000 in
theorem kt_cw144 : Jvm.Cond.code (kt_nm 144) (kt_cc 144) (kt_mi 144).1 (kt_rt 144) ∈ kt_Ts := kt_in2 (h := (7, 158)) rfl rfl
set_option maxRecDepth 100000 in
theorem kt_cw145 : Jvm.Cond.code (kt_nm 145) (kt_cc 145) (kt_mi 145).1 (kt_rt 145) ∈ kt_Ts := kt_in2 (h := (8, 80)) rfl rfl
set_option maxRecDepth 100000 in
theorem kt_cw146 : Jvm.Cond.code (kt_nm 146) (kt_cc 146) (kt_mi 146).1 (kt_rt 146) ∈ kt_Ts := kt_in2 (h := (8, 105)) rfl rfl
set_option maxRecDepth 100000 in
theorem kt_cw147 : Jvm.Cond.code (kt_nm 147) (kt_cc 147) (kt_mi 147).1 (kt_rt 147) ∈ kt_Ts := kt_in2 (h := (8, 139)) rfl rfl
set_option maxRecDepth 100000 in
theorem kt_cw148 : Jvm.Cond.code (kt_nm 148) (kt_cc 148) (kt_mi 148).1 (kt_rt 148) ∈ kt_Ts := kt_in2 (h := (8, 222)) rfl rfl
set_option maxRecDepth 100000 in
theorem kt_cw149 : Jvm.Cond.code (kt_nm 149) (kt_cc 149) (kt_mi 149).1 (kt_rt 149) ∈ kt_Ts := kt_in2 (h := (8, 226)) rfl rfl
set_option maxRecDepth 100000 in
theorem kt_cw150 : Jvm.Cond.code (kt_nm 150) (kt_cc 150) (kt_mi 150).1 (kt_rt 150) ∈ kt_Ts := kt_in2 (h := (9, 158)) rfl rfl
theorem kt_cwc4 : ∀ y ∈ ([121, 122, 123, 124, 125, 126, 127, 128, 129, 130, 131, 132, 133, 134, 135, 136, 137, 138, 139, 140, 141, 142, 143, 144, 145, 146, 147, 148, 149, 150] : List Nat), Jvm.Cond.code (kt_nm y) (kt_cc y) (kt_mi y).1 (kt_rt y) ∈ kt_Ts := List.forall_mem_cons.mpr ⟨kt_cw121, List.forall_mem_cons.mpr ⟨kt_cw122, List.forall_mem_cons.mpr ⟨kt_cw123, List.forall_mem_cons.mpr ⟨kt_cw124, List.forall_mem_cons.mpr ⟨kt_cw125, List.forall_mem_cons.mpr ⟨kt_cw126, List.forall_mem_cons.mpr ⟨kt_cw127, List.forall_mem_cons.mpr ⟨kt_cw128, List.forall_mem_cons.mpr ⟨kt_cw129, List.forall_mem_cons.mpr ⟨kt_cw130, List.forall_mem_cons.mpr ⟨kt_cw131, List.forall_mem_cons.mpr ⟨kt_cw132, List.forall_mem_cons.mpr ⟨kt_cw133, List.forall_mem_cons.mpr ⟨kt_cw134, List.forall_mem_cons.mpr ⟨kt_cw135, List.forall_mem_cons.mpr ⟨kt_cw136, List.forall_mem_cons.mpr ⟨kt_cw137, List.forall_mem_cons.mpr ⟨kt_cw138, List.forall_mem_cons.mpr ⟨kt_cw139, List.forall_mem_cons.mpr ⟨kt_cw140, List.forall_mem_cons.mpr ⟨kt_cw141, List.forall_mem_cons.mpr ⟨kt_cw142, List.forall_mem_cons.mpr ⟨kt_cw143, List.forall_mem_cons.mpr ⟨kt_cw144, List.forall_mem_cons.mpr ⟨kt_cw145, List.forall_mem_cons.mpr ⟨kt_cw146, List.forall_mem_cons.mpr ⟨kt_cw147, List.forall_mem_cons.mpr ⟨kt_cw148, List.forall_mem_cons.mpr ⟨kt_cw149, List.forall_mem_cons.mpr ⟨kt_cw150, fun _ h => absurd h List.not_mem_nil⟩⟩⟩⟩⟩⟩⟩⟩⟩⟩⟩⟩⟩⟩⟩⟩⟩⟩⟩⟩⟩⟩⟩⟩⟩⟩⟩⟩⟩⟩
end
section
set_option maxRecDepth 100000 in
theorem kt_cw151 : Jvm.Cond.code (kt_nm 151) (kt_cc 151) (kt_mi 151).1 (kt_rt 151) ∈ kt_Ts := kt_in2 (h := (9, 26)) rfl rfl
set_option maxRecDepth 100000 in
theorem kt_cw152 : Jvm.Cond.code (kt_nm 152) (kt_cc 152) (kt_mi 152).1 (kt_rt 152) ∈ kt_Ts := kt_in2 (h := (8, 218)) rfl rfl
set_option maxRecDepth 100000 in
theorem kt_cw153 : Jvm.Cond.code (kt_nm 153) (kt_cc 153) (kt_mi 153).1 (kt_rt 153) ∈ kt_Ts := kt_in2 (h := (8, 89)) rfl rfl
set_option maxRecDepth 100000 in
theorem kt_cw154 : Jvm.Cond.code (kt_nm 154) (kt_cc 154) (kt_mi 154).1 (kt_rt 154) ∈ kt_Ts := kt_in2 (h := (9, 84)) rfl rfl
set_option maxRecDepth 100000 in
theorem kt_cw155 : Jvm.Cond.code (kt_nm 155) (kt_cc 155) (kt_mi 155).1 (kt_rt 155) ∈ kt_Ts := kt_in2 (h := (9, 129)) rfl rfl
set_option maxRecDepth 100000 in
theorem kt_cw156 : Jvm.Cond.code (kt_nm 156) (kt_cc 156) (kt_mi 156).1 (kt_rt 156) ∈ kt_Ts := kt_in2 (h := (7, 131)) rfl rfl
set_option maxRecDepth 100000 in
theorem kt_cw157 : Jvm.Cond.code (kt_nm 157) (kt_cc 157) (kt_mi 157).1 (kt_rt 157) ∈ kt_Ts := kt_in2 (h := (6, 90)) rfl rfl
set_option maxRecDepth 100000 in
theorem kt_cw158 : Jvm.Cond.code (kt_nm 158) (kt_cc 158) (kt_mi 158).1 (kt_rt 158) ∈ kt_Ts := kt_in2 (h := (1, 45)) rfl rfl
set_option maxRecDepth 100000 in
theorem kt_cw159 : Jvm.Cond.code (kt_nm 159) (kt_cc 159) (kt_mi 159).1 (kt_rt 159) ∈ kt_Ts := kt_in2 (h := (3, 66)) rfl rfl
set_option maxRecDepth 100000 in
theorem kt_cw160 : Jvm.Cond.code (kt_nm 160) (kt_cc 160) (kt_mi 160).1 (kt_rt 160) ∈ kt_Ts := kt_in2 (h := (1, 234)) rfl rfl
set_option maxRecDepth 100000 in
theorem kt_cw161 : Jvm.Cond.code (kt_nm 161) (kt_cc 161) (kt_mi 161).1 (kt_rt 161) ∈ kt_Ts := kt_in2 (h := (3, 55)) rfl rfl
set_option maxRecDepth 100000 in
theorem kt_cw162 : Jvm.Cond.code (kt_nm 162) (kt_cc 162) (kt_mi 162).1 (kt_rt 162) ∈ kt_Ts := kt_in2 (h := (6, 102)) rfl rfl
set_option maxRecDepth 100000 in
theorem kt_cw163 : Jvm.Cond.code (kt_nm 163) (kt_cc 163) (kt_mi 163).1 (kt_rt 163) ∈ kt_Ts := kt_in2 (h := (2, 36)) rfl rfl
set_option maxRecDepth 100000 in
theorem kt_cw164 : Jvm.Cond.code (kt_nm 164) (kt_cc 164) (kt_mi 164).1 (kt_rt 164) ∈ kt_Ts := kt_in2 (h := (2, 207)) rfl rfl
set_option maxRecDepth 100000 in
theorem kt_cw165 : Jvm.Cond.code (kt_nm 165) (kt_cc 165) (kt_mi 165).1 (kt_rt 165) ∈ kt_Ts := kt_in2 (h := (6, 122)) rfl rfl
set_option maxRecDepth 100000 in
theorem kt_cw166 : Jvm.Cond.code (kt_nm 166) (kt_cc 166) (kt_mi 166).1 (kt_rt 166) ∈ kt_Ts := kt_in2 (h := (4, 3)) rfl rfl
set_option maxRecDepth 100000 in
theorem kt_cw167 : Jvm.Cond.code (kt_nm 167) (kt_cc 167) (kt_mi 167).1 (kt_rt 167) ∈ kt_Ts := kt_in2 (h := (3, 239)) rfl rfl
set_option maxRecDepth 100000 in
theorem kt_cw168 : Jvm.Cond.code (kt_nm 168) (kt_cc 168) (kt_mi 168).1 (kt_rt 168) ∈ kt_Ts := kt_in2 (h := (4, 7)) rfl rfl
set_option maxRecDepth 100000 in
theorem kt_cw169 : Jvm.Cond.code (kt_nm 169) (kt_cc 169) (kt_mi 169).1 (kt_rt 169) ∈ kt_Ts := kt_in2 (h := (2, 69)) rfl rfl
set_option maxRecDepth 100000 in
theorem kt_cw170 : Jvm.Cond.code (kt_nm 170) (kt_cc 170) (kt_mi 170).1 (kt_rt 170) ∈ kt_Ts := kt_in2 (h := (3, 232)) rfl rfl
set_option maxRecDepth 100000 in
theorem kt_cw171 : Jvm.Cond.code (kt_nm 171) (kt_cc 171) (kt_mi 171).1 (kt_rt 171) ∈ kt_Ts := kt_in2 (h := (4, 11)) rfl rfl
set_option maxRecDepth 100000 in
theorem kt_cw172 : Jvm.Cond.code (kt_nm 172) (kt_cc 172) (kt_mi 172).1 (kt_rt 172) ∈ kt_Ts := kt_in2 (h := (2, 120)) rfl rfl
set_option maxRecDepth 100000 in
theorem kt_cw173 : Jvm.Cond.code (kt_nm 173) (kt_cc 173) (kt_mi 173).1 (kt_rt 173) ∈ kt_Ts := kt_in2 (h := (5, 13)) rfl rfl
set_option maxRecDepth 100000 in
theorem kt_cw174 : Jvm.Cond.code (kt_nm 174) (kt_cc 174) (kt_mi 174).1 (kt_rt 174) ∈ kt_Ts := kt_in2 (h := (2, 107)) rfl rfl
set_option maxRecDepth 100000 in
theorem kt_cw175 : Jvm.Cond.code (kt_nm 175) (kt_cc 175) (kt_mi 175).1 (kt_rt 175) ∈ kt_Ts := kt_in2 (h := (6, 98)) rfl rfl
set_option maxRecDepth 100000 in
theorem kt_cw176 : Jvm.Cond.code (kt_nm 176) (kt_cc 176) (kt_mi 176).1 (kt_rt 176) ∈ kt_Ts := kt_in2 (h := (1, 147)) rfl rfl
set_option maxRecDepth 100000 in
theorem kt_cw177 : Jvm.Cond.code (kt_nm 177) (kt_cc 177) (kt_mi 177).1 (kt_rt 177) ∈ kt_Ts := kt_in2 (h := (3, 62)) rfl rfl
set_option maxRecDepth 100000 in
theorem kt_cw178 : Jvm.Cond.code (kt_nm 178) (kt_cc 178) (kt_mi 178).1 (kt_rt 178) ∈ kt_Ts := kt_in2 (h := (6, 86)) rfl rfl
set_option maxRecDepth 100000 in
theorem kt_cw179 : Jvm.Cond.code (kt_nm 179) (kt_cc 179) (kt_mi 179).1 (kt_rt 179) ∈ kt_Ts := kt_in2 (h := (1, 34)) rfl rfl
theorem kt_cwc5 : ∀ y ∈ ([151, 152, 153, 154, 155, 156, 157, 158, 159, 160, 161, 162, 163, 164, 165, 166, 167, 168, 169, 170, 171, 172, 173, 174, 175, 176, 177, 178, 179] : List Nat), Jvm.Cond.code (kt_nm y) (kt_cc y) (kt_mi y).1 (kt_rt y) ∈ kt_Ts := List.forall_mem_cons.mpr ⟨kt_cw151, List.forall_mem_cons.mpr ⟨kt_cw152, List.forall_mem_cons.mpr ⟨kt_cw153, List.forall_mem_cons.mpr ⟨kt_cw154, List.forall_mem_cons.mpr ⟨kt_cw155, List.forall_mem_cons.mpr ⟨kt_cw156, List.forall_mem_cons.mpr ⟨kt_cw157, List.forall_mem_cons.mpr ⟨kt_cw158, List.forall_mem_cons.mpr ⟨kt_cw159, List.forall_mem_cons.mpr ⟨kt_cw160, List.forall_mem_cons.mpr ⟨kt_cw161, List.forall_mem_cons.mpr ⟨kt_cw162, List.forall_mem_cons.mpr ⟨kt_cw163, List.forall_mem_cons.mpr ⟨kt_cw164, List.forall_mem_cons.mpr ⟨kt_cw165, List.forall_mem_cons.mpr ⟨kt_cw166, List.forall_mem_cons.mpr ⟨kt_cw167, List.forall_mem_cons.mpr ⟨kt_cw168, List.forall_mem_cons.mpr ⟨kt_cw169, List.forall_mem_cons.mpr ⟨kt_cw170, List.forall_mem_cons.mpr ⟨kt_cw171, List.forall_mem_cons.mpr ⟨kt_cw172, List.forall_mem_cons.mpr ⟨kt_cw173, List.forall_mem_cons.mpr ⟨kt_cw174, List.forall_mem_cons.mpr ⟨kt_cw175, List.forall_mem_cons.mpr ⟨kt_cw176, List.forall_mem_cons.mpr ⟨kt_cw177, List.forall_mem_cons.mpr ⟨kt_cw178, List.forall_mem_cons.mpr ⟨kt_cw179, fun _ h => absurd h List.not_mem_nil⟩⟩⟩⟩⟩⟩⟩⟩⟩⟩⟩⟩⟩⟩⟩⟩⟩⟩⟩⟩⟩⟩⟩⟩⟩⟩⟩⟩⟩
end
section
set_option maxRecDepth 100000 in
theorem kt_d1 : kt_cD 1 kt_1 = true := by decide +kernel
set_option maxRecDepth 100000 in
theorem kt_d2 : kt_cD 2 kt_2 = true := by decide +kernel
set_option maxRecDepth 100000 in
theorem kt_d3 : kt_cD 3 kt_3 = true := by decide +kernel
set_option maxRecDepth 100000 in
theorem kt_d4 : kt_cD 4 kt_4 = true := by decide +kernel
set_option maxRecDepth 100000 in
theorem kt_d5 : kt_cD 5 kt_5 = true := by decide +kernel
set_option maxRecDepth 100000 in
theorem kt_d6 : kt_cD 6 kt_6 = true := by decide +kernel
set_option maxRecDepth 100000 in
theorem kt_d7 : kt_cD 7 kt_7 = true := by decide +kernel
set_option maxRecDepth 100000 in
theorem kt_d8 : kt_cD 8 kt_8 = true := by decide +kernel
set_option maxRecDepth 100000 in
theorem kt_d9 : kt_cD 9 kt_9 = true := by decide +kernel
set_option maxRecDepth 100000 in
theorem kt_d10 : kt_cD 10 kt_10 = true := by decide +kernel
set_option maxRecDepth 100000 in
theorem kt_d11 : kt_cD 11 kt_11 = true := by decide +kernel
set_option maxRecDepth 100000 in
theorem kt_d12 : kt_cD 12 kt_12 = true := by decide +kernel
set_option maxRecDepth 100000 in
theorem kt_d13 : kt_cD 13 kt_13 = true := by decide +kernel
set_option maxRecDepth 100000 in
theorem kt_d14 : kt_cD 14 kt_14 = true := by decide +kernel
set_option maxRecDepth 100000 in
theorem kt_d15 : kt_cD 15 kt_15 = true := by decide +kernel
set_option maxRecDepth 100000 in
theorem kt_d16 : kt_cD 16 kt_16 = true := by decide +kernel
set_option maxRecDepth 100000 in
theorem kt_d17 : kt_cD 17 kt_17 = true := by decide +kernel
set_option maxRecDepth 100000 in
theorem kt_d18 : kt_cD 18 kt_18 = true := by decide +kernel
set_option maxRecDepth 100000 in
theorem kt_d19 : kt_cD 19 kt_19 = true := by decide +kernel
set_option maxRecDepth 100000 in
theorem kt_d20 : kt_cD 20 kt_20 = true := by decide +kernel
set_option maxRecDepth 100000 in
theorem kt_d21 : kt_cD 21 kt_21 = true := by decide +kernel
set_option maxRecDepth 100000 in
theorem kt_d22 : kt_cD 22 kt_22 = true := by decide +kernel
set_option maxRecDepth 100000 in
theorem kt_d23 : kt_cD 23 kt_23 = true := by decide +kernel
set_option maxRecDepth 100000 in
theorem kt_d24 : kt_cD 24 kt_24 = true := by decide +kernel
set_option maxRecDepth 100000 in
theorem kt_d25 : kt_cD 25 kt_25 = true := by decide +kernel
set_option maxRecDepth 100000 in
theorem kt_d26 : kt_cD 26 kt_26 = true := by decide +kernel
set_option maxRecDepth 100000 in
theorem kt_d27 : kt_cD 27 kt_27 = true := by decide +kernel
set_option maxRecDepth 100000 in
theorem kt_d28 : kt_cD 28 kt_28 = true := by decide +kernel
set_option maxRecDepth 100000 in
theorem kt_d29 : kt_cD 29 kt_29 = true := by decide +kernel
set_option maxRecDepth 100000 in
theorem kt_d30 : kt_cD 30 kt_30 = true := by decide +kernel
set_option maxRecDepth 100000 in
theorem kt_d31 : kt_cD 31 kt_31 = true := by decide +kernel
set_option maxRecDepth 100000 in
theorem kt_d32 : kt_cD 32 kt_32 = true := by decide +kernel
set_option maxRecDepth 100000 in
theorem kt_d33 : kt_cD 33 kt_33 = true := by decide +kernel
set_option maxRecDepth 100000 in
theorem kt_d34 : kt_cD 34 kt_34 = true := by decide +kernel
set_option maxRecDepth 100000 in
theorem kt_d35 : kt_cD 35 kt_35 = true := by decide +kernel
set_option maxRecDepth 100000 in
theorem kt_d36 : kt_cD 36 kt_36 = true := by decide +kernel
set_option maxRecDepth 100000 in
theorem kt_d37 : kt_cD 37 kt_37 = true := by decide +kernel
set_option maxRecDepth 100000 in
theorem kt_d38 : kt_cD 38 kt_38 = true := by decide +kernel
set_option maxRecDepth 100000 in
theorem kt_d39 : kt_cD 39 kt_39 = true := by decide +kernel
end
section
set_option maxRecDepth 100000 in
theorem kt_d40 : kt_cD 40 kt_40 = true := by decide +kernel
set_option maxRecDepth 100000 in
theorem kt_d41 : kt_cD 41 kt_41 = true := by decide +kernel
set_option maxRecDepth 100000 in
theorem kt_d42 : kt_cD 42 kt_42 = true := by decide +kernel
set_option maxRecDepth 100000 in
theorem kt_d43 : kt_cD 43 kt_43 = true := by decide +kernel
set_option maxRecDepth 100000 in
theorem kt_d44 : kt_cD 44 kt_44 = true := by decide +kernel
set_option maxRecDepth 100000 in
theorem kt_d45 : kt_cD 45 kt_45 = true := by decide +kernel
set_option maxRecDepth 100000 in
theorem kt_d46 : kt_cD 46 kt_46 = true := by decide +kernel
set_option maxRecDepth 100000 in
theorem kt_d47 : kt_cD 47 kt_47 = true := by decide +kernel
set_option maxRecDepth 100000 in
theorem kt_d48 : kt_cD 48 kt_48 = true := by decide +kernel
set_option maxRecDepth 100000 in
theorem kt_d49 : kt_cD 49 kt_49 = true := by decide +kernel
set_option maxRecDepth 100000 in
theorem kt_d50 : kt_cD 50 kt_50 = true := by decide +kernel
set_option maxRecDepth 100000 in
theorem kt_d51 : kt_cD 51 kt_51 = true := by decide +kernel
set_option maxRecDepth 100000 in
theorem kt_d52 : kt_cD 52 kt_52 = true := by decide +kernel
set_option maxRecDepth 100000 in
theorem kt_d53 : kt_cD 53 kt_53 = true := by decide +kernel
set_option maxRecDepth 100000 in
theorem kt_d54 : kt_cD 54 kt_54 = true := by decide +kernel
set_option maxRecDepth 100000 in
theorem kt_d55 : kt_cD 55 kt_55 = true := by decide +kernel
set_option maxRecDepth 100000 in
theorem kt_d56 : kt_cD 56 kt_56 = true := by decide +kernel
set_option maxRecDepth 100000 in
theorem kt_d57 : kt_cD 57 kt_57 = true := by decide +kernel
set_option maxRecDepth 100000 in
theorem kt_d58 : kt_cD 58 kt_58 = true := by decide +kernel
set_option maxRecDepth 100000 in
theorem kt_d59 : kt_cD 59 kt_59 = true := by decide +kernel
set_option maxRecDepth 100000 in
theorem kt_d60 : kt_cD 60 kt_60 = true := by decide +kernel
set_option maxRecDepth 100000 in
theorem kt_d61 : kt_cD 61 kt_61 = true := by decide +kernel
set_option maxRecDepth 100000 in
theorem kt_d62 : kt_cD 62 kt_62 = true := by decide +kernel
set_option maxRecDepth 100000 in
theorem kt_d63 : kt_cD 63 kt_63 = true := by decide +kernel
set_option maxRecDepth 100000 in
theorem kt_d64 : kt_cD 64 kt_64 = true := by decide +kernel
set_option maxRecDepth 100000 in
theorem kt_d65 : kt_cD 65 kt_65 = true := by decide +kernel
set_option maxRecDepth 100000 in
theorem kt_d66 : kt_cD 66 kt_66 = true := by decide +kernel
set_option maxRecDepth 100000 in
theorem kt_d67 : kt_cD 67 kt_67 = true := by decide +kernel
set_option maxRecDepth 100000 in
theorem kt_d68 : kt_cD 68 kt_68 = true := by decide +kernel
set_option maxRecDepth 100000 in
theorem kt_d69 : kt_cD 69 kt_69 = true := by decide +kernel
set_option maxRecDepth 100000 in
theorem kt_d70 : kt_cD 70 kt_70 = true := by decide +kernel
set_option maxRecDepth 100000 in
theorem kt_d71 : kt_cD 71 kt_71 = true := by decide +kernel
set_option maxRecDepth 100000 in
theorem kt_d72 : kt_cD 72 kt_72 = true := by decide +kernel
set_option maxRecDepth 100000 in
theorem kt_d73 : kt_cD 73 kt_73 = true := by decide +kernel
set_option maxRecDepth 100000 in
theorem kt_d74 : kt_cD 74 kt_74 = true := by decide +kernel
set_option maxRecDepth 100000 in
theorem kt_d75 : kt_cD 75 kt_75 = true := by decide +kernel
set_option maxRecDepth 100000 in
theorem kt_d76 : kt_cD 76 kt_76 = true := by decide +kernel
set_option maxRecDepth 100000 in
theorem kt_d77 : kt_cD 77 kt_77 = true := by decide +kernel
set_option maxRecDepth 100000 in
theorem kt_d78 : kt_cD 78 kt_78 = true := by decide +kernel
set_option maxRecDepth 100000 in
theorem kt_d79 : kt_cD 79 kt_79 = true := by decide +kernel
set_option maxRecDepth 100000 in
theorem kt_d80 : kt_cD 80 kt_80 = true := by decide +kernel
set_option maxRecDepth 100000 in
theorem kt_d81 : kt_cD 81 kt_81 = true := by decide +kernel
end
section
set_option maxRecDepth 100000 in
theorem kt_d82 : kt_cD 82 kt_82 = true := by decide +kernel
set_option maxRecDepth 100000 in
theorem kt_d83 : kt_cD 83 kt_83 = true := by decide +kernel
set_option maxRecDepth 100000 in
theorem kt_d84 : kt_cD 84 kt_84 = true := by decide +kernel
set_option maxRecDepth 100000 in
theorem kt_d85 : kt_cD 85 kt_85 = true := by decide +kernel
set_option maxRecDepth 100000 in
theorem kt_d86 : kt_cD 86 kt_86 = true := by decide +kernel
set_option maxRecDepth 100000 in
theorem kt_d87 : kt_cD 87 kt_87 = true := by decide +kernel
set_option maxRecDepth 100000 in
theorem kt_d88 : kt_cD 88 kt_88 = true := by decide +kernel
set_option maxRecDepth 100000 in
theorem kt_d89 : kt_cD 89 kt_89 = true := by decide +kernel
set_option maxRecDepth 100000 in
theorem kt_d90 : kt_cD 90 kt_90 = true := by decide +kernel
set_option maxRecDepth 100000 in
theorem kt_d91 : kt_cD 91 kt_91 = true := by decide +kernel
set_option maxRecDepth 100000 in
theorem kt_d92 : kt_cD 92 kt_92 = true := by decide +kernel
set_option maxRecDepth 100000 in
theorem kt_d93 : kt_cD 93 kt_93 = true := by decide +kernel
end
section
set_option maxRecDepth 100000 in
theorem kt_d94 : kt_cD 94 kt_94 = true := by decide +kernel
set_option maxRecDepth 100000 in
theorem kt_d95 : kt_cD 95 kt_95 = true := by decide +kernel
set_option maxRecDepth 100000 in
theorem kt_d96 : kt_cD 96 kt_96 = true := by decide +kernel
set_option maxRecDepth 100000 in
theorem kt_d97 : kt_cD 97 kt_97 = true := by decide +kernel
set_option maxRecDepth 100000 in
theorem kt_d98 : kt_cD 98 kt_98 = true := by decide +kernel
set_option maxRecDepth 100000 in
theorem kt_d99 : kt_cD 99 kt_99 = true := by decide +kernel
set_option maxRecDepth 100000 in
theorem kt_d100 : kt_cD 100 kt_100 = true := by decide +kernel
set_option maxRecDepth 100000 in
theorem kt_d101 : kt_cD 101 kt_101 = true := by decide +kernel
set_option maxRecDepth 100000 in
theorem kt_d102 : kt_cD 102 kt_102 = true := by decide +kernel
set_option maxRecDepth 100000 in
theorem kt_d103 : kt_cD 103 kt_103 = true := by decide +kernel
set_option maxRecDepth 100000 in
theorem kt_d104 : kt_cD 104 kt_104 = true := by decide +kernel
set_option maxRecDepth 100000 in
theorem kt_d105 : kt_cD 105 kt_105 = true := by decide +kernel
set_option maxRecDepth 100000 in
theorem kt_d106 : kt_cD 106 kt_106 = true := by decide +kernel
set_option maxRecDepth 100000 in
theorem kt_d107 : kt_cD 107 kt_107 = true := by decide +kernel
set_option maxRecDepth 100000 in
theorem kt_d108 : kt_cD 108 kt_108 = true := by decide +kernel
set_option maxRecDepth 100000 in
theorem kt_d109 : kt_cD 109 kt_109 = true := by decide +kernel
set_option maxRecDepth 100000 in
theorem kt_d110 : kt_cD 110 kt_110 = true := by decide +kernel
set_option maxRecDepth 100000 in
theorem kt_d111 : kt_cD 111 kt_111 = true := by decide +kernel
set_option maxRecDepth 100000 in
theorem kt_d112 : kt_cD 112 kt_112 = true := by decide +kernel
set_option maxRecDepth 100000 in
theorem kt_d113 : kt_cD 113 kt_113 = true := by decide +kernel
set_option maxRecDepth 100000 in
theorem kt_d114 : kt_cD 114 kt_114 = true := by decide +kernel
set_option maxRecDepth 100000 in
theorem kt_d115 : kt_cD 115 kt_115 = true := by decide +kernel
set_option maxRecDepth 100000 in
theorem kt_d116 : kt_cD 116 kt_116 = true := by decide +kernel
set_option maxRecDepth 100000 in
theorem kt_d117 : kt_cD 117 kt_117 = true := by decide +kernel
end
section
set_option maxRecDepth 100000 in
theorem kt_d118 : kt_cD 118 kt_118 = true := by decide +kernel
set_option maxRecDepth 100000 in
theorem kt_d119 : kt_cD 119 kt_119 = true := by decide +kernel
set_option maxRecDepth 100000 in
theorem kt_d120 : kt_cD 120 kt_120 = true := by decide +kernel
set_option maxRecDepth 100000 in
theorem kt_d121 : kt_cD 121 kt_121 = true := by decide +kernel
set_option maxRecDepth 100000 in
theorem kt_d122 : kt_cD 122 kt_122 = true := by decide +kernel
set_option maxRecDepth 100000 in
theorem kt_d123 : kt_cD 123 kt_123 = true := by decide +kernel
set_option maxRecDepth 100000 in
theorem kt_d124 : kt_cD 124 kt_124 = true := by decide +kernel
set_option maxRecDepth 100000 in
theorem kt_d125 : kt_cD 125 kt_125 = true := by decide +kernel
set_option maxRecDepth 100000 in
theorem kt_d126 : kt_cD 126 kt_126 = true := by decide +kernel
set_option maxRecDepth 100000 in
theorem kt_d127 : kt_cD 127 kt_127 = true := by decide +kernel
set_option maxRecDepth 100000 in
theorem kt_d128 : kt_cD 128 kt_128 = true := by decide +kernel
set_option maxRecDepth 100000 in
theorem kt_d129 : kt_cD 129 kt_129 = true := by decide +kernel
set_option maxRecDepth 100000 in
theorem kt_d130 : kt_cD 130 kt_130 = true := by decide +kernel
set_option maxRecDepth 100000 in
theorem kt_d131 : kt_cD 131 kt_131 = true := by decide +kernel
set_option maxRecDepth 100000 in
theorem kt_d132 : kt_cD 132 kt_132 = true := by decide +kernel
set_option maxRecDepth 100000 in
theorem kt_d133 : kt_cD 133 kt_133 = true := by decide +kernel
set_option maxRecDepth 100000 in
theorem kt_d134 : kt_cD 134 kt_134 = true := by decide +kernel
set_option maxRecDepth 100000 in
theorem kt_d135 : kt_cD 135 kt_135 = true := by decide +kernel
set_option maxRecDepth 100000 in
theorem kt_d136 : kt_cD 136 kt_136 = true := by decide +kernel
set_option maxRecDepth 100000 in
theorem kt_d137 : kt_cD 137 kt_137 = true := by decide +kernel
set_option maxRecDepth 100000 in
theorem kt_d138 : kt_cD 138 kt_138 = true := by decide +kernel
set_option maxRecDepth 100000 in
theorem kt_d139 : kt_cD 139 kt_139 = true := by decide +kernel
set_option maxRecDepth 100000 in
theorem kt_d140 : kt_cD 140 kt_140 = true := by decide +kernel
set_option maxRecDepth 100000 in
theorem kt_d141 : kt_cD 141 kt_141 = true := by decide +kernel
set_option maxRecDepth 100000 in
theorem kt_d142 : kt_cD 142 kt_142 = true := by decide +kernel
set_option maxRecDepth 100000 in
theorem kt_d143 : kt_cD 143 kt_143 = true := by decide +kernel
set_option maxRecDepth 100000 in
theorem kt_d144 : kt_cD 144 kt_144 = true := by decide +kernel
set_option maxRecDepth 100000 in
theorem kt_d145 : kt_cD 145 kt_145 = true := by decide +kernel
set_option maxRecDepth 100000 in
theorem kt_d146 : kt_cD 146 kt_146 = true := by decide +kernel
end
section
set_option maxRecDepth 100000 in
theorem kt_d147 : kt_cD 147 kt_147 = true := by decide +kernel
set_option maxRecDepth 100000 in
theorem kt_d148 : kt_cD 148 kt_148 = true := by decide +kernel
set_option maxRecDepth 100000 in
theorem kt_d149 : kt_cD 149 kt_149 = true := by decide +kernel
set_option maxRecDepth 100000 in
theorem kt_d150 : kt_cD 150 kt_150 = true := by decide +kernel
set_option maxRecDepth 100000 in
theorem kt_d151 : kt_cD 151 kt_151 = true := by decide +kernel
set_option maxRecDepth 100000 in
theorem kt_d152 : kt_cD 152 kt_152 = true := by decide +kernel
set_option maxRecDepth 100000 in
theorem kt_d153 : kt_cD 153 kt_153 = true := by decide +kernel
set_option maxRecDepth 100000 in
theorem kt_d154 : kt_cD 154 kt_154 = true := by decide +kernel
set_option maxRecDepth 100000 in
theorem kt_d155 : kt_cD 155 kt_155 = true := by decide +kernel
set_option maxRecDepth 100000 in
theorem kt_d156 : kt_cD 156 kt_156 = true := by decide +kernel
set_option maxRecDepth 100000 in
theorem kt_d157 : kt_cD 157 kt_157 = true := by decide +kernel
set_option maxRecDepth 100000 in
theorem kt_d158 : kt_cD 158 kt_158 = true := by decide +kernel
set_option maxRecDepth 100000 in
theorem kt_d159 : kt_cD 159 kt_159 = true := by decide +kernel
set_option maxRecDepth 100000 in
theorem kt_d160 : kt_cD 160 kt_160 = true := by decide +kernel
set_option maxRecDepth 100000 in
theorem kt_d161 : kt_cD 161 kt_161 = true := by decide +kernel
set_option maxRecDepth 100000 in
theorem kt_d162 : kt_cD 162 kt_162 = true := by decide +kernel
set_option maxRecDepth 100000 in
theorem kt_d163 : kt_cD 163 kt_163 = true := by decide +kernel
set_option maxRecDepth 100000 in
theorem kt_d164 : kt_cD 164 kt_164 = true := by decide +kernel
set_option maxRecDepth 100000 in
theorem kt_d165 : kt_cD 165 kt_165 = true := by decide +kernel
set_option maxRecDepth 100000 in
theorem kt_d166 : kt_cD 166 kt_166 = true := by decide +kernel
set_option maxRecDepth 100000 in
theorem kt_d167 : kt_cD 167 kt_167 = true := by decide +kernel
set_option maxRecDepth 100000 in
theorem kt_d168 : kt_cD 168 kt_168 = true := by decide +kernel
set_option maxRecDepth 100000 in
theorem kt_d169 : kt_cD 169 kt_169 = true := by decide +kernel
set_option maxRecDepth 100000 in
theorem kt_d170 : kt_cD 170 kt_170 = true := by decide +kernel
set_option maxRecDepth 100000 in
theorem kt_d171 : kt_cD 171 kt_171 = true := by decide +kernel
end
section
set_option maxRecDepth 100000 in
theorem kt_d172 : kt_cD 172 kt_172 = true := by decide +kernel
set_option maxRecDepth 100000 in
theorem kt_d173 : kt_cD 173 kt_173 = true := by decide +kernel
set_option maxRecDepth 100000 in
theorem kt_d174 : kt_cD 174 kt_174 = true := by decide +kernel
set_option maxRecDepth 100000 in
theorem kt_d175 : kt_cD 175 kt_175 = true := by decide +kernel
set_option maxRecDepth 100000 in
theorem kt_d176 : kt_cD 176 kt_176 = true := by decide +kernel
set_option maxRecDepth 100000 in
theorem kt_d177 : kt_cD 177 kt_177 = true := by decide +kernel
set_option maxRecDepth 100000 in
theorem kt_d178 : kt_cD 178 kt_178 = true := by decide +kernel
set_option maxRecDepth 100000 in
theorem kt_d179 : kt_cD 179 kt_179 = true := by decide +kernel
end
section
set_option maxRecDepth 100000 in
theorem kt_d0_b0 : (kt_0_b0.all (fun q => decide (decode (kt_cc 0) q.1 = .ok q.2))) = true := by decide +kernel
set_option maxRecDepth 100000 in
theorem kt_d0_b1 : (kt_0_b1.all (fun q => decide (decode (kt_cc 0) q.1 = .ok q.2))) = true := by decide +kernel
set_option maxRecDepth 100000 in
theorem kt_d0_b2 : (kt_0_b2.all (fun q => decide (decode (kt_cc 0) q.1 = .ok q.2))) = true := by decide +kernel
set_option maxRecDepth 100000 in
theorem kt_d0_b3 : (kt_0_b3.all (fun q => decide (decode (kt_cc 0) q.1 = .ok q.2))) = true := by decide +kernel
set_option maxRecDepth 100000 in
theorem kt_d0_b4 : (kt_0_b4.all (fun q => decide (decode (kt_cc 0) q.1 = .ok q.2))) = true := by decide +kernel
set_option maxRecDepth 100000 in
theorem kt_d0_b5 : (kt_0_b5.all (fun q => decide (decode (kt_cc 0) q.1 = .ok q.2))) = true := by decide +kernel
set_option maxRecDepth 100000 in
theorem kt_d0_b6 : (kt_0_b6.all (fun q => decide (decode (kt_cc 0) q.1 = .ok q.2))) = true := by decide +kernel
set_option maxRecDepth 100000 in
theorem kt_d0_b7 : (kt_0_b7.all (fun q => decide (decode (kt_cc 0) q.1 = .ok q.2))) = true := by decide +kernel
end
section
set_option maxRecDepth 100000 in
theorem kt_d0_b8 : (kt_0_b8.all (fun q => decide (decode (kt_cc 0) q.1 = .ok q.2))) = true := by decide +kernel
set_option maxRecDepth 100000 in
theorem kt_d0_b9 : (kt_0_b9.all (fun q => decide (decode (kt_cc 0) q.1 = .ok q.2))) = true := by decide +kernel
set_option maxRecDepth 100000 in
theorem kt_d0_b10 : (kt_0_b10.all (fun q => decide (decode (kt_cc 0) q.1 = .ok q.2))) = true := by decide +kernel
set_option maxRecDepth 100000 in
theorem kt_d0_b11 : (kt_0_b11.all (fun q => decide (decode (kt_cc 0) q.1 = .ok q.2))) = true := by decide +kernel
set_option maxRecDepth 100000 in
theorem kt_d0_b12 : (kt_0_b12.all (fun q => decide (decode (kt_cc 0) q.1 = .ok q.2))) = true := by decide +kernel
set_option maxRecDepth 100000 in
theorem kt_d0_b13 : (kt_0_b13.all (fun q => decide (decode (kt_cc 0) q.1 = .ok q.2))) = true := by decide +kernel
set_option maxRecDepth 100000 in
theorem kt_d0_b14 : (kt_0_b14.all (fun q => decide (decode (kt_cc 0) q.1 = .ok q.2))) = true := by decide +kernel
set_option maxRecDepth 100000 in
theorem kt_d0_b15 : (kt_0_b15.all (fun q => decide (decode (kt_cc 0) q.1 = .ok q.2))) = true := by decide +kernel
end
section
set_option maxRecDepth 100000 in
theorem kt_d0_b16 : (kt_0_b16.all (fun q => decide (decode (kt_cc 0) q.1 = .ok q.2))) = true := by decide +kernel
set_option maxRecDepth 100000 in
theorem kt_d0_b17 : (kt_0_b17.all (fun q => decide (decode (kt_cc 0) q.1 = .ok q.2))) = true := by decide +kernel
set_option maxRecDepth 100000 in
theorem kt_d0_b18 : (kt_0_b18.all (fun q => decide (decode (kt_cc 0) q.1 = .ok q.2))) = true := by decide +kernel
set_option maxRecDepth 100000 in
theorem kt_d0_b19 : (kt_0_b19.all (fun q => decide (decode (kt_cc 0) q.1 = .ok q.2))) = true := by decide +kernel
set_option maxRecDepth 100000 in
theorem kt_d0_b20 : (kt_0_b20.all (fun q => decide (decode (kt_cc 0) q.1 = .ok q.2))) = true := by decide +kernel
set_option maxRecDepth 100000 in
theorem kt_d0_b21 : (kt_0_b21.all (fun q => decide (decode (kt_cc 0) q.1 = .ok q.2))) = true := by decide +kernel
set_option maxRecDepth 100000 in
theorem kt_d0_b22 : (kt_0_b22.all (fun q => decide (decode (kt_cc 0) q.1 = .ok q.2))) = true := by decide +kernel
set_option maxRecDepth 100000 in
theorem kt_d0_b23 : (kt_0_b23.all (fun q => decide (decode (kt_cc 0) q.1 = .ok q.2))) = true := by decide +kernel
end
section
set_option maxRecDepth 100000 in
theorem kt_d0_b24 : (kt_0_b24.all (fun q => decide (decode (kt_cc 0) q.1 = .ok q.2))) = true := by decide +kernel
set_option maxRecDepth 100000 in
theorem kt_d0_b25 : (kt_0_b25.all (fun q => decide (decode (kt_cc 0) q.1 = .ok q.2))) = true := by decide +kernel
set_option maxRecDepth 100000 in
theorem kt_d0_b26 : (kt_0_b26.all (fun q => decide (decode (kt_cc 0) q.1 = .ok q.2))) = true := by decide +kernel
set_option maxRecDepth 100000 in
theorem kt_d0_b27 : (kt_0_b27.all (fun q => decide (decode (kt_cc 0) q.1 = .ok q.2))) = true := by decide +kernel
set_option maxRecDepth 100000 in
theorem kt_d0_b28 : (kt_0_b28.all (fun q => decide (decode (kt_cc 0) q.1 = .ok q.2))) = true := by decide +kernel
set_option maxRecDepth 100000 in
theorem kt_d0_b29 : (kt_0_b29.all (fun q => decide (decode (kt_cc 0) q.1 = .ok q.2))) = true := by decide +kernel
set_option maxRecDepth 100000 in
theorem kt_d0_b30 : (kt_0_b30.all (fun q => decide (decode (kt_cc 0) q.1 = .ok q.2))) = true := by decide +kernel
set_option maxRecDepth 100000 in
theorem kt_d0_b31 : (kt_0_b31.all (fun q => decide (decode (kt_cc 0) q.1 = .ok q.2))) = true := by decide +kernel
end
section
set_option maxRecDepth 100000 in
theorem kt_d0_b32 : (kt_0_b32.all (fun q => decide (decode (kt_cc 0) q.1 = .ok q.2))) = true := by decide +kernel
set_option maxRecDepth 100000 in
theorem kt_d0_b33 : (kt_0_b33.all (fun q => decide (decode (kt_cc 0) q.1 = .ok q.2))) = true := by decide +kernel
set_option maxRecDepth 100000 in
theorem kt_d0_b34 : (kt_0_b34.all (fun q => decide (decode (kt_cc 0) q.1 = .ok q.2))) = true := by decide +kernel
set_option maxRecDepth 100000 in
theorem kt_d0_b35 : (kt_0_b35.all (fun q => decide (decode (kt_cc 0) q.1 = .ok q.2))) = true := by decide +kernel
set_option maxRecDepth 100000 in
theorem kt_d0_b36 : (kt_0_b36.all (fun q => decide (decode (kt_cc 0) q.1 = .ok q.2))) = true := by decide +kernel
set_option maxRecDepth 100000 in
theorem kt_d0_b37 : (kt_0_b37.all (fun q => decide (decode (kt_cc 0) q.1 = .ok q.2))) = true := by decide +kernel
set_option maxRecDepth 100000 in
theorem kt_d0_b38 : (kt_0_b38.all (fun q => decide (decode (kt_cc 0) q.1 = .ok q.2))) = true := by decide +kernel
theorem kt_d0 : kt_cD 0 kt_0 = true := by
  unfold kt_cD kt_all2 kt_0
  rw [List.all_cons, kt_d0_b0, List.all_cons, kt_d0_b1, List.all_cons, kt_d0_b2, List.all_cons, kt_d0_b3, List.all_cons, kt_d0_b4, List.all_cons, kt_d0_b5, List.all_cons, kt_d0_b6, List.all_cons, kt_d0_b7, List.all_cons, kt_d0_b8, List.all_cons, kt_d0_b9, List.all_cons, kt_d0_b10, List.all_cons, kt_d0_b11, List.all_cons, kt_d0_b12, List.all_cons, kt_d0_b13, List.all_cons, kt_d0_b14, List.all_cons, kt_d0_b15, List.all_cons, kt_d0_b16, List.all_cons, kt_d0_b17, List.all_cons, kt_d0_b18, List.all_cons, kt_d0_b19, List.all_cons, kt_d0_b20, List.all_cons, kt_d0_b21, List.all_cons, kt_d0_b22, List.all_cons, kt_d0_b23, List.all_cons, kt_d0_b24, List.all_cons, kt_d0_b25, List.all_cons, kt_d0_b26, List.all_cons, kt_d0_b27, List.all_cons, kt_d0_b28, List.all_cons, kt_d0_b29, List.all_cons, kt_d0_b30, List.all_cons, kt_d0_b31, List.all_cons, kt_d0_b32, List.all_cons, kt_d0_b33, List.all_cons, kt_d0_b34, List.all_cons, kt_d0_b35, List.all_cons, kt_d0_b36, List.all_cons, kt_d0_b37, List.all_cons, kt_d0_b38]
  rfl
end
section
theorem kt_dall : kt_all2 kt_cD kt_cds = true := by
  simp only [kt_all2, kt_cds, List.all_cons, List.all_nil, kt_d0, kt_d1, kt_d2, kt_d3, kt_d4, kt_d5, kt_d6, kt_d7, kt_d8, kt_d9, kt_d10, kt_d11, kt_d12, kt_d13, kt_d14, kt_d15, kt_d16, kt_d17, kt_d18, kt_d19, kt_d20, kt_d21, kt_d22, kt_d23, kt_d24, kt_d25, kt_d26, kt_d27, kt_d28, kt_d29, kt_d30, kt_d31, kt_d32, kt_d33, kt_d34, kt_d35, kt_d36, kt_d37, kt_d38, kt_d39, kt_d40, kt_d41, kt_d42, kt_d43, kt_d44, kt_d45, kt_d46, kt_d47, kt_d48, kt_d49, kt_d50, kt_d51, kt_d52, kt_d53, kt_d54, kt_d55, kt_d56, kt_d57, kt_d58, kt_d59, kt_d60, kt_d61, kt_d62, kt_d63, kt_d64, kt_d65, kt_d66, kt_d67, kt_d68, kt_d69, kt_d70, kt_d71, kt_d72, kt_d73, kt_d74, kt_d75, kt_d76, kt_d77, kt_d78, kt_d79, kt_d80, kt_d81, kt_d82, kt_d83, kt_d84, kt_d85, kt_d86, kt_d87, kt_d88, kt_d89, kt_d90, kt_d91, kt_d92, kt_d93, kt_d94, kt_d95, kt_d96, kt_d97, kt_d98, kt_d99, kt_d100, kt_d101, kt_d102, kt_d103, kt_d104, kt_d105, kt_d106, kt_d107, kt_d108, kt_d109, kt_d110, kt_d111, kt_d112, kt_d113, kt_d114, kt_d115, kt_d116, kt_d117, kt_d118, kt_d119, kt_d120, kt_d121, kt_d122, kt_d123, kt_d124, kt_d125, kt_d126, kt_d127, kt_d128, kt_d129, kt_d130, kt_d131, kt_d132, kt_d133, kt_d134, kt_d135, kt_d136, kt_d137, kt_d138, kt_d139, kt_d140, kt_d141, kt_d142, kt_d143, kt_d144, kt_d145, kt_d146, kt_d147, kt_d148, kt_d149, kt_d150, kt_d151, kt_d152, kt_d153, kt_d154, kt_d155, kt_d156, kt_d157, kt_d158, kt_d159, kt_d160, kt_d161, kt_d162, kt_d163, kt_d164, kt_d165, kt_d166, kt_d167, kt_d168, kt_d169, kt_d170, kt_d171, kt_d172, kt_d173, kt_d174, kt_d175, kt_d176, kt_d177, kt_d178, kt_d179, Bool.and_self, Bool.and_true]
theorem kt_cl_len : kt_cl.length = 13 := rfl
theorem kt_bool {a b : Bool} (h : (a && b) = true) : a = true ∧ b = true := by rwa [Bool.and_eq_true] at h
theorem kt_V : kc_TV kt_T kt_U kt_cl kt_Ts kt_AOs := by
  refine ⟨fun y pc i n h => ?_, fun ci q hq => ?_, fun ci ix c k h => ?_, fun ci ix c h => ?_, fun ci => ⟨fun ix v h => ?_, fun ix v h => ?_⟩, fun ci q hq => ?_, fun ty hty => ?_, fun ci ix ty h => ?_, fun ci ix h => ?_⟩
  · have h1 : (match kc_f2 y kt_cds with
      | some l => kc_f2 pc l
      | none => none) = some (i, n) := h
    cases hq : kc_f2 y kt_cds with
    | none => rw [hq] at h1; cases h1
    | some l2 =>
      rw [hq] at h1
      exact of_decide_eq_true (kt_all2.ok (kt_all2.ok kt_dall hq) h1)
  · have hci : ci < 13 := by rw [← kt_cl_len]; exact (List.getElem?_eq_some_iff.mp hq).1
    have h := kt_rgl.ok kt_hCL hci
    unfold kt_cCL at h
    rw [hq] at h
    dsimp only at h
    simp only [Bool.and_eq_true] at h
    obtain ⟨⟨⟨⟨⟨⟨⟨h1, h2⟩, h3⟩, h4⟩, h5⟩, h6⟩, h7⟩, h8⟩ := h
    have h3' : ∀ k, k < q.2.2 → _ := fun k hk => kt_rgl.ok h3 hk
    simp only [Bool.and_eq_true] at h3'
    refine ⟨fun w hw => by
      obtain ⟨k, hk, rfl⟩ := List.mem_map.mp hw
      exact kt_in.ok (kt_rgl.ok h1 (List.mem_range.mp hk)), of_decide_eq_true h2, fun k hk => of_decide_eq_true (h3' k hk).1.1, fun a ha b hb hab => ?_, fun k hk => of_decide_eq_true (h3' k hk).1.2, fun k hk => of_decide_eq_true (h3' k hk).2, fun z hz => List.all_eq_true.mp h5 z hz⟩
    have h9 := kt_rgl.ok (kt_rgl.ok h4 ha) hb
    rw [Bool.or_eq_true] at h9
    rcases h9 with h9 | h9
    · exact absurd (Nat.eq_of_beq_eq_true h9) hab
    · exact of_decide_eq_true h9
  · have h1 : kt_cFL ci ix (c, k) = true := by
      have h0 : kt_fl ci ix = some (c, k) := h
      unfold kt_fl at h0
      split at h0
      · rename_i l2 hl
        exact kt_all2.ok (kt_all2.ok (P := fun c l2 => kt_all2 (kt_cFL c) l2) kt_hFL hl) h0
      · cases h0
    unfold kt_cFL at h1
    dsimp only at h1
    split at h1
    · rename_i z hz
      rw [Bool.and_eq_true] at h1
      exact ⟨z, hz, of_decide_eq_true h1.1, kt_in.ok h1.2⟩
    · cases h1
  · have h1 : kt_cNL ci ix c = true := by
      have h0 : kt_nw ci ix = some c := h
      unfold kt_nw at h0
      split at h0
      · rename_i l2 hl
        exact kt_all2.ok (kt_all2.ok (P := fun c l2 => kt_all2 (kt_cNL c) l2) kt_hNL hl) h0
      · cases h0
    unfold kt_cNL at h1
    split at h1
    · rename_i z hz
      rw [Bool.and_eq_true, Bool.and_eq_true] at h1
      exact ⟨z, hz, kt_in.ok h1.1.1, kt_in.ok h1.1.2, kt_in.ok h1.2⟩
    · cases h1
  · have h1 : kt_cKL ci ix (1, v) = true := by
      have h0 : kt_kw ci ix = some (1, v) := h
      unfold kt_kw at h0
      split at h0
      · rename_i l2 hl
        exact kt_all2.ok (kt_all2.ok (P := fun c l2 => kt_all2 (kt_cKL c) l2) kt_hKL hl) h0
      · cases h0
    unfold kt_cKL at h1
    rw [Bool.or_eq_true] at h1
    rcases h1 with h1 | h1
    · rw [Bool.and_eq_true, Bool.and_eq_true] at h1
      exact ⟨_, of_decide_eq_true h1.1.2, kt_in.ok h1.2⟩
    · rw [Bool.and_eq_true, Bool.and_eq_true] at h1
      exact absurd (Nat.eq_of_beq_eq_true h1.1.1) (show ¬ (1 : Nat) = 2 by decide)
  · have h1 : kt_cKL ci ix (2, v) = true := by
      have h0 : kt_kw ci ix = some (2, v) := h
      unfold kt_kw at h0
      split at h0
      · rename_i l2 hl
        exact kt_all2.ok (kt_all2.ok (P := fun c l2 => kt_all2 (kt_cKL c) l2) kt_hKL hl) h0
      · cases h0
    unfold kt_cKL at h1
    rw [Bool.or_eq_true] at h1
    rcases h1 with h1 | h1
    · rw [Bool.and_eq_true, Bool.and_eq_true] at h1
      exact absurd (Nat.eq_of_beq_eq_true h1.1.1) (show ¬ (2 : Nat) = 1 by decide)
    · rw [Bool.and_eq_true, Bool.and_eq_true] at h1
      exact ⟨_, of_decide_eq_true h1.1.2, kt_in.ok h1.2⟩
  · have hci : ci < 13 := by rw [← kt_cl_len]; exact (List.getElem?_eq_some_iff.mp hq).1
    have h := kt_rgl.ok kt_hCL hci
    unfold kt_cCL at h
    rw [hq] at h
    dsimp only at h
    simp only [Bool.and_eq_true] at h
    exact ⟨of_decide_eq_true h.1.1.2, of_decide_eq_true h.1.2⟩
  · have h1 := (kt_bool (kt_bool (kt_bool (kt_bool (kt_bool kt_hAC).1).1).1).1).1
    simp only [Bool.and_eq_true] at h1
    rcases hty with rfl | rfl | rfl | rfl | rfl
    · exact kt_in.ok h1.1.1.1.1
    · exact kt_in.ok h1.1.1.1.2
    · exact kt_in.ok h1.1.1.2
    · exact kt_in.ok h1.1.2
    · exact kt_in.ok h1.2
  · have h1 : kt_cAL ci ix ty = true := by
      have h0 : kt_aw ci ix = some ty := h
      unfold kt_aw at h0
      split at h0
      · rename_i l2 hl
        exact kt_all2.ok (kt_all2.ok (P := fun c l2 => kt_all2 (kt_cAL c) l2) kt_hAL hl) h0
      · cases h0
    unfold kt_cAL at h1
    split at h1
    · rename_i C
      rw [Bool.and_eq_true] at h1
      exact ⟨C, by simpa using h1.1, rfl, kt_in.ok h1.2⟩
    · cases h1
  · have h0 : (kt_mx ci ix).getD false = true := h
    cases hq : kt_mx ci ix with
    | none => rw [hq] at h0; cases h0
    | some b =>
      unfold kt_mx at hq
      split at hq
      · rename_i l2 hl
        exact kt_in.ok (kt_all2.ok (P := kt_cML ci) (kt_all2.ok (P := fun c l2 => kt_all2 (kt_cML c) l2) kt_hML hl) hq)
      · cases hq
theorem kt_cwall {y : Nat} (h1 : 1 ≤ y) (h2 : y ≤ 179) : Jvm.Cond.code (kt_nm y) (kt_cc y) (kt_mi y).1 (kt_rt y) ∈ kt_Ts := by
  by_cases g0 : y ≤ 30
  · exact kt_cwc0 y (by simp only [List.mem_cons, List.not_mem_nil, or_false]; omega)
  by_cases g30 : y ≤ 60
  · exact kt_cwc1 y (by simp only [List.mem_cons, List.not_mem_nil, or_false]; omega)
  by_cases g60 : y ≤ 90
  · exact kt_cwc2 y (by simp only [List.mem_cons, List.not_mem_nil, or_false]; omega)
  by_cases g90 : y ≤ 120
  · exact kt_cwc3 y (by simp only [List.mem_cons, List.not_mem_nil, or_false]; omega)
  by_cases g120 : y ≤ 150
  · exact kt_cwc4 y (by simp only [List.mem_cons, List.not_mem_nil, or_false]; omega)
  by_cases g150 : y ≤ 179
  · exact kt_cwc5 y (by simp only [List.mem_cons, List.not_mem_nil, or_false]; omega)
  omega
theorem kt_mv {y : Nat} (h1 : 1 ≤ y) (h2 : y ≤ 179) : kc_MV kt_T kt_U kt_Ts y := by
  have h := kt_rgl.ok kt_hMV (k := y - 1) (by omega)
  rw [show y - 1 + 1 = y by omega] at h
  unfold kt_cMV at h
  simp only [Bool.and_eq_true] at h
  obtain ⟨⟨⟨⟨⟨g1, g2⟩, g3⟩, g4⟩, g5⟩, g6⟩ := h
  have hrk : ∀ r : Nat, kc_Trk kt_T y = r → kt_cRK r (kt_rt y) = true := fun r hr => by rw [← hr]; exact g6
  refine ⟨kt_cwall h1 h2, kt_in.ok g1, g2, of_decide_eq_true g3, of_decide_eq_true g4, fun hi => ?_, fun hr => ?_, fun hr => ?_, fun hr => ?_, fun hr => ?_, fun hr => ?_⟩
  · have hi2 : (kt_mi y).2.2.2.2.2.2.2 = true := hi
    rw [hi2] at g5
    have g7 : (kt_nm y).name = "<init>" := by simpa using g5
    exact g7
  all_goals
    have hh := hrk _ hr
    show _
    change kt_cRK _ (kt_rt y) = true at hh
    generalize hz : kt_rt y = rr at hh
  · have hz2 : kt_U.2.2.2 y = rr := hz
    rw [hz2]
    unfold kt_cRK at hh
    split at hh <;> first | rfl | (exfalso; simp_all; done) | cases hh
  · have hz2 : kt_U.2.2.2 y = rr := hz
    rw [hz2]
    unfold kt_cRK at hh
    split at hh <;> first | rfl | (exfalso; simp_all; done) | cases hh
  · have hz2 : kt_U.2.2.2 y = rr := hz
    rw [hz2]
    unfold kt_cRK at hh
    split at hh <;> first | rfl | (exfalso; simp_all; done) | cases hh
  · have hz2 : kt_U.2.2.2 y = rr := hz
    rw [hz2]
    unfold kt_cRK at hh
    split at hh <;> first | exact ⟨_, rfl, Or.inl ⟨_, rfl⟩⟩ | exact ⟨_, rfl, Or.inr ⟨_, rfl⟩⟩ | (exfalso; simp_all; done) | cases hh
  · have hz2 : kt_U.2.2.2 y = rr := hz
    rw [hz2]
    unfold kt_cRK at hh
    split at hh <;> first | rfl | (exfalso; simp_all; done) | cases hh
theorem kt_oi : Jvm.Cond.code Lib.objectInit object_method_1_code 1 none ∈ kt_Ts := kt_in.ok (kt_bool kt_hAC).2
theorem kt_LV : kc_LV kt_T kt_U kt_Ts kt_NWs := by
  intro ci ix kd y h
  have hc : kt_cLK ci ix (kd, y) = true := by
    have h0 : kt_lk ci ix = some (kd, y) := h
    unfold kt_lk at h0
    split at h0
    · rename_i l2 hl
      exact kt_all2.ok (kt_all2.ok (P := fun c l2 => kt_all2 (kt_cLK c) l2) kt_hLK hl) h0
    · cases h0
  unfold kt_cLK at hc
  dsimp only at hc
  refine ⟨fun e => ?_, fun e => ?_, fun e => ?_, fun e => ?_, fun e3 e4 e5 e6 => ?_⟩
  · subst e
    rw [if_pos rfl] at hc
    exact ⟨kt_in.ok hc, kt_in.ok (kt_bool (kt_bool (kt_bool (kt_bool (kt_bool kt_hAC).1).1).1).1).2, kt_oi⟩
  · subst e
    rw [if_neg (by decide), if_pos rfl] at hc
    exact ⟨kt_in.ok hc, kt_in.ok (kt_bool (kt_bool (kt_bool (kt_bool kt_hAC).1).1).1).2, kt_in.ok (kt_bool (kt_bool (kt_bool kt_hAC).1).1).2, kt_in.ok (kt_bool (kt_bool kt_hAC).1).2⟩
  · subst e
    rw [if_neg (by decide), if_neg (by decide), if_pos rfl] at hc
    exact ⟨kt_in.ok hc, kt_in.ok (kt_bool (kt_bool (kt_bool (kt_bool kt_hMM).1).1).1).1, kt_in.ok (kt_bool (kt_bool (kt_bool kt_hMM).1).1).2, kt_in.ok (kt_bool (kt_bool kt_hMM).1).2⟩
  · subst e
    rw [if_neg (by decide), if_neg (by decide), if_neg (by decide), if_pos rfl] at hc
    exact ⟨kt_in.ok hc, kt_in.ok (kt_bool (kt_bool (kt_bool (kt_bool kt_hMM).1).1).1).2, kt_in.ok (kt_bool (kt_bool (kt_bool kt_hMM).1).1).2, kt_in.ok (kt_bool kt_hMM).2⟩
  · rw [if_neg e3, if_neg e4, if_neg e5, if_neg e6] at hc
    simp only [Bool.and_eq_true] at hc
    obtain ⟨⟨⟨c1, c2⟩, c3⟩, c4⟩ := hc
    refine ⟨kt_mv (Nat.le_of_ble_eq_true c1) (Nat.le_of_ble_eq_true c2), fun hk => ?_, fun hk => ?_, fun hk => ?_, fun hk => ?_, fun hk => ?_⟩
    · rw [if_pos (by omega)] at c3
      exact kt_in.ok c3
    · rw [if_neg (by omega)] at c3
      obtain ⟨q, h1, h2⟩ := List.any_eq_true.mp c3
      obtain ⟨g1, g2, g3⟩ := of_decide_eq_true h2
      obtain ⟨q1, q2, q3, q4⟩ := q
      dsimp only at g1 g2 g3
      subst g1; subst g2; subst g3
      exact ⟨q4, h1⟩
    · rw [if_pos hk] at c4
      simp only [Bool.and_eq_true] at c4
      exact ⟨kt_in.ok c4.1.1, kt_in.ok c4.1.2, of_decide_eq_true c4.2⟩
    · rw [if_neg (by omega), if_pos hk] at c4
      simp only [Bool.and_eq_true] at c4
      exact ⟨kt_in.ok c4.1, of_decide_eq_true c4.2⟩
    · rw [if_neg (by omega), if_neg (by omega), if_pos hk] at c4
      simp only [Bool.and_eq_true] at c4
      exact ⟨kt_in.ok c4.1.1.1, of_decide_eq_true c4.1.1.2, of_decide_eq_true c4.1.2, of_decide_eq_true c4.2⟩
end
section
theorem kt_at.mem {h : Nat × Nat} {w : Jvm.Cond} (hh : kt_at h = some w) : w ∈ lw_tbl := by
  unfold kt_at at hh
  obtain ⟨l, h1, h2⟩ := Option.bind_eq_some_iff.mp hh
  rw [← kt_tb_eq]
  exact List.mem_flatten.mpr ⟨l, List.mem_of_getElem? h1, List.mem_of_getElem? h2⟩
set_option maxRecDepth 100000 in
theorem kt_ao0 : kt_at (1, 39) = some (.arrayOver (.object "WheelTown$Event")) := by decide +kernel
set_option maxRecDepth 100000 in
theorem kt_ao1 : kt_at (1, 37) = some (.arrayOver (.object "WheelTown$Meter")) := by decide +kernel
set_option maxRecDepth 100000 in
theorem kt_ao2 : kt_at (2, 64) = some (.arrayOver (.object "WheelTown$Readings")) := by decide +kernel
set_option maxRecDepth 100000 in
theorem kt_ao3 : kt_at (2, 203) = some (.arrayOver (.object "WheelTown$Slot")) := by decide +kernel
set_option maxRecDepth 100000 in
theorem kt_ao4 : kt_at (1, 41) = some (.arrayOver (.object "WheelTown$Tariff")) := by decide +kernel
set_option maxRecDepth 100000 in
theorem kt_ao5 : kt_at (2, 63) = some (.arrayOver (.object "WheelTown$Town")) := by decide +kernel
set_option maxRecDepth 100000 in
theorem kt_aoa : kt_at (2, 72) = some (.arrayOver (.array .int)) := by decide +kernel
set_option maxRecDepth 100000 in
theorem kt_nw0 : kt_at (1, 232) = some (.methodLinkNest "WheelTown" 26 ⟨"WheelTown$Parser", "<init>", "()V"⟩ "WheelTown") := by decide +kernel
set_option maxRecDepth 100000 in
theorem kt_nw1 : kt_at (2, 34) = some (.methodLinkNest "WheelTown" 39 ⟨"WheelTown$Readings", "<init>", "()V"⟩ "WheelTown") := by decide +kernel
set_option maxRecDepth 100000 in
theorem kt_nw2 : kt_at (2, 67) = some (.methodLinkNest "WheelTown" 54 ⟨"WheelTown$Stretches", "<init>", "()V"⟩ "WheelTown") := by decide +kernel
set_option maxRecDepth 100000 in
theorem kt_nw3 : kt_at (2, 105) = some (.methodLinkNest "WheelTown" 61 ⟨"WheelTown$Tally", "<init>", "()V"⟩ "WheelTown") := by decide +kernel
set_option maxRecDepth 100000 in
theorem kt_nw4 : kt_at (2, 118) = some (.methodLinkNest "WheelTown" 68 ⟨"WheelTown$Supposed", "<init>", "()V"⟩ "WheelTown") := by decide +kernel
set_option maxRecDepth 100000 in
theorem kt_nw5 : kt_at (2, 169) = some (.methodLinkNest "WheelTown" 75 ⟨"WheelTown$Walks", "<init>", "()V"⟩ "WheelTown") := by decide +kernel
set_option maxRecDepth 100000 in
theorem kt_nw6 : kt_at (2, 205) = some (.methodLinkNest "WheelTown" 93 ⟨"WheelTown$Slot", "<init>", "()V"⟩ "WheelTown") := by decide +kernel
set_option maxRecDepth 100000 in
theorem kt_nw7 : kt_at (2, 124) = some (.methodLinkNest "WheelTown$Supposed" 32 ⟨"WheelTown$Tally", "<init>", "()V"⟩ "WheelTown") := by decide +kernel
set_option maxRecDepth 100000 in
theorem kt_nw8 : kt_at (1, 43) = some (.methodLinkNest "WheelTown$Town" 51 ⟨"WheelTown$Meter", "<init>", "()V"⟩ "WheelTown") := by decide +kernel
set_option maxRecDepth 100000 in
theorem kt_nw9 : kt_at (1, 114) = some (.methodLinkNest "WheelTown$Town" 52 ⟨"WheelTown$Event", "<init>", "()V"⟩ "WheelTown") := by decide +kernel
set_option maxRecDepth 100000 in
theorem kt_nw10 : kt_at (1, 145) = some (.methodLinkNest "WheelTown$Town" 53 ⟨"WheelTown$Tariff", "<init>", "()V"⟩ "WheelTown") := by decide +kernel
theorem kt_dy {args : Array Value} {s : State} (hts : ∀ w ∈ lw_tbl, w.before args s = true) : kc_Dy kt_AOs kt_NWs s := by
  refine ⟨fun C hC => ?_, hts _ (kt_at.mem kt_aoa), fun q hq => ?_⟩
  · simp only [kt_AOs, List.mem_cons, List.not_mem_nil, or_false] at hC
    rcases hC with rfl | rfl | rfl | rfl | rfl | rfl
    · exact va_AO.of (hts _ (kt_at.mem kt_ao0))
    · exact va_AO.of (hts _ (kt_at.mem kt_ao1))
    · exact va_AO.of (hts _ (kt_at.mem kt_ao2))
    · exact va_AO.of (hts _ (kt_at.mem kt_ao3))
    · exact va_AO.of (hts _ (kt_at.mem kt_ao4))
    · exact va_AO.of (hts _ (kt_at.mem kt_ao5))
  · simp only [kt_NWs, List.mem_cons, List.not_mem_nil, or_false] at hq
    rcases hq with rfl | rfl | rfl | rfl | rfl | rfl | rfl | rfl | rfl | rfl | rfl
    · exact va_Nw.of rfl (hts _ (kt_at.mem kt_nw0))
    · exact va_Nw.of rfl (hts _ (kt_at.mem kt_nw1))
    · exact va_Nw.of rfl (hts _ (kt_at.mem kt_nw2))
    · exact va_Nw.of rfl (hts _ (kt_at.mem kt_nw3))
    · exact va_Nw.of rfl (hts _ (kt_at.mem kt_nw4))
    · exact va_Nw.of rfl (hts _ (kt_at.mem kt_nw5))
    · exact va_Nw.of rfl (hts _ (kt_at.mem kt_nw6))
    · exact va_Nw.of rfl (hts _ (kt_at.mem kt_nw7))
    · exact va_Nw.of rfl (hts _ (kt_at.mem kt_nw8))
    · exact va_Nw.of rfl (hts _ (kt_at.mem kt_nw9))
    · exact va_Nw.of rfl (hts _ (kt_at.mem kt_nw10))
end
section
set_option maxRecDepth 100000 in
theorem kt_e0 : (match kc_run kt_T 3000 0 [33] [(0, kt_S0)] [] with
  | some os => os.all (fun o => match Nat.beq o.1 33 with
    | true => kt_eqS o.2 kt_S1
    | false => decide (o.2.2.2.1 = [(1, 0, 1)]))
  | none => false) = true := by decide +kernel
set_option maxRecDepth 100000 in
theorem kt_len : kt_ns.length = 57 := by decide +kernel
end
section
set_option maxRecDepth 100000 in
theorem kt_g0 : kt_rng 0 10 = true := by decide +kernel
end
section
set_option maxRecDepth 100000 in
theorem kt_g1 : kt_rng 10 10 = true := by decide +kernel
end
section
set_option maxRecDepth 100000 in
theorem kt_g2 : kt_rng 20 9 = true := by decide +kernel
end
section
set_option maxRecDepth 100000 in
theorem kt_g3 : kt_rng 29 11 = true := by decide +kernel
end
section
set_option maxRecDepth 100000 in
theorem kt_g4 : kt_rng 40 11 = true := by decide +kernel
end
section
set_option maxRecDepth 100000 in
theorem kt_g5 : kt_rng 52 5 = true := by decide +kernel
end
section
set_option maxRecDepth 100000 in
theorem kt_k0 : (match kt_ns[51]? with
  | some q => kt_cut q (1, 3, 0) 2 0
  | none => false) = true := by decide +kernel
end
section
set_option maxRecDepth 100000 in
theorem kt_k1 : (match kt_ns[51]? with
  | some q => kt_cut q (1, 3, 0) 0 0
  | none => false) = true := by decide +kernel
end
section
set_option maxRecDepth 100000 in
theorem kt_k2 : (match kt_ns[51]? with
  | some q => kt_cut q (1, 3, 0) 0 1
  | none => false) = true := by decide +kernel
end
section
set_option maxRecDepth 100000 in
theorem kt_k3 : (match kt_ns[51]? with
  | some q => kt_cut q (1, 3, 0) 0 2
  | none => false) = true := by decide +kernel
end
section
set_option maxRecDepth 100000 in
theorem kt_k4 : (match kt_ns[51]? with
  | some q => kt_cut q (1, 3, 0) 4 2
  | none => false) = true := by decide +kernel
end
section
/-! THE CLAIM OUT OF ONE WALK OF THE LAW'S BODY. Your part is whole_start (and what it stands on); all else here is the same for every law, but numbers. -/
def R_law : String := "WheelTownLaw"
def lw_P (b : Addr) (xs : List Int32) (args : Array Value) (s : State) : Prop := args = #[.ref b] ∧ s.IntsAt b xs ∧ xs.length ≤ 6 ∧ (Jvm.Cond.and given_1 narrow_1).before args s = true
def lw_Q (_ : Array Value) (s : State) (o : Outcome) (t : State) : Prop := o = .returned (some (.int 1)) ∧ Framed s o t [] 600000 7302250
def lw_Z (below : List Frame) (a : Array Value) (s : State) : State → Prop := fun t => ∃ o, t.status = .running ∧ Ended t below o ∧ lw_Q a s o t
/-- the law's own end, with 1 on the stack, nothing written that was there before, its room as the claim has it -/
theorem lw_ret {p : Program} {l : Launch} {e : Env} {s : State} {m : MethodId} {below : List Frame} {meth : Method} {c : Code} {b : Nat} (hx : p.tables.exec = Jvm.exec) (hb : c.code = code) (hr : meth.sig.returnType = ret) (hlocks : meth.locks = false) {pc : Nat} {H : Heap} {ls : Array Slot} (hdg : decode code pc = .ok (.ireturn, 1)) : W p l e room_1 s m #[Value.ref b] below meth c H [] 600000 7302250 (lw_Z below #[Value.ref b] s) (F0 m pc ls [.int 1]) := by
  intro T hT X
  obtain ⟨fs, hret, hrun, hended, hW, hframe⟩ := X.leave (v := some (.int 1)) (hlocks := hlocks) (fun h => by rw [hr] at h; cases h)
  have hmeth' : T.vm.method? m = some meth := X.method'
  refine ⟨T.setFrames fs, ?_, .returned (some (.int 1)), hrun, hended, rfl, ⟨_, rfl⟩, hW, hframe⟩
  jvm_step X.here [X.here.top, hx, hb, hdg, hmeth', hr, ret, narrow_b1]
  (try refine ⟨rfl, ?_⟩); (try refine ⟨rfl, ?_⟩)
  first | (intro acts; rw [hret _ acts rfl rfl rfl]) | rw [hret _ _ rfl rfl rfl]
  exact Steps.refl _
/-- what holds at the law's entry: the machine, the code, the tables' words (any of lw_tbl by 'hts w (by decide +kernel)'), the script of L ints xs at the cell b, what the Statement gives of the start (any of its parts by flat_of_before) -/
def lw_At (p : Program) (s : State) (m : MethodId) (meth : Method) (c : Code) (b L : Nat) (xs : Nat → Int32) : Prop :=
  p.tables.exec = Jvm.exec ∧ c.code = code ∧ meth.sig.returnType = ret ∧ c.maxLocals = 4 ∧ s.vm.findClass R_law = some m.cls ∧ (∀ w ∈ lw_tbl, w.before #[Value.ref b] s = true) ∧ va_X b L xs s s.heap ∧ b < s.heap.size ∧ meth.locks = false ∧ (Jvm.Cond.and given_1 narrow_1).before #[Value.ref b] s = true

section KZ
variable {p : Program} {l : Launch} {e : Env} {s : State} {m : MethodId} {args : Array Value} {below : List Frame} {meth : Method} {c : Code} {Q : State → Prop}
variable {D : va_G} {A : Nat → Prop} {H0 : Heap} {nA : Nat} {ρ0 : Nat → Int} {nB : Nat} {β0 : Nat → Nat}
/-- a run that the kernel did, all whose ends are the law's with 1 -/
theorem kt_ok.J {q : Nat × kc_S} (h : kt_ok q = true) (hX : kc_Cx kt_T kt_U kt_Ts kt_AOs kt_NWs 0 p room_1 s m args meth c A H0 nA ρ0 β0) (hfin : ∀ o : Nat × kc_S, kc_Ret kt_T 0 o → o.2.2.2.1 = [(1, 0, 1)] → kc_J p l e room_1 s m args below meth c Q D kt_cl A H0 (kc_Tmi kt_T 0).1 nA ρ0 nB β0 o.1 o.2) : kc_J p l e room_1 s m args below meth c Q D kt_cl A H0 (kc_Tmi kt_T 0).1 nA ρ0 nB β0 q.1 q.2 := by
  unfold kt_ok at h
  split at h
  · rename_i os hr
    refine (kc_run.ok kt_V kt_LV kt_Ts_good 20000 0 [] [q] [] os hr p e room_1 s m args below meth c Q H0 nA ρ0 nB β0 hX (fun o ho => ?_)).1 q List.mem_cons_self
    rcases kc_run.outs 20000 0 [] [q] [] os hr (fun o h => absurd h List.not_mem_nil) o ho with h1 | h1
    · exact absurd h1 List.not_mem_nil
    · exact hfin o h1 (of_decide_eq_true (List.all_eq_true.mp h o ho))
  · cases h
theorem kt_cut.W {q : Nat × kc_S} {a : kc_V} {r : Nat} {z : Int} (h : kt_cut q a r z = true) (h1r : r ≠ 1) (hX : kc_Cx kt_T kt_U kt_Ts kt_AOs kt_NWs 0 p room_1 s m args meth c A H0 nA ρ0 β0) (hfin : ∀ o : Nat × kc_S, kc_Ret kt_T 0 o → o.2.2.2.1 = [(1, 0, 1)] → kc_J p l e room_1 s m args below meth c Q D kt_cl A H0 (kc_Tmi kt_T 0).1 nA ρ0 nB β0 o.1 o.2)
    {ρ : Nat → Int} {β : Nat → Nat} {ws : va_W} {tys : List (ClassId × FieldType)} {H : Heap} {locs : List Loc} {ls : Array Slot} {lv : List (Nat × Value)} {st : List Value} (hk : kc_ok D kt_cl A s H0 (kc_Tmi kt_T 0).1 q.2.1 q.2.2.1 q.2.2.2.1 q.2.2.2.2.1 ρ β ws tys H locs ls lv st) (hg : kc_ag nA ρ0 nB β0 q.2.1.length q.2.2.2.2.1.length ρ β) (hr : kc_rel r (ρ a.2.1 + a.2.2) (ρ 0 + z)) : W p l e room_1 s m args below meth c H locs q.2.2.2.2.2.1 q.2.2.2.2.2.2 Q (F0 m q.1 ls st) :=
  kc_J.s1 (r := r) (a := a) (b := (1, 0, z)) (fun t ht => kt_ok.J (List.all_eq_true.mp h t ht) hX hfin) hk hg h1r hr hk.2.2.2.2.1
theorem kt_rng.at {a b i : Nat} (h : kt_rng a b = true) (h1 : a ≤ i) (h2 : i < a + b) {q : Nat × kc_S} (hq : kt_ns[i]? = some q) : kt_ok q = true := by
  have h3 := List.all_eq_true.mp h (i - a) (List.mem_range.mpr (by omega))
  rw [show a + (i - a) = i by omega, hq] at h3
  exact h3
theorem kt_nsJ (hX : kc_Cx kt_T kt_U kt_Ts kt_AOs kt_NWs 0 p room_1 s m args meth c A H0 nA ρ0 β0) (hfin : ∀ o : Nat × kc_S, kc_Ret kt_T 0 o → o.2.2.2.1 = [(1, 0, 1)] → kc_J p l e room_1 s m args below meth c Q D kt_cl A H0 (kc_Tmi kt_T 0).1 nA ρ0 nB β0 o.1 o.2) : ∀ q ∈ kt_ns, kc_J p l e room_1 s m args below meth c Q D kt_cl A H0 (kc_Tmi kt_T 0).1 nA ρ0 nB β0 q.1 q.2 := by
  intro q hq
  obtain ⟨i, hi⟩ := List.getElem?_of_mem hq
  have hl : i < 57 := by rw [← kt_len]; exact (List.getElem?_eq_some_iff.mp hi).1
  by_cases h51 : i = 51
  · subst h51
    have g0 := kt_k0
    have g1 := kt_k1
    have g2 := kt_k2
    have g3 := kt_k3
    have g4 := kt_k4
    rw [hi] at g0 g1 g2 g3 g4
    intro ρ β ws tys H locs ls lv st hk hg
    have h0 := hk.2.1.2
    by_cases c0 : ρ 3 + 0 < ρ 0 + 0
    · exact kt_cut.W (a := (1, 3, 0)) (r := 2) (z := 0) g0 (by decide) hX hfin hk hg c0
    · by_cases c1 : ρ 3 + 0 = ρ 0 + 0
      · exact kt_cut.W (a := (1, 3, 0)) (r := 0) (z := 0) g1 (by decide) hX hfin hk hg c1
      · by_cases c2 : ρ 3 + 0 = ρ 0 + 1
        · exact kt_cut.W (a := (1, 3, 0)) (r := 0) (z := 1) g2 (by decide) hX hfin hk hg c2
        · by_cases c3 : ρ 3 + 0 = ρ 0 + 2
          · exact kt_cut.W (a := (1, 3, 0)) (r := 0) (z := 2) g3 (by decide) hX hfin hk hg c3
          · exact kt_cut.W (a := (1, 3, 0)) (r := 4) (z := 2) g4 (by decide) hX hfin hk hg (show ρ 0 + 2 < ρ 3 + 0 by omega)
  · refine kt_ok.J ?_ hX hfin
    by_cases b0 : i < 10
    · exact kt_rng.at kt_g0 (by omega) (by omega) hi
    by_cases b1 : i < 20
    · exact kt_rng.at kt_g1 (by omega) (by omega) hi
    by_cases b2 : i < 29
    · exact kt_rng.at kt_g2 (by omega) (by omega) hi
    by_cases b3 : i < 40
    · exact kt_rng.at kt_g3 (by omega) (by omega) hi
    by_cases b4 : i < 51
    · exact kt_rng.at kt_g4 (by omega) (by omega) hi
    by_cases b5 : i < 57
    · exact kt_rng.at kt_g5 (by omega) (by omega) hi
    omega
/-- the law, from its entry -/
theorem kt_law (hX : kc_Cx kt_T kt_U kt_Ts kt_AOs kt_NWs 0 p room_1 s m args meth c A H0 nA ρ0 β0) (hfin : ∀ o : Nat × kc_S, kc_Ret kt_T 0 o → o.2.2.2.1 = [(1, 0, 1)] → kc_J p l e room_1 s m args below meth c Q D kt_cl A H0 (kc_Tmi kt_T 0).1 nA ρ0 nB β0 o.1 o.2) : kc_J p l e room_1 s m args below meth c Q D kt_cl A H0 (kc_Tmi kt_T 0).1 nA ρ0 nB β0 0 kt_S0 := by
  have h := kt_e0
  split at h
  · rename_i os hr
    have hJ1 : kc_J p l e room_1 s m args below meth c Q D kt_cl A H0 (kc_Tmi kt_T 0).1 nA ρ0 nB β0 33 kt_S1 := by
      have hl := kt_len
      have hn := kt_nsJ (l := l) (e := e) (below := below) (Q := Q) (D := D) (nB := nB) hX hfin
      unfold kt_ns at hl hn
      split at hl
      · rename_i i n hc
        rw [hc] at hn
        dsimp only at hn
        cases hs : kc_step kt_T 0 33 i n kt_S1 with
        | none => rw [hs] at hl; cases hl
        | some ns =>
          rw [hs] at hn
          exact kc_step.ok kt_V hX hc hs hn
      · cases hl
    refine (kc_run.ok kt_V kt_LV kt_Ts_good 3000 0 [33] [(0, kt_S0)] [] os hr p e room_1 s m args below meth c Q H0 nA ρ0 nB β0 hX (fun o ho => ?_)).1 (0, kt_S0) List.mem_cons_self
    have h2 := List.all_eq_true.mp h o ho
    split at h2
    · rename_i hb
      rw [Nat.eq_of_beq_eq_true hb, kt_eqS.ok h2]
      exact hJ1
    · rename_i hb
      rcases kc_run.outs 3000 0 [33] [(0, kt_S0)] [] os hr (fun o h => absurd h List.not_mem_nil) o ho with h1 | h1
      · have h3 : o.1 = 33 := by simpa using h1
        rw [h3] at hb
        cases hb
      · exact hfin o h1 (of_decide_eq_true h2)
  · cases h
end KZ
set_option maxHeartbeats 4000000 in
/-- from the entry, for every script of at most 6 ints, the law comes to its end with true -/
theorem whole_start {p : Program} {e : Env} {s : State} {m : MethodId} {below : List Frame} {meth : Method} {c : Code} (l : Launch) {b L : Nat} {xs : Nat → Int32} (hL : L ≤ 6) (C0 : lw_At p s m meth c b L xs) : W p l e room_1 s m #[Value.ref b] below meth c s.heap [] 0 0 (lw_Z below #[Value.ref b] s) (entryFrame m ([Value.ref b] : List Value).toArray 4) := by
  obtain ⟨hx, hb, hr, hml, hown, hts, hX, hbl, hlocks, hgv⟩ := C0
  have htsT : ∀ w ∈ kt_Ts, w.before #[Value.ref b] s = true := fun w hw => hts w (List.mem_filter.mp hw).1
  have hD0 : ∀ ci : Nat, ∃ z : ClassId × (Nat → Nat), ∀ q : vw_C, kt_cl[ci]? = some q → u_Kn s q.1 q.2.1 q.2.2 z.1 z.2 := fun ci => by
    cases hq : kt_cl[ci]? with
    | none => exact ⟨(m.cls, fun _ => 0), fun q h => by cases h⟩
    | some q =>
      have h1 := (kt_V.2.1 ci q hq).1
      have hci : ci < 13 := by rw [← kt_cl_len]; exact (List.getElem?_eq_some_iff.mp hq).1
      have h := kt_rgl.ok kt_hCL hci
      unfold kt_cCL at h
      rw [hq] at h
      dsimp only at h
      rw [Bool.and_eq_true] at h
      obtain ⟨cC, iS, hKn⟩ := u_known (C := q.1) (T := q.2.1) (N := q.2.2) (n := q.2.2) htsT h1 (htsT _ (kt_in.ok h.2))
      exact ⟨(cC, iS), fun q' h' => by cases h'; exact hKn⟩
  have hK : va_K (fun ci => (Classical.choose (hD0 ci)).1, fun ci => (Classical.choose (hD0 ci)).2) kt_cl [] s := ⟨fun ci q hq => Classical.choose_spec (hD0 ci) q hq, fun k q h => by simp at h⟩
  generalize ((fun ci => (Classical.choose (hD0 ci)).1, fun ci => (Classical.choose (hD0 ci)).2) : va_G) = D at hK
  generalize hρ : (fun k => if k = 1 then (L : Int) else if 2 ≤ k ∧ k < 2 + L then (xs (k - 2)).toInt else 0 : Nat → Int) = ρ0
  have r1 : ρ0 1 = (L : Int) := by rw [← hρ]; rfl
  have r2 : ∀ j, j < L → ρ0 (2 + j) = (xs j).toInt := fun j hj => by
    rw [← hρ]
    dsimp only
    rw [if_neg (by omega), if_pos (by omega), show 2 + j - 2 = j by omega]
  have r3 : ∀ k, k ≠ 1 → -2147483648 ≤ ρ0 k ∧ ρ0 k ≤ 2147483647 := fun k hk => by
    rw [← hρ]
    dsimp only
    rw [if_neg hk]
    split
    · exact kc_i32 _
    · omega
  have r4 : ∀ k, k = 0 ∨ 8 ≤ k → ρ0 k = 0 := fun k hk => by
    rw [← hρ]
    dsimp only
    rw [if_neg (by omega), if_neg (by omega)]
  have hXX : kc_X s (fun q => s.heap.size ≤ q) s.heap 8 ρ0 (fun _ => b) := ⟨L, xs, hX, by dsimp only; omega, hbl, by omega, by omega, by omega, r1, r2⟩
  have hCx : kc_Cx kt_T kt_U kt_Ts kt_AOs kt_NWs 0 p room_1 s m #[Value.ref b] meth c (fun q => s.heap.size ≤ q) s.heap 8 ρ0 (fun _ => b) := ⟨hx, hb, hml, hown, htsT, kt_dy hts, fun h => absurd h (by decide), fun q h => h, ⟨by decide, by decide, by decide, by decide⟩, hXX⟩
  have hfin : ∀ o : Nat × kc_S, kc_Ret kt_T 0 o → o.2.2.2.1 = [(1, 0, 1)] → kc_J p l e room_1 s m #[Value.ref b] below meth c (lw_Z below #[Value.ref b] s) D kt_cl (fun q => s.heap.size ≤ q) s.heap (kc_Tmi kt_T 0).1 8 ρ0 0 (fun _ => b) o.1 o.2 := by
    intro o hR hK1
    obtain ⟨i, n, hc, hro⟩ := hR
    have hd := kt_V.1 _ _ _ _ hc
    intro ρ β ws tys H locs ls lv st hk hg
    have hst := hk.2.2.2.2.1
    have hS := hk.2.2.2.2.2.2.2.2.1
    have h0 := hk.2.1.2
    unfold kc_retok at hro
    rw [Bool.and_eq_true, Bool.and_eq_true, hK1] at hro
    obtain ⟨⟨k1, k2⟩, k3⟩ := hro
    have k1 := Nat.eq_of_beq_eq_true k1
    subst k1
    have k2 := of_decide_eq_true k2
    have hi : i = .ireturn := by
      cases i <;> first | rfl | (exfalso; revert k3; simp; done)
    subst hi
    rw [hK1] at hst
    obtain ⟨v, st', rfl, hlt, ⟨x, rfl, ex⟩, hst'⟩ := kc_stk.uncons hst
    cases st' with
    | cons _ _ => exact absurd hst' id
    | nil =>
      have hx1 : x = 1 := Int32.toInt_inj.mp (by
        dsimp only at ex
        rw [ex, h0]
        rfl)
      subst hx1
      exact W.widen (Nat.le_trans k2.1 (by decide)) (Nat.le_trans k2.2 (by decide)) (va_forget (fun q hq => hS.2.2 q hq) (lw_ret hx hb hr hlocks hd))
  have J0 := kt_law (D := D) hCx hfin
  have hl := lv_entry ([Value.ref b] : List Value) (n := 4) (Nat.le_of_ble_eq_true rfl)
  rw [lg_entry_eq]
  refine J0 ρ0 (fun _ => b) [] [] s.heap [] _ (lv_args 0 [Value.ref b]) [] ⟨fun n => ?_, ⟨by decide, r4 0 (Or.inl rfl)⟩, fun i a ha hne => ?_, hl, trivial, hK, fun k q h => by simp at h, ⟨fun i j p q h => by simp at h, fun k q h => by simp at h⟩, va_S.rf, ⟨rfl, fun k g h => by simp [kt_S0] at h⟩⟩ ⟨by decide, Nat.le_refl _, fun _ _ => rfl, fun _ _ => rfl⟩
  · match n with
    | 0 => rw [r4 0 (Or.inl rfl)]; exact ⟨by decide, by decide⟩
    | 1 => rw [r1]; exact ⟨by show (0 : Int) ≤ _; omega, by show _ ≤ (6 : Int); omega⟩
    | 2 => exact r3 2 (by decide)
    | 3 => exact r3 3 (by decide)
    | 4 => exact r3 4 (by decide)
    | 5 => exact r3 5 (by decide)
    | 6 => exact r3 6 (by decide)
    | 7 => exact r3 7 (by decide)
    | n + 8 => rw [r4 (n + 8) (Or.inr (by omega))]; exact ⟨Int.le_refl _, Int.le_refl _⟩
  · match i, ha with
    | 0, ha =>
      cases ha
      exact ⟨by decide, _, List.mem_cons_self, rfl⟩
    | 1, ha => cases ha; exact absurd rfl hne
    | 2, ha => cases ha; exact absurd rfl hne
    | 3, ha => cases ha; exact absurd rfl hne
    | n + 4, ha => exact absurd ha (by simp [kt_S0])
set_option maxHeartbeats 4000000 in
theorem lw_walk (l : Launch) (b : Addr) (xs : List Int32) : MetFree l x (headSpec (Jvm.Cond.code x code maxLocals ret :: tables_1) room_1) (lw_P b xs) (fun _ _ _ _ _ => True) lw_Q := by
  refine MetFree.of_bodyS (code := code) (maxLocals := maxLocals) (ret := ret) (by decide) ?_ ?_
  · intro args s m h hn
    obtain ⟨meth, c, h1, h2, h3, h4, h5, h6, -, -⟩ := Cond.code_spec hn (atoms_spec (ws := Jvm.Cond.code x code maxLocals ret :: tables_1) h _ List.mem_cons_self)
    exact ⟨meth, c, h1, h2, h3, h4, h5, h6⟩
  · intro p e s m args below meth c s₁ B hml0 hP _
    obtain ⟨rfl, hx, hbd, hgv⟩ := hP
    obtain ⟨scr, harrAt, hlist, hof, hsmall⟩ := hx
    obtain ⟨hcb, hkn, -, -⟩ := State.arrayAt?_spec harrAt
    have hown : s.vm.findClass R_law = some m.cls := findClass_of_methodNamed B.named
    have hts0 : ∀ c ∈ (Jvm.Cond.code x code maxLocals ret :: tables_1), c.before #[Value.ref b] s = true := atoms_spec (ws := Jvm.Cond.code x code maxLocals ret :: tables_1) B.pre
    have hts : ∀ w ∈ lw_tbl, w.before #[Value.ref b] s = true := k2_hts_sels lw_privs (fun w hw => hts0 w (List.mem_cons_of_mem _ hw)) lw_privs_ok
    have hml : c.maxLocals = 4 := B.maxLocals_eq (hts0 _ List.mem_cons_self)
    have X₀ : Stand p l e room_1 s m #[Value.ref b] below meth c s₁ [] 0 0 := Stand.of_body B
    have hh0 : s₁.heap = s.heap := by rw [B.state]; rfl
    have hsz : scr.slots.size = xs.length := by rw [← Array.length_toList, hlist, List.length_map]
    have hval : ∀ j : Nat, j < xs.length → scr.slots[j]? = some (.int (xs.getD j 0)) := fun j hj => by
      rw [← Array.getElem?_toList, hlist]
      simp [hj]
    have hbl : b < s.heap.size := (Array.getElem?_eq_some_iff.mp hcb).1
    have hX : va_X b xs.length (fun j => xs.getD j 0) s s.heap := ⟨scr, hcb, hof, hkn, hsz, hval⟩
    have K : W p l e room_1 s m #[Value.ref b] below meth c s₁.heap [] 0 0 (lw_Z below #[Value.ref b] s) (entryFrame m ([Value.ref b] : List Value).toArray 4) := by
      rw [hh0]
      exact whole_start l hbd ⟨B.exec, B.bytes, B.returns, hml, hown, hts, hX, hbl, B.notSynchronized, hgv⟩
    obtain ⟨t, a1, o, b1, b2, b3⟩ := K s₁ rfl X₀
    exact ⟨t, o, a1, b1, b2, b3⟩
theorem lw_pre_spec {args : Array Value} {s : State} (h : (Jvm.Cond.and given_1 narrow_1).before args s = true) (hr : rest_1_c.before args s = true) : ∃ (b : Addr) (xs : List Int32), lw_P b xs args s := by
  have hs := flat_of_before _ h
  have hq := flat_of_before _ hr
  have hc : (Cond.count 1).before args s = true := hs _ (by decide +kernel)
  have harr : (Cond.arrayOf (.arg 0) .int).before args s = true := hs _ (by decide +kernel)
  have hle : (Cond.le (.length (.arg 0)) (.int 6)).before args s = true := hs _ (by decide +kernel)
  have hlen : (Cond.isInt (.length (.arg 0))).before args s = true := hq _ (by decide +kernel)
  have hall : (Cond.all (.arg 0) (.isInt (.elem (.arg 0) (.index 0)))).before args s = true := hq _ (by decide +kernel)
  obtain ⟨b, xs, hb, hx⟩ := State.ints_of_pre rfl harr hlen hall
  have hsm : xs.length < 2 ^ 31 := hx.choose_spec.2.2.2
  have hev : (Term.length (.arg 0)).eval args s none [] s = some (.int xs.length.toInt32) := hx.length_eval hb
  have hv := Cond.le_ints hev (show (Term.int 6).eval args s none [] s = some (.int 6) from rfl)
  have hd : xs.length.toInt32 ≤ 6 := by
    simpa [Cond.before, Cond.holds, hv] using hle
  have hN : xs.length ≤ 6 := (Int32.ofNat_le_ofNat hsm (by decide)).mp (show Int32.ofNat xs.length ≤ Int32.ofNat 6 from hd)
  exact ⟨b, xs, Cond.one_arg hc (show args[0]? = some (.ref b) from hb), hx, hN, h⟩
theorem lw_comes (l : Launch) : Comes l x (Jvm.Cond.code x code maxLocals ret :: tables_1) room_1 (fun tb e args s => Calls_1 tb e args s ∧ rest_1 tb e args s ∧ Pre_1 tb e args s)
    (fun _ _ args s o t => lw_Q args s o t) := by
  intro p e ha hc hk s m args below hf hfit hheap happ hpre
  obtain ⟨b, xs, hP⟩ := lw_pre_spec hpre.2.2 hpre.2.1
  obtain ⟨k, o, h1, h2, h3, hQ⟩ := lw_walk l b xs p e ha hc hk s m args below hf ((Spec.applies_iff_loose hf).mp happ).1 hP trivial
  exact ⟨k, o, h1, h2, h3, hQ⟩
theorem lw_frame {s t : State} {o : Outcome} {args : Array Value} (h : Framed s o t [] 600000 7302250) :
    Framed s o t (fieldLocs frame_1_writes args s ++ arrayLocs frame_1_arrays args s ++ staticLocs frame_1_statics s) 600000 7302250 := h
theorem lw_limb (L : Cond) (hL : ∀ (args : Array Value) (s t : State), L.after args s (.returned (some (.int 1))) t = true) :
    ArmFor flags0 classFile x code maxLocals ret World_1 tables_1 room_1 Calls_1 rest_1 Pre_1
      (fun tb e a s o t => postC L tb e a s o t ∧ Framed s o t (fieldLocs frame_1_writes a s ++ arrayLocs frame_1_arrays a s ++ staticLocs frame_1_statics s) 600000 7302250) := by
  intro l _ _ _ p e ha hc hk s m args below hf hfit hheap happ hpre
  obtain ⟨k, o, h1, h2, h3, rfl, hF⟩ := lw_comes l p e ha hc hk s m args below hf hfit hheap happ hpre
  exact ⟨k, _, h1, h2, h3, hL args s _, lw_frame hF⟩
theorem i_vc : Claimed_1_1 ∧ Claimed_1_2 := ⟨lw_limb limb_1_1 (fun args s t => by simp [limb_1_1, Cond.after, Cond.holds, Cond.value]), lw_limb limb_1_2 (fun args s t => Cond.after_iff.mpr (by
  first | (rw [show limb_1_2 = Cond.eq .result (.int 1) from rfl, Cond.eq_ints (x := 1) (y := 1) rfl rfl]; simp; done) | (simp [limb_1_2, Cond.value, Term.eval]; done)))⟩
end
