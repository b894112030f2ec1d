section
-- ===== PART A: goes FIRST, ahead of the names: the tables' words, and 'selects' of the private methods out of them =====
/-- a private method of a class that the tables say can be made, by its rows of tables_1 -/
def lw_okq (q : MethodName × Nat) : Prop := (q.1.cls ≠ "java/lang/invoke/MethodHandle" ∧ q.1.cls ≠ "java/lang/invoke/VarHandle") ∧ Cond.instantiable q.1.cls q.2 ∈ tables_1 ∧ Cond.privateMethod q.1 ∈ tables_1 ∧ Cond.instanceMethod q.1 ∈ tables_1
theorem lw_p0 : lw_okq (⟨"WheelTown", "putBytes", "(I)V"⟩, 16) := ⟨⟨by decide +kernel, by decide +kernel⟩, List.mem_of_getElem? (i := 23) (by decide +kernel), List.mem_of_getElem? (i := 521) (by decide +kernel), List.mem_of_getElem? (i := 522) (by decide +kernel)⟩
theorem lw_p1 : lw_okq (⟨"WheelTown", "lookAnew", "()V"⟩, 16) := ⟨⟨by decide +kernel, by decide +kernel⟩, List.mem_of_getElem? (i := 23) (by decide +kernel), List.mem_of_getElem? (i := 706) (by decide +kernel), List.mem_of_getElem? (i := 707) (by decide +kernel)⟩
theorem lw_p2 : lw_okq (⟨"WheelTown", "isMeter", "(I)Z"⟩, 16) := ⟨⟨by decide +kernel, by decide +kernel⟩, List.mem_of_getElem? (i := 23) (by decide +kernel), List.mem_of_getElem? (i := 771) (by decide +kernel), List.mem_of_getElem? (i := 772) (by decide +kernel)⟩
theorem lw_p3 : lw_okq (⟨"WheelTown", "turnsOn", "(II)I"⟩, 16) := ⟨⟨by decide +kernel, by decide +kernel⟩, List.mem_of_getElem? (i := 23) (by decide +kernel), List.mem_of_getElem? (i := 786) (by decide +kernel), List.mem_of_getElem? (i := 787) (by decide +kernel)⟩
theorem lw_p4 : lw_okq (⟨"WheelTown", "throughOn", "(II)I"⟩, 16) := ⟨⟨by decide +kernel, by decide +kernel⟩, List.mem_of_getElem? (i := 23) (by decide +kernel), List.mem_of_getElem? (i := 790) (by decide +kernel), List.mem_of_getElem? (i := 791) (by decide +kernel)⟩
theorem lw_p5 : lw_okq (⟨"WheelTown", "tallyBy", "(II)V"⟩, 16) := ⟨⟨by decide +kernel, by decide +kernel⟩, List.mem_of_getElem? (i := 23) (by decide +kernel), List.mem_of_getElem? (i := 804) (by decide +kernel), List.mem_of_getElem? (i := 805) (by decide +kernel)⟩
theorem lw_p6 : lw_okq (⟨"WheelTown", "talliedWheel", "(II)I"⟩, 16) := ⟨⟨by decide +kernel, by decide +kernel⟩, List.mem_of_getElem? (i := 23) (by decide +kernel), List.mem_of_getElem? (i := 814) (by decide +kernel), List.mem_of_getElem? (i := 815) (by decide +kernel)⟩
theorem lw_p7 : lw_okq (⟨"WheelTown", "tell", "(IIII)I"⟩, 16) := ⟨⟨by decide +kernel, by decide +kernel⟩, List.mem_of_getElem? (i := 23) (by decide +kernel), List.mem_of_getElem? (i := 833) (by decide +kernel), List.mem_of_getElem? (i := 834) (by decide +kernel)⟩
theorem lw_p8 : lw_okq (⟨"WheelTown", "forgetReadings", "()V"⟩, 16) := ⟨⟨by decide +kernel, by decide +kernel⟩, List.mem_of_getElem? (i := 23) (by decide +kernel), List.mem_of_getElem? (i := 841) (by decide +kernel), List.mem_of_getElem? (i := 842) (by decide +kernel)⟩
theorem lw_p9 : lw_okq (⟨"WheelTown", "countedFrom", "(III)I"⟩, 16) := ⟨⟨by decide +kernel, by decide +kernel⟩, List.mem_of_getElem? (i := 23) (by decide +kernel), List.mem_of_getElem? (i := 881) (by decide +kernel), List.mem_of_getElem? (i := 882) (by decide +kernel)⟩
theorem lw_p10 : lw_okq (⟨"WheelTown", "leastBalance", "(III)I"⟩, 16) := ⟨⟨by decide +kernel, by decide +kernel⟩, List.mem_of_getElem? (i := 23) (by decide +kernel), List.mem_of_getElem? (i := 896) (by decide +kernel), List.mem_of_getElem? (i := 897) (by decide +kernel)⟩
theorem lw_p11 : lw_okq (⟨"WheelTown", "countedAlong", "(III)I"⟩, 16) := ⟨⟨by decide +kernel, by decide +kernel⟩, List.mem_of_getElem? (i := 23) (by decide +kernel), List.mem_of_getElem? (i := 908) (by decide +kernel), List.mem_of_getElem? (i := 909) (by decide +kernel)⟩
theorem lw_p12 : lw_okq (⟨"WheelTown", "greatestBalance", "(III)I"⟩, 16) := ⟨⟨by decide +kernel, by decide +kernel⟩, List.mem_of_getElem? (i := 23) (by decide +kernel), List.mem_of_getElem? (i := 913) (by decide +kernel), List.mem_of_getElem? (i := 914) (by decide +kernel)⟩
theorem lw_p13 : lw_okq (⟨"WheelTown", "fittingFaults", "(I)I"⟩, 16) := ⟨⟨by decide +kernel, by decide +kernel⟩, List.mem_of_getElem? (i := 23) (by decide +kernel), List.mem_of_getElem? (i := 931) (by decide +kernel), List.mem_of_getElem? (i := 932) (by decide +kernel)⟩
theorem lw_p14 : lw_okq (⟨"WheelTown", "talliedFits", "(I)Z"⟩, 16) := ⟨⟨by decide +kernel, by decide +kernel⟩, List.mem_of_getElem? (i := 23) (by decide +kernel), List.mem_of_getElem? (i := 935) (by decide +kernel), List.mem_of_getElem? (i := 936) (by decide +kernel)⟩
theorem lw_p15 : lw_okq (⟨"WheelTown", "unlikeWheels", "(II)I"⟩, 16) := ⟨⟨by decide +kernel, by decide +kernel⟩, List.mem_of_getElem? (i := 23) (by decide +kernel), List.mem_of_getElem? (i := 1021) (by decide +kernel), List.mem_of_getElem? (i := 1022) (by decide +kernel)⟩
def lw_privs_1 : List (MethodName × Nat) := [(⟨"WheelTown", "putBytes", "(I)V"⟩, 16), (⟨"WheelTown", "lookAnew", "()V"⟩, 16), (⟨"WheelTown", "isMeter", "(I)Z"⟩, 16), (⟨"WheelTown", "turnsOn", "(II)I"⟩, 16), (⟨"WheelTown", "throughOn", "(II)I"⟩, 16), (⟨"WheelTown", "tallyBy", "(II)V"⟩, 16), (⟨"WheelTown", "talliedWheel", "(II)I"⟩, 16), (⟨"WheelTown", "tell", "(IIII)I"⟩, 16), (⟨"WheelTown", "forgetReadings", "()V"⟩, 16), (⟨"WheelTown", "countedFrom", "(III)I"⟩, 16), (⟨"WheelTown", "leastBalance", "(III)I"⟩, 16), (⟨"WheelTown", "countedAlong", "(III)I"⟩, 16), (⟨"WheelTown", "greatestBalance", "(III)I"⟩, 16), (⟨"WheelTown", "fittingFaults", "(I)I"⟩, 16), (⟨"WheelTown", "talliedFits", "(I)Z"⟩, 16), (⟨"WheelTown", "unlikeWheels", "(II)I"⟩, 16)]
theorem lw_r1 : ∀ q ∈ lw_privs_1, lw_okq q := List.forall_mem_cons.mpr ⟨lw_p0, List.forall_mem_cons.mpr ⟨lw_p1, List.forall_mem_cons.mpr ⟨lw_p2, List.forall_mem_cons.mpr ⟨lw_p3, List.forall_mem_cons.mpr ⟨lw_p4, List.forall_mem_cons.mpr ⟨lw_p5, List.forall_mem_cons.mpr ⟨lw_p6, List.forall_mem_cons.mpr ⟨lw_p7, List.forall_mem_cons.mpr ⟨lw_p8, List.forall_mem_cons.mpr ⟨lw_p9, List.forall_mem_cons.mpr ⟨lw_p10, List.forall_mem_cons.mpr ⟨lw_p11, List.forall_mem_cons.mpr ⟨lw_p12, List.forall_mem_cons.mpr ⟨lw_p13, List.forall_mem_cons.mpr ⟨lw_p14, List.forall_mem_cons.mpr ⟨lw_p15, fun _ h => absurd h List.not_mem_nil⟩⟩⟩⟩⟩⟩⟩⟩⟩⟩⟩⟩⟩⟩⟩⟩
theorem lw_p16 : lw_okq (⟨"WheelTown", "isAmongShown", "(II)Z"⟩, 16) := ⟨⟨by decide +kernel, by decide +kernel⟩, List.mem_of_getElem? (i := 23) (by decide +kernel), List.mem_of_getElem? (i := 1025) (by decide +kernel), List.mem_of_getElem? (i := 1026) (by decide +kernel)⟩
theorem lw_p17 : lw_okq (⟨"WheelTown", "isWalkable", "(I)Z"⟩, 16) := ⟨⟨by decide +kernel, by decide +kernel⟩, List.mem_of_getElem? (i := 23) (by decide +kernel), List.mem_of_getElem? (i := 1037) (by decide +kernel), List.mem_of_getElem? (i := 1038) (by decide +kernel)⟩
theorem lw_p18 : lw_okq (⟨"WheelTown", "walkedPast", "(I)LWheelTown$Walks;"⟩, 16) := ⟨⟨by decide +kernel, by decide +kernel⟩, List.mem_of_getElem? (i := 23) (by decide +kernel), List.mem_of_getElem? (i := 1041) (by decide +kernel), List.mem_of_getElem? (i := 1042) (by decide +kernel)⟩
theorem lw_p19 : lw_okq (⟨"WheelTown", "wonBy", "(II)I"⟩, 16) := ⟨⟨by decide +kernel, by decide +kernel⟩, List.mem_of_getElem? (i := 23) (by decide +kernel), List.mem_of_getElem? (i := 1149) (by decide +kernel), List.mem_of_getElem? (i := 1150) (by decide +kernel)⟩
theorem lw_p20 : lw_okq (⟨"WheelTown", "nightFlow", "(II)I"⟩, 16) := ⟨⟨by decide +kernel, by decide +kernel⟩, List.mem_of_getElem? (i := 23) (by decide +kernel), List.mem_of_getElem? (i := 1166) (by decide +kernel), List.mem_of_getElem? (i := 1167) (by decide +kernel)⟩
theorem lw_p21 : lw_okq (⟨"WheelTown", "loudness", "(II)I"⟩, 16) := ⟨⟨by decide +kernel, by decide +kernel⟩, List.mem_of_getElem? (i := 23) (by decide +kernel), List.mem_of_getElem? (i := 1179) (by decide +kernel), List.mem_of_getElem? (i := 1180) (by decide +kernel)⟩
theorem lw_p22 : lw_okq (⟨"WheelTown", "burstBehind", "(II)I"⟩, 16) := ⟨⟨by decide +kernel, by decide +kernel⟩, List.mem_of_getElem? (i := 23) (by decide +kernel), List.mem_of_getElem? (i := 1196) (by decide +kernel), List.mem_of_getElem? (i := 1197) (by decide +kernel)⟩
theorem lw_p23 : lw_okq (⟨"WheelTown", "usedUnder", "(II)I"⟩, 16) := ⟨⟨by decide +kernel, by decide +kernel⟩, List.mem_of_getElem? (i := 23) (by decide +kernel), List.mem_of_getElem? (i := 1210) (by decide +kernel), List.mem_of_getElem? (i := 1211) (by decide +kernel)⟩
theorem lw_p24 : lw_okq (⟨"WheelTown", "vacantDays", "(III)I"⟩, 16) := ⟨⟨by decide +kernel, by decide +kernel⟩, List.mem_of_getElem? (i := 23) (by decide +kernel), List.mem_of_getElem? (i := 1218) (by decide +kernel), List.mem_of_getElem? (i := 1219) (by decide +kernel)⟩
theorem lw_p25 : lw_okq (⟨"WheelTown", "errorOf", "(I)I"⟩, 16) := ⟨⟨by decide +kernel, by decide +kernel⟩, List.mem_of_getElem? (i := 23) (by decide +kernel), List.mem_of_getElem? (i := 1231) (by decide +kernel), List.mem_of_getElem? (i := 1232) (by decide +kernel)⟩
theorem lw_p26 : lw_okq (⟨"WheelTown", "offBy", "(II)I"⟩, 16) := ⟨⟨by decide +kernel, by decide +kernel⟩, List.mem_of_getElem? (i := 23) (by decide +kernel), List.mem_of_getElem? (i := 1239) (by decide +kernel), List.mem_of_getElem? (i := 1240) (by decide +kernel)⟩
theorem lw_p27 : lw_okq (⟨"WheelTown", "offEitherWay", "(II)I"⟩, 16) := ⟨⟨by decide +kernel, by decide +kernel⟩, List.mem_of_getElem? (i := 23) (by decide +kernel), List.mem_of_getElem? (i := 1247) (by decide +kernel), List.mem_of_getElem? (i := 1248) (by decide +kernel)⟩
theorem lw_p28 : lw_okq (⟨"WheelTown", "rowsHeld", "()I"⟩, 16) := ⟨⟨by decide +kernel, by decide +kernel⟩, List.mem_of_getElem? (i := 23) (by decide +kernel), List.mem_of_getElem? (i := 1276) (by decide +kernel), List.mem_of_getElem? (i := 1277) (by decide +kernel)⟩
theorem lw_p29 : lw_okq (⟨"WheelTownModel", "four", "(I)V"⟩, 70) := ⟨⟨by decide +kernel, by decide +kernel⟩, List.mem_of_getElem? (i := 1339) (by decide +kernel), List.mem_of_getElem? (i := 1584) (by decide +kernel), List.mem_of_getElem? (i := 1585) (by decide +kernel)⟩
theorem lw_p30 : lw_okq (⟨"WheelTownModel", "begins", "()V"⟩, 70) := ⟨⟨by decide +kernel, by decide +kernel⟩, List.mem_of_getElem? (i := 1339) (by decide +kernel), List.mem_of_getElem? (i := 1600) (by decide +kernel), List.mem_of_getElem? (i := 1601) (by decide +kernel)⟩
theorem lw_p31 : lw_okq (⟨"WheelTownModel", "next", "()V"⟩, 70) := ⟨⟨by decide +kernel, by decide +kernel⟩, List.mem_of_getElem? (i := 1339) (by decide +kernel), List.mem_of_getElem? (i := 1604) (by decide +kernel), List.mem_of_getElem? (i := 1605) (by decide +kernel)⟩
def lw_privs_2 : List (MethodName × Nat) := [(⟨"WheelTown", "isAmongShown", "(II)Z"⟩, 16), (⟨"WheelTown", "isWalkable", "(I)Z"⟩, 16), (⟨"WheelTown", "walkedPast", "(I)LWheelTown$Walks;"⟩, 16), (⟨"WheelTown", "wonBy", "(II)I"⟩, 16), (⟨"WheelTown", "nightFlow", "(II)I"⟩, 16), (⟨"WheelTown", "loudness", "(II)I"⟩, 16), (⟨"WheelTown", "burstBehind", "(II)I"⟩, 16), (⟨"WheelTown", "usedUnder", "(II)I"⟩, 16), (⟨"WheelTown", "vacantDays", "(III)I"⟩, 16), (⟨"WheelTown", "errorOf", "(I)I"⟩, 16), (⟨"WheelTown", "offBy", "(II)I"⟩, 16), (⟨"WheelTown", "offEitherWay", "(II)I"⟩, 16), (⟨"WheelTown", "rowsHeld", "()I"⟩, 16), (⟨"WheelTownModel", "four", "(I)V"⟩, 70), (⟨"WheelTownModel", "begins", "()V"⟩, 70), (⟨"WheelTownModel", "next", "()V"⟩, 70)]
theorem lw_r2 : ∀ q ∈ lw_privs_2, lw_okq q := List.forall_mem_cons.mpr ⟨lw_p16, List.forall_mem_cons.mpr ⟨lw_p17, List.forall_mem_cons.mpr ⟨lw_p18, List.forall_mem_cons.mpr ⟨lw_p19, List.forall_mem_cons.mpr ⟨lw_p20, List.forall_mem_cons.mpr ⟨lw_p21, List.forall_mem_cons.mpr ⟨lw_p22, List.forall_mem_cons.mpr ⟨lw_p23, List.forall_mem_cons.mpr ⟨lw_p24, List.forall_mem_cons.mpr ⟨lw_p25, List.forall_mem_cons.mpr ⟨lw_p26, List.forall_mem_cons.mpr ⟨lw_p27, List.forall_mem_cons.mpr ⟨lw_p28, List.forall_mem_cons.mpr ⟨lw_p29, List.forall_mem_cons.mpr ⟨lw_p30, List.forall_mem_cons.mpr ⟨lw_p31, fun _ h => absurd h List.not_mem_nil⟩⟩⟩⟩⟩⟩⟩⟩⟩⟩⟩⟩⟩⟩⟩⟩
theorem lw_p32 : lw_okq (⟨"WheelTownModel", "isByte", "(III)Z"⟩, 70) := ⟨⟨by decide +kernel, by decide +kernel⟩, List.mem_of_getElem? (i := 1339) (by decide +kernel), List.mem_of_getElem? (i := 1608) (by decide +kernel), List.mem_of_getElem? (i := 1609) (by decide +kernel)⟩
theorem lw_p33 : lw_okq (⟨"WheelTownModel", "isGood", "()Z"⟩, 70) := ⟨⟨by decide +kernel, by decide +kernel⟩, List.mem_of_getElem? (i := 1339) (by decide +kernel), List.mem_of_getElem? (i := 1617) (by decide +kernel), List.mem_of_getElem? (i := 1618) (by decide +kernel)⟩
theorem lw_p34 : lw_okq (⟨"WheelTownModel", "line", "()V"⟩, 70) := ⟨⟨by decide +kernel, by decide +kernel⟩, List.mem_of_getElem? (i := 1339) (by decide +kernel), List.mem_of_getElem? (i := 1621) (by decide +kernel), List.mem_of_getElem? (i := 1622) (by decide +kernel)⟩
theorem lw_p35 : lw_okq (⟨"WheelTownModel", "is", "(J)Z"⟩, 70) := ⟨⟨by decide +kernel, by decide +kernel⟩, List.mem_of_getElem? (i := 1339) (by decide +kernel), List.mem_of_getElem? (i := 1626) (by decide +kernel), List.mem_of_getElem? (i := 1627) (by decide +kernel)⟩
theorem lw_p36 : lw_okq (⟨"WheelTownModel", "fails", "(I)V"⟩, 70) := ⟨⟨by decide +kernel, by decide +kernel⟩, List.mem_of_getElem? (i := 1339) (by decide +kernel), List.mem_of_getElem? (i := 1635) (by decide +kernel), List.mem_of_getElem? (i := 1636) (by decide +kernel)⟩
theorem lw_p37 : lw_okq (⟨"WheelTownModel", "meterLine", "()V"⟩, 70) := ⟨⟨by decide +kernel, by decide +kernel⟩, List.mem_of_getElem? (i := 1339) (by decide +kernel), List.mem_of_getElem? (i := 1639) (by decide +kernel), List.mem_of_getElem? (i := 1640) (by decide +kernel)⟩
theorem lw_p38 : lw_okq (⟨"WheelTownModel", "number", "(JII)I"⟩, 70) := ⟨⟨by decide +kernel, by decide +kernel⟩, List.mem_of_getElem? (i := 1339) (by decide +kernel), List.mem_of_getElem? (i := 1644) (by decide +kernel), List.mem_of_getElem? (i := 1645) (by decide +kernel)⟩
theorem lw_p39 : lw_okq (⟨"WheelTownModel", "asks", "(J)V"⟩, 70) := ⟨⟨by decide +kernel, by decide +kernel⟩, List.mem_of_getElem? (i := 1339) (by decide +kernel), List.mem_of_getElem? (i := 1648) (by decide +kernel), List.mem_of_getElem? (i := 1649) (by decide +kernel)⟩
theorem lw_p40 : lw_okq (⟨"WheelTownModel", "takes", "(J)Z"⟩, 70) := ⟨⟨by decide +kernel, by decide +kernel⟩, List.mem_of_getElem? (i := 1339) (by decide +kernel), List.mem_of_getElem? (i := 1652) (by decide +kernel), List.mem_of_getElem? (i := 1653) (by decide +kernel)⟩
theorem lw_p41 : lw_okq (⟨"WheelTownModel", "number", "(II)I"⟩, 70) := ⟨⟨by decide +kernel, by decide +kernel⟩, List.mem_of_getElem? (i := 1339) (by decide +kernel), List.mem_of_getElem? (i := 1656) (by decide +kernel), List.mem_of_getElem? (i := 1657) (by decide +kernel)⟩
theorem lw_p42 : lw_okq (⟨"WheelTownModel", "kindTold", "()I"⟩, 70) := ⟨⟨by decide +kernel, by decide +kernel⟩, List.mem_of_getElem? (i := 1339) (by decide +kernel), List.mem_of_getElem? (i := 1667) (by decide +kernel), List.mem_of_getElem? (i := 1668) (by decide +kernel)⟩
theorem lw_p43 : lw_okq (⟨"WheelTownModel", "leakLine", "()V"⟩, 70) := ⟨⟨by decide +kernel, by decide +kernel⟩, List.mem_of_getElem? (i := 1339) (by decide +kernel), List.mem_of_getElem? (i := 1677) (by decide +kernel), List.mem_of_getElem? (i := 1678) (by decide +kernel)⟩
theorem lw_p44 : lw_okq (⟨"WheelTownModel", "hanging", "()I"⟩, 70) := ⟨⟨by decide +kernel, by decide +kernel⟩, List.mem_of_getElem? (i := 1339) (by decide +kernel), List.mem_of_getElem? (i := 1681) (by decide +kernel), List.mem_of_getElem? (i := 1682) (by decide +kernel)⟩
theorem lw_p45 : lw_okq (⟨"WheelTownModel", "flushLine", "()V"⟩, 70) := ⟨⟨by decide +kernel, by decide +kernel⟩, List.mem_of_getElem? (i := 1339) (by decide +kernel), List.mem_of_getElem? (i := 1687) (by decide +kernel), List.mem_of_getElem? (i := 1688) (by decide +kernel)⟩
theorem lw_p46 : lw_okq (⟨"WheelTownModel", "emptyLine", "()V"⟩, 70) := ⟨⟨by decide +kernel, by decide +kernel⟩, List.mem_of_getElem? (i := 1339) (by decide +kernel), List.mem_of_getElem? (i := 1693) (by decide +kernel), List.mem_of_getElem? (i := 1694) (by decide +kernel)⟩
theorem lw_p47 : lw_okq (⟨"WheelTownModel", "courtLine", "()V"⟩, 70) := ⟨⟨by decide +kernel, by decide +kernel⟩, List.mem_of_getElem? (i := 1339) (by decide +kernel), List.mem_of_getElem? (i := 1699) (by decide +kernel), List.mem_of_getElem? (i := 1700) (by decide +kernel)⟩
def lw_privs_3 : List (MethodName × Nat) := [(⟨"WheelTownModel", "isByte", "(III)Z"⟩, 70), (⟨"WheelTownModel", "isGood", "()Z"⟩, 70), (⟨"WheelTownModel", "line", "()V"⟩, 70), (⟨"WheelTownModel", "is", "(J)Z"⟩, 70), (⟨"WheelTownModel", "fails", "(I)V"⟩, 70), (⟨"WheelTownModel", "meterLine", "()V"⟩, 70), (⟨"WheelTownModel", "number", "(JII)I"⟩, 70), (⟨"WheelTownModel", "asks", "(J)V"⟩, 70), (⟨"WheelTownModel", "takes", "(J)Z"⟩, 70), (⟨"WheelTownModel", "number", "(II)I"⟩, 70), (⟨"WheelTownModel", "kindTold", "()I"⟩, 70), (⟨"WheelTownModel", "leakLine", "()V"⟩, 70), (⟨"WheelTownModel", "hanging", "()I"⟩, 70), (⟨"WheelTownModel", "flushLine", "()V"⟩, 70), (⟨"WheelTownModel", "emptyLine", "()V"⟩, 70), (⟨"WheelTownModel", "courtLine", "()V"⟩, 70)]
theorem lw_r3 : ∀ q ∈ lw_privs_3, lw_okq q := List.forall_mem_cons.mpr ⟨lw_p32, List.forall_mem_cons.mpr ⟨lw_p33, List.forall_mem_cons.mpr ⟨lw_p34, List.forall_mem_cons.mpr ⟨lw_p35, List.forall_mem_cons.mpr ⟨lw_p36, List.forall_mem_cons.mpr ⟨lw_p37, List.forall_mem_cons.mpr ⟨lw_p38, List.forall_mem_cons.mpr ⟨lw_p39, List.forall_mem_cons.mpr ⟨lw_p40, List.forall_mem_cons.mpr ⟨lw_p41, List.forall_mem_cons.mpr ⟨lw_p42, List.forall_mem_cons.mpr ⟨lw_p43, List.forall_mem_cons.mpr ⟨lw_p44, List.forall_mem_cons.mpr ⟨lw_p45, List.forall_mem_cons.mpr ⟨lw_p46, List.forall_mem_cons.mpr ⟨lw_p47, fun _ h => absurd h List.not_mem_nil⟩⟩⟩⟩⟩⟩⟩⟩⟩⟩⟩⟩⟩⟩⟩⟩
theorem lw_p48 : lw_okq (⟨"WheelTownModel", "tariffLine", "()V"⟩, 70) := ⟨⟨by decide +kernel, by decide +kernel⟩, List.mem_of_getElem? (i := 1339) (by decide +kernel), List.mem_of_getElem? (i := 1705) (by decide +kernel), List.mem_of_getElem? (i := 1706) (by decide +kernel)⟩
theorem lw_p49 : lw_okq (⟨"WheelTownModel", "ends", "()V"⟩, 70) := ⟨⟨by decide +kernel, by decide +kernel⟩, List.mem_of_getElem? (i := 1339) (by decide +kernel), List.mem_of_getElem? (i := 1713) (by decide +kernel), List.mem_of_getElem? (i := 1714) (by decide +kernel)⟩
theorem lw_p50 : lw_okq (⟨"WheelTownModel", "isOver", "()V"⟩, 70) := ⟨⟨by decide +kernel, by decide +kernel⟩, List.mem_of_getElem? (i := 1339) (by decide +kernel), List.mem_of_getElem? (i := 1717) (by decide +kernel), List.mem_of_getElem? (i := 1718) (by decide +kernel)⟩
theorem lw_p51 : lw_okq (⟨"WheelTownModel", "copyTown", "(II)V"⟩, 70) := ⟨⟨by decide +kernel, by decide +kernel⟩, List.mem_of_getElem? (i := 1339) (by decide +kernel), List.mem_of_getElem? (i := 1721) (by decide +kernel), List.mem_of_getElem? (i := 1722) (by decide +kernel)⟩
theorem lw_p52 : lw_okq (⟨"WheelTownModel", "isMeter", "(I)Z"⟩, 70) := ⟨⟨by decide +kernel, by decide +kernel⟩, List.mem_of_getElem? (i := 1339) (by decide +kernel), List.mem_of_getElem? (i := 1729) (by decide +kernel), List.mem_of_getElem? (i := 1730) (by decide +kernel)⟩
theorem lw_p53 : lw_okq (⟨"WheelTownModel", "flows", "(IZ)V"⟩, 70) := ⟨⟨by decide +kernel, by decide +kernel⟩, List.mem_of_getElem? (i := 1339) (by decide +kernel), List.mem_of_getElem? (i := 1737) (by decide +kernel), List.mem_of_getElem? (i := 1738) (by decide +kernel)⟩
theorem lw_p54 : lw_okq (⟨"WheelTownModel", "ownOf", "(II)I"⟩, 70) := ⟨⟨by decide +kernel, by decide +kernel⟩, List.mem_of_getElem? (i := 1339) (by decide +kernel), List.mem_of_getElem? (i := 1741) (by decide +kernel), List.mem_of_getElem? (i := 1742) (by decide +kernel)⟩
theorem lw_p55 : lw_okq (⟨"WheelTownModel", "isEmptyOn", "(II)Z"⟩, 70) := ⟨⟨by decide +kernel, by decide +kernel⟩, List.mem_of_getElem? (i := 1339) (by decide +kernel), List.mem_of_getElem? (i := 1745) (by decide +kernel), List.mem_of_getElem? (i := 1746) (by decide +kernel)⟩
theorem lw_p56 : lw_okq (⟨"WheelTownModel", "leaksAt", "(IIZ)I"⟩, 70) := ⟨⟨by decide +kernel, by decide +kernel⟩, List.mem_of_getElem? (i := 1339) (by decide +kernel), List.mem_of_getElem? (i := 1754) (by decide +kernel), List.mem_of_getElem? (i := 1755) (by decide +kernel)⟩
theorem lw_p57 : lw_okq (⟨"WheelTownModel", "turnedBy", "(IIII)I"⟩, 70) := ⟨⟨by decide +kernel, by decide +kernel⟩, List.mem_of_getElem? (i := 1339) (by decide +kernel), List.mem_of_getElem? (i := 1763) (by decide +kernel), List.mem_of_getElem? (i := 1764) (by decide +kernel)⟩
theorem lw_p58 : lw_okq (⟨"WheelTownModel", "wheelOf", "(II)I"⟩, 70) := ⟨⟨by decide +kernel, by decide +kernel⟩, List.mem_of_getElem? (i := 1339) (by decide +kernel), List.mem_of_getElem? (i := 1771) (by decide +kernel), List.mem_of_getElem? (i := 1772) (by decide +kernel)⟩
theorem lw_p59 : lw_okq (⟨"WheelTownModel", "goesTo", "(I)V"⟩, 70) := ⟨⟨by decide +kernel, by decide +kernel⟩, List.mem_of_getElem? (i := 1339) (by decide +kernel), List.mem_of_getElem? (i := 1775) (by decide +kernel), List.mem_of_getElem? (i := 1776) (by decide +kernel)⟩
theorem lw_p60 : lw_okq (⟨"WheelTownModel", "begins0", "()V"⟩, 70) := ⟨⟨by decide +kernel, by decide +kernel⟩, List.mem_of_getElem? (i := 1339) (by decide +kernel), List.mem_of_getElem? (i := 1779) (by decide +kernel), List.mem_of_getElem? (i := 1780) (by decide +kernel)⟩
theorem lw_p61 : lw_okq (⟨"WheelTownModel", "turnsAll", "(I)V"⟩, 70) := ⟨⟨by decide +kernel, by decide +kernel⟩, List.mem_of_getElem? (i := 1339) (by decide +kernel), List.mem_of_getElem? (i := 1783) (by decide +kernel), List.mem_of_getElem? (i := 1784) (by decide +kernel)⟩
theorem lw_p62 : lw_okq (⟨"WheelTownModel", "wheelNow", "(II)I"⟩, 70) := ⟨⟨by decide +kernel, by decide +kernel⟩, List.mem_of_getElem? (i := 1339) (by decide +kernel), List.mem_of_getElem? (i := 1787) (by decide +kernel), List.mem_of_getElem? (i := 1788) (by decide +kernel)⟩
theorem lw_p63 : lw_okq (⟨"WheelTownModel", "ring", "(I)I"⟩, 70) := ⟨⟨by decide +kernel, by decide +kernel⟩, List.mem_of_getElem? (i := 1339) (by decide +kernel), List.mem_of_getElem? (i := 1791) (by decide +kernel), List.mem_of_getElem? (i := 1792) (by decide +kernel)⟩
def lw_privs_4 : List (MethodName × Nat) := [(⟨"WheelTownModel", "tariffLine", "()V"⟩, 70), (⟨"WheelTownModel", "ends", "()V"⟩, 70), (⟨"WheelTownModel", "isOver", "()V"⟩, 70), (⟨"WheelTownModel", "copyTown", "(II)V"⟩, 70), (⟨"WheelTownModel", "isMeter", "(I)Z"⟩, 70), (⟨"WheelTownModel", "flows", "(IZ)V"⟩, 70), (⟨"WheelTownModel", "ownOf", "(II)I"⟩, 70), (⟨"WheelTownModel", "isEmptyOn", "(II)Z"⟩, 70), (⟨"WheelTownModel", "leaksAt", "(IIZ)I"⟩, 70), (⟨"WheelTownModel", "turnedBy", "(IIII)I"⟩, 70), (⟨"WheelTownModel", "wheelOf", "(II)I"⟩, 70), (⟨"WheelTownModel", "goesTo", "(I)V"⟩, 70), (⟨"WheelTownModel", "begins0", "()V"⟩, 70), (⟨"WheelTownModel", "turnsAll", "(I)V"⟩, 70), (⟨"WheelTownModel", "wheelNow", "(II)I"⟩, 70), (⟨"WheelTownModel", "ring", "(I)I"⟩, 70)]
theorem lw_r4 : ∀ q ∈ lw_privs_4, lw_okq q := List.forall_mem_cons.mpr ⟨lw_p48, List.forall_mem_cons.mpr ⟨lw_p49, List.forall_mem_cons.mpr ⟨lw_p50, List.forall_mem_cons.mpr ⟨lw_p51, List.forall_mem_cons.mpr ⟨lw_p52, List.forall_mem_cons.mpr ⟨lw_p53, List.forall_mem_cons.mpr ⟨lw_p54, List.forall_mem_cons.mpr ⟨lw_p55, List.forall_mem_cons.mpr ⟨lw_p56, List.forall_mem_cons.mpr ⟨lw_p57, List.forall_mem_cons.mpr ⟨lw_p58, List.forall_mem_cons.mpr ⟨lw_p59, List.forall_mem_cons.mpr ⟨lw_p60, List.forall_mem_cons.mpr ⟨lw_p61, List.forall_mem_cons.mpr ⟨lw_p62, List.forall_mem_cons.mpr ⟨lw_p63, fun _ h => absurd h List.not_mem_nil⟩⟩⟩⟩⟩⟩⟩⟩⟩⟩⟩⟩⟩⟩⟩⟩
theorem lw_p64 : lw_okq (⟨"WheelTownModel", "tells", "(IIII)I"⟩, 70) := ⟨⟨by decide +kernel, by decide +kernel⟩, List.mem_of_getElem? (i := 1339) (by decide +kernel), List.mem_of_getElem? (i := 1809) (by decide +kernel), List.mem_of_getElem? (i := 1810) (by decide +kernel)⟩
theorem lw_p65 : lw_okq (⟨"WheelTownModel", "isSeen", "(II)Z"⟩, 70) := ⟨⟨by decide +kernel, by decide +kernel⟩, List.mem_of_getElem? (i := 1339) (by decide +kernel), List.mem_of_getElem? (i := 1833) (by decide +kernel), List.mem_of_getElem? (i := 1834) (by decide +kernel)⟩
theorem lw_p66 : lw_okq (⟨"WheelTownModel", "between", "(III)I"⟩, 70) := ⟨⟨by decide +kernel, by decide +kernel⟩, List.mem_of_getElem? (i := 1339) (by decide +kernel), List.mem_of_getElem? (i := 1837) (by decide +kernel), List.mem_of_getElem? (i := 1838) (by decide +kernel)⟩
theorem lw_p67 : lw_okq (⟨"WheelTownModel", "leastOf", "(III)I"⟩, 70) := ⟨⟨by decide +kernel, by decide +kernel⟩, List.mem_of_getElem? (i := 1339) (by decide +kernel), List.mem_of_getElem? (i := 1848) (by decide +kernel), List.mem_of_getElem? (i := 1849) (by decide +kernel)⟩
theorem lw_p68 : lw_okq (⟨"WheelTownModel", "countedFrom", "(III)I"⟩, 70) := ⟨⟨by decide +kernel, by decide +kernel⟩, List.mem_of_getElem? (i := 1339) (by decide +kernel), List.mem_of_getElem? (i := 1852) (by decide +kernel), List.mem_of_getElem? (i := 1853) (by decide +kernel)⟩
theorem lw_p69 : lw_okq (⟨"WheelTownModel", "greatestOf", "(III)I"⟩, 70) := ⟨⟨by decide +kernel, by decide +kernel⟩, List.mem_of_getElem? (i := 1339) (by decide +kernel), List.mem_of_getElem? (i := 1856) (by decide +kernel), List.mem_of_getElem? (i := 1857) (by decide +kernel)⟩
theorem lw_p70 : lw_okq (⟨"WheelTownModel", "ownIn", "(III)I"⟩, 70) := ⟨⟨by decide +kernel, by decide +kernel⟩, List.mem_of_getElem? (i := 1339) (by decide +kernel), List.mem_of_getElem? (i := 1864) (by decide +kernel), List.mem_of_getElem? (i := 1865) (by decide +kernel)⟩
theorem lw_p71 : lw_okq (⟨"WheelTownModel", "fitsAll", "()V"⟩, 70) := ⟨⟨by decide +kernel, by decide +kernel⟩, List.mem_of_getElem? (i := 1339) (by decide +kernel), List.mem_of_getElem? (i := 1872) (by decide +kernel), List.mem_of_getElem? (i := 1873) (by decide +kernel)⟩
theorem lw_p72 : lw_okq (⟨"WheelTownModel", "canFit", "()Z"⟩, 70) := ⟨⟨by decide +kernel, by decide +kernel⟩, List.mem_of_getElem? (i := 1339) (by decide +kernel), List.mem_of_getElem? (i := 1880) (by decide +kernel), List.mem_of_getElem? (i := 1881) (by decide +kernel)⟩
theorem lw_p73 : lw_okq (⟨"WheelTownModel", "unlikesAt", "(I)V"⟩, 70) := ⟨⟨by decide +kernel, by decide +kernel⟩, List.mem_of_getElem? (i := 1339) (by decide +kernel), List.mem_of_getElem? (i := 1904) (by decide +kernel), List.mem_of_getElem? (i := 1905) (by decide +kernel)⟩
theorem lw_p74 : lw_okq (⟨"WheelTownModel", "supposes", "(I)V"⟩, 70) := ⟨⟨by decide +kernel, by decide +kernel⟩, List.mem_of_getElem? (i := 1339) (by decide +kernel), List.mem_of_getElem? (i := 1916) (by decide +kernel), List.mem_of_getElem? (i := 1917) (by decide +kernel)⟩
theorem lw_p75 : lw_okq (⟨"WheelTownModel", "plains", "()V"⟩, 70) := ⟨⟨by decide +kernel, by decide +kernel⟩, List.mem_of_getElem? (i := 1339) (by decide +kernel), List.mem_of_getElem? (i := 1920) (by decide +kernel), List.mem_of_getElem? (i := 1921) (by decide +kernel)⟩
theorem lw_p76 : lw_okq (⟨"WheelTownModel", "fitsWith", "(IZ)Z"⟩, 70) := ⟨⟨by decide +kernel, by decide +kernel⟩, List.mem_of_getElem? (i := 1339) (by decide +kernel), List.mem_of_getElem? (i := 1924) (by decide +kernel), List.mem_of_getElem? (i := 1925) (by decide +kernel)⟩
theorem lw_p77 : lw_okq (⟨"WheelTownModel", "supposedFits", "()Z"⟩, 70) := ⟨⟨by decide +kernel, by decide +kernel⟩, List.mem_of_getElem? (i := 1339) (by decide +kernel), List.mem_of_getElem? (i := 1928) (by decide +kernel), List.mem_of_getElem? (i := 1929) (by decide +kernel)⟩
theorem lw_p78 : lw_okq (⟨"WheelTownModel", "isAbove", "(II)Z"⟩, 70) := ⟨⟨by decide +kernel, by decide +kernel⟩, List.mem_of_getElem? (i := 1339) (by decide +kernel), List.mem_of_getElem? (i := 1932) (by decide +kernel), List.mem_of_getElem? (i := 1933) (by decide +kernel)⟩
theorem lw_p79 : lw_okq (⟨"WheelTownModel", "notes", "()V"⟩, 70) := ⟨⟨by decide +kernel, by decide +kernel⟩, List.mem_of_getElem? (i := 1339) (by decide +kernel), List.mem_of_getElem? (i := 1936) (by decide +kernel), List.mem_of_getElem? (i := 1937) (by decide +kernel)⟩
def lw_privs_5 : List (MethodName × Nat) := [(⟨"WheelTownModel", "tells", "(IIII)I"⟩, 70), (⟨"WheelTownModel", "isSeen", "(II)Z"⟩, 70), (⟨"WheelTownModel", "between", "(III)I"⟩, 70), (⟨"WheelTownModel", "leastOf", "(III)I"⟩, 70), (⟨"WheelTownModel", "countedFrom", "(III)I"⟩, 70), (⟨"WheelTownModel", "greatestOf", "(III)I"⟩, 70), (⟨"WheelTownModel", "ownIn", "(III)I"⟩, 70), (⟨"WheelTownModel", "fitsAll", "()V"⟩, 70), (⟨"WheelTownModel", "canFit", "()Z"⟩, 70), (⟨"WheelTownModel", "unlikesAt", "(I)V"⟩, 70), (⟨"WheelTownModel", "supposes", "(I)V"⟩, 70), (⟨"WheelTownModel", "plains", "()V"⟩, 70), (⟨"WheelTownModel", "fitsWith", "(IZ)Z"⟩, 70), (⟨"WheelTownModel", "supposedFits", "()Z"⟩, 70), (⟨"WheelTownModel", "isAbove", "(II)Z"⟩, 70), (⟨"WheelTownModel", "notes", "()V"⟩, 70)]
theorem lw_r5 : ∀ q ∈ lw_privs_5, lw_okq q := List.forall_mem_cons.mpr ⟨lw_p64, List.forall_mem_cons.mpr ⟨lw_p65, List.forall_mem_cons.mpr ⟨lw_p66, List.forall_mem_cons.mpr ⟨lw_p67, List.forall_mem_cons.mpr ⟨lw_p68, List.forall_mem_cons.mpr ⟨lw_p69, List.forall_mem_cons.mpr ⟨lw_p70, List.forall_mem_cons.mpr ⟨lw_p71, List.forall_mem_cons.mpr ⟨lw_p72, List.forall_mem_cons.mpr ⟨lw_p73, List.forall_mem_cons.mpr ⟨lw_p74, List.forall_mem_cons.mpr ⟨lw_p75, List.forall_mem_cons.mpr ⟨lw_p76, List.forall_mem_cons.mpr ⟨lw_p77, List.forall_mem_cons.mpr ⟨lw_p78, List.forall_mem_cons.mpr ⟨lw_p79, fun _ h => absurd h List.not_mem_nil⟩⟩⟩⟩⟩⟩⟩⟩⟩⟩⟩⟩⟩⟩⟩⟩
theorem lw_p80 : lw_okq (⟨"WheelTownModel", "isSet", "(I)Z"⟩, 70) := ⟨⟨by decide +kernel, by decide +kernel⟩, List.mem_of_getElem? (i := 1339) (by decide +kernel), List.mem_of_getElem? (i := 1948) (by decide +kernel), List.mem_of_getElem? (i := 1949) (by decide +kernel)⟩
theorem lw_p81 : lw_okq (⟨"WheelTownModel", "walks", "()V"⟩, 70) := ⟨⟨by decide +kernel, by decide +kernel⟩, List.mem_of_getElem? (i := 1339) (by decide +kernel), List.mem_of_getElem? (i := 1952) (by decide +kernel), List.mem_of_getElem? (i := 1953) (by decide +kernel)⟩
theorem lw_p82 : lw_okq (⟨"WheelTownModel", "minutes", "(II)I"⟩, 70) := ⟨⟨by decide +kernel, by decide +kernel⟩, List.mem_of_getElem? (i := 1339) (by decide +kernel), List.mem_of_getElem? (i := 1956) (by decide +kernel), List.mem_of_getElem? (i := 1957) (by decide +kernel)⟩
theorem lw_p83 : lw_okq (⟨"WheelTownModel", "backs", "()V"⟩, 70) := ⟨⟨by decide +kernel, by decide +kernel⟩, List.mem_of_getElem? (i := 1339) (by decide +kernel), List.mem_of_getElem? (i := 1964) (by decide +kernel), List.mem_of_getElem? (i := 1965) (by decide +kernel)⟩
theorem lw_p84 : lw_okq (⟨"WheelTownModel", "onFrom", "(II)I"⟩, 70) := ⟨⟨by decide +kernel, by decide +kernel⟩, List.mem_of_getElem? (i := 1339) (by decide +kernel), List.mem_of_getElem? (i := 1968) (by decide +kernel), List.mem_of_getElem? (i := 1969) (by decide +kernel)⟩
theorem lw_p85 : lw_okq (⟨"WheelTownModel", "billOf", "(JI)I"⟩, 70) := ⟨⟨by decide +kernel, by decide +kernel⟩, List.mem_of_getElem? (i := 1339) (by decide +kernel), List.mem_of_getElem? (i := 1981) (by decide +kernel), List.mem_of_getElem? (i := 1982) (by decide +kernel)⟩
theorem lw_p86 : lw_okq (⟨"WheelTownModel", "billedOf", "(III)I"⟩, 70) := ⟨⟨by decide +kernel, by decide +kernel⟩, List.mem_of_getElem? (i := 1339) (by decide +kernel), List.mem_of_getElem? (i := 1990) (by decide +kernel), List.mem_of_getElem? (i := 1991) (by decide +kernel)⟩
theorem lw_p87 : lw_okq (⟨"WheelTownModel", "readingAt", "(II)I"⟩, 70) := ⟨⟨by decide +kernel, by decide +kernel⟩, List.mem_of_getElem? (i := 1339) (by decide +kernel), List.mem_of_getElem? (i := 1994) (by decide +kernel), List.mem_of_getElem? (i := 1995) (by decide +kernel)⟩
theorem lw_p88 : lw_okq (⟨"WheelTownModel", "wonBy", "(II)I"⟩, 70) := ⟨⟨by decide +kernel, by decide +kernel⟩, List.mem_of_getElem? (i := 1339) (by decide +kernel), List.mem_of_getElem? (i := 2006) (by decide +kernel), List.mem_of_getElem? (i := 2007) (by decide +kernel)⟩
theorem lw_p89 : lw_okq (⟨"WheelTownModel", "nightOf", "(II)I"⟩, 70) := ⟨⟨by decide +kernel, by decide +kernel⟩, List.mem_of_getElem? (i := 1339) (by decide +kernel), List.mem_of_getElem? (i := 2019) (by decide +kernel), List.mem_of_getElem? (i := 2020) (by decide +kernel)⟩
theorem lw_p90 : lw_okq (⟨"WheelTownModel", "burstOf", "(II)I"⟩, 70) := ⟨⟨by decide +kernel, by decide +kernel⟩, List.mem_of_getElem? (i := 1339) (by decide +kernel), List.mem_of_getElem? (i := 2027) (by decide +kernel), List.mem_of_getElem? (i := 2028) (by decide +kernel)⟩
theorem lw_p91 : lw_okq (⟨"WheelTownModel", "offOf", "(II)I"⟩, 70) := ⟨⟨by decide +kernel, by decide +kernel⟩, List.mem_of_getElem? (i := 1339) (by decide +kernel), List.mem_of_getElem? (i := 2043) (by decide +kernel), List.mem_of_getElem? (i := 2044) (by decide +kernel)⟩
theorem lw_p92 : lw_okq (⟨"WheelTownModel", "loudAt", "(II)I"⟩, 70) := ⟨⟨by decide +kernel, by decide +kernel⟩, List.mem_of_getElem? (i := 1339) (by decide +kernel), List.mem_of_getElem? (i := 2092) (by decide +kernel), List.mem_of_getElem? (i := 2093) (by decide +kernel)⟩
theorem lw_p93 : lw_okq (⟨"WheelTownModel", "copyReadings", "(II)V"⟩, 70) := ⟨⟨by decide +kernel, by decide +kernel⟩, List.mem_of_getElem? (i := 1339) (by decide +kernel), List.mem_of_getElem? (i := 2117) (by decide +kernel), List.mem_of_getElem? (i := 2118) (by decide +kernel)⟩
def lw_privs_6 : List (MethodName × Nat) := [(⟨"WheelTownModel", "isSet", "(I)Z"⟩, 70), (⟨"WheelTownModel", "walks", "()V"⟩, 70), (⟨"WheelTownModel", "minutes", "(II)I"⟩, 70), (⟨"WheelTownModel", "backs", "()V"⟩, 70), (⟨"WheelTownModel", "onFrom", "(II)I"⟩, 70), (⟨"WheelTownModel", "billOf", "(JI)I"⟩, 70), (⟨"WheelTownModel", "billedOf", "(III)I"⟩, 70), (⟨"WheelTownModel", "readingAt", "(II)I"⟩, 70), (⟨"WheelTownModel", "wonBy", "(II)I"⟩, 70), (⟨"WheelTownModel", "nightOf", "(II)I"⟩, 70), (⟨"WheelTownModel", "burstOf", "(II)I"⟩, 70), (⟨"WheelTownModel", "offOf", "(II)I"⟩, 70), (⟨"WheelTownModel", "loudAt", "(II)I"⟩, 70), (⟨"WheelTownModel", "copyReadings", "(II)V"⟩, 70)]
theorem lw_r6 : ∀ q ∈ lw_privs_6, lw_okq q := List.forall_mem_cons.mpr ⟨lw_p80, List.forall_mem_cons.mpr ⟨lw_p81, List.forall_mem_cons.mpr ⟨lw_p82, List.forall_mem_cons.mpr ⟨lw_p83, List.forall_mem_cons.mpr ⟨lw_p84, List.forall_mem_cons.mpr ⟨lw_p85, List.forall_mem_cons.mpr ⟨lw_p86, List.forall_mem_cons.mpr ⟨lw_p87, List.forall_mem_cons.mpr ⟨lw_p88, List.forall_mem_cons.mpr ⟨lw_p89, List.forall_mem_cons.mpr ⟨lw_p90, List.forall_mem_cons.mpr ⟨lw_p91, List.forall_mem_cons.mpr ⟨lw_p92, List.forall_mem_cons.mpr ⟨lw_p93, fun _ h => absurd h List.not_mem_nil⟩⟩⟩⟩⟩⟩⟩⟩⟩⟩⟩⟩⟩⟩
def lw_privs : List (MethodName × Nat) := lw_privs_1 ++ (lw_privs_2 ++ (lw_privs_3 ++ (lw_privs_4 ++ (lw_privs_5 ++ (lw_privs_6)))))
def lw_tbl : List Cond := k2_sels lw_privs ++ tables_1
theorem lw_privs_ok : ∀ q ∈ lw_privs, lw_okq q := by
  show ∀ q ∈ lw_privs_1 ++ (lw_privs_2 ++ (lw_privs_3 ++ (lw_privs_4 ++ (lw_privs_5 ++ (lw_privs_6))))), lw_okq q
  exact List.forall_mem_append.mpr ⟨lw_r1, List.forall_mem_append.mpr ⟨lw_r2, List.forall_mem_append.mpr ⟨lw_r3, List.forall_mem_append.mpr ⟨lw_r4, List.forall_mem_append.mpr ⟨lw_r5, lw_r6⟩⟩⟩⟩⟩
end
section
def va_AOA (ty : FieldType) (U : State) : Prop := (Cond.arrayOver (.array ty)).before #[] U = true
theorem va_AOA.use {ty : FieldType} {A : Array Value} {U : State} (h : va_AOA ty U) : (Cond.arrayOver (.array ty)).before A U = true := h
/-! ===== BEGIN new T[n][m]: the outer array a place, the inner ones among the pooled ===== -/
/-- f, but v at every address of l -/
def vr_up {α : Type} (f : Nat → α) (l : List Nat) (v : α) : Nat → α := fun a => if a ∈ l then v else f a
theorem vr_up_in {α : Type} {f : Nat → α} {l : List Nat} {v : α} {a : Nat} (h : a ∈ l) : vr_up f l v a = v := if_pos h
theorem vr_up_ne {α : Type} {f : Nat → α} {l : List Nat} {v : α} {a : Nat} (h : a ∉ l) : vr_up f l v a = f a := if_neg h
theorem vr_rows {L l : List Nat} {f : Nat → va_E} {e : va_E} (h : ∀ a, a ∈ l → a ∉ L) : va_pl L f ++ l.map (fun a => (a, e)) = va_pl (L ++ l) (vr_up f l e) := by
  unfold va_pl
  rw [List.map_append]
  congr 1
  · apply List.map_congr_left
    intro a ha
    rw [vr_up_ne (fun q => h a q ha)]
  · apply List.map_congr_left
    intro a ha
    rw [vr_up_in ha]
theorem vr_lay {X rows : va_W} {x : Nat × va_E} {pl : va_W} {D : va_G} {cl : List vw_C} {H : Heap} (hP : va_P D cl (((X ++ pl) ++ [x]) ++ rows) H) : va_P D cl ((X ++ [x]) ++ (pl ++ rows)) H := by
  rw [List.append_assoc (X ++ pl)] at hP
  have h := va_P.swap hP
  rw [← List.append_assoc X] at h
  have h2 := va_P.swap h
  rw [List.append_assoc (X ++ [x])] at h2
  exact h2
theorem vr_layD {X rows : va_W} {x : Nat × va_E} {pl : va_W} {A : Nat → Prop} (hD : va_D A (((X ++ pl) ++ [x]) ++ rows)) : va_D A ((X ++ [x]) ++ (pl ++ rows)) := by
  rw [List.append_assoc (X ++ pl)] at hD
  have h := va_D.swap hD
  rw [← List.append_assoc X] at h
  have h2 := va_D.swap h
  rw [List.append_assoc (X ++ [x])] at h2
  exact h2
theorem vr_outer (c : ClassId) (N h0 : Nat) : ∀ i : Nat, Jvm.Free.Multi.outerC c N h0 i = arrV c N (fun j => va_rf (if j < i then some (h0 + 1 + j) else none))
  | 0 => by
    show ({ cls := c, slots := Array.replicate N .null, vm := .none } : Cell) = _
    rw [arrV_new]
    refine congrArg (arrV c N) (funext fun j => ?_)
    simp [va_rf]
  | i + 1 => by
    show (Jvm.Free.Multi.outerC c N h0 i).setSlot i (.ref (h0 + 1 + i)) = _
    rw [vr_outer c N h0 i, arrV_store]
    refine congrArg (arrV c N) (funext fun j => ?_)
    by_cases e : j = i
    · subst e
      simp [updV, va_rf]
    · by_cases h : j < i
      · simp [updV, e, h, Nat.lt_succ_of_lt h]
      · simp [updV, e, h, show ¬ j < i + 1 by omega]
section VGM
variable {p : Program} {l : Launch} {e : Env} {R : Room} {s : State} {m : MethodId} {args : Array Value} {below : List Frame} {meth : Method} {c : Code} {H : Heap} {locs : List Loc} {cells slots : Nat} {Q : State → Prop}
variable {cc : ByteArray} {pc : Nat} {ls : Array Slot} {rest : List Value} {D : va_G} {cl : List vw_C} {A : Nat → Prop} {a : Nat} {tys : List (ClassId × FieldType)} {ws : va_W} {H0 : Heap}
theorem va_mna {X : va_W} {L : List Nat} {f : Nat → va_E} {cc : ByteArray} (hexec : p.tables.exec = Jvm.exec) (hb : c.code = cc) {own : String} {index : Nat} {ty : FieldType} {cy : ClassId} (hown : s.vm.findClass own = some m.cls) (hclink : (Cond.classLink own index ("[" ++ (FieldType.array ty).toString)).before args s = true) (hover : va_AOA ty s) (harr : (Cond.arrayClass ty).before args s = true) (hcy : s.vm.findClass (FieldType.array ty).toString = some cy)
    (hK : va_K D cl tys s) (hP : va_P D cl (X ++ va_pl L f) H) (hD : va_D A (X ++ va_pl L f)) (hS : va_S A H0 H locs) (hA : ∀ q, H0.size ≤ q → A q) {n k : Int32} {N' K' : Nat} {z : vp_A} (hn : ¬ n < 0) (hk : ¬ k < 0) (hN : n.toNatClampNeg = N') (hM : k.toNatClampNeg = K')
    (hb1 : N' * 4 ≤ 536870912) (hb2 : K' * componentBytes ty ≤ 536870912) (hb3 : K' ≤ 536870912) (hdf : fits ty (defaultValue ty) = true) (hdd : (defaultValue ty).isDefault = true) (hcells : cells + (1 + N') ≤ R.cells) (hslots : slots + (N' + N' * K') ≤ R.slots) (hz : ∀ c : ClassId, Jvm.Free.Multi.innerC c K' (defaultValue ty) = vp_cell c z) (hdg : decode cc pc = .ok (.multianewarray index 2, 4))
    (kk : ∀ (q : Nat) (r : Nat → Nat) (cA : ClassId) (H1 : Heap), (∀ i j : Nat, i < N' → j < N' → r i = r j → i = j) → (∀ i : Nat, i < N' → r i ∉ L) → va_K D cl (tys ++ [(cA, .array ty)]) s →
      va_P D cl ((X ++ [(q, .inl (cA, N', .inr (.inr (.inr (.inr (fun i => if i < N' then some (r i) else none))))))]) ++ va_pl (L ++ (List.range N').map r) (vr_up f ((List.range N').map r) (.inl (cy, z)))) H1 → va_D A ((X ++ [(q, .inl (cA, N', .inr (.inr (.inr (.inr (fun i => if i < N' then some (r i) else none))))))]) ++ va_pl (L ++ (List.range N').map r) (vr_up f ((List.range N').map r) (.inl (cy, z)))) → va_S A H0 H1 locs →
      W p l e R s m args below meth c H1 locs (cells + 1 + N') (slots + N' + N' * K') Q (F0 m (pc + 4) ls (.ref q :: rest))) : W p l e R s m args below meth c H locs cells slots Q (F0 m pc ls (.int k :: .int n :: rest)) := by
  subst hN
  subst hM
  intro T hT Xs
  obtain ⟨vm₁, cA, comp, -, fA, fC, hO, -, X', step⟩ := Xs.multianewarray2F hexec hown hclink (va_AOA.use hover) harr (g := F0 m pc ls (.int k :: .int n :: rest)) rfl (by rw [hb]; exact hdg) rfl hn hk hb1 hb2 hb3 hdf hdd hcells hslots
  have ec : some cy = some comp := hcy.symm.trans fC
  cases ec
  generalize hF : Jvm.Free.Multi.fill (T.setVm vm₁) cA cy n.toNatClampNeg k.toNatClampNeg (defaultValue ty) n.toNatClampNeg = F at X' step
  have hTh : (T.setVm vm₁).heap = H := hT
  obtain ⟨f1, f2, -, -⟩ := Jvm.Free.Multi.fill_facts (T.setVm vm₁) cA cy n.toNatClampNeg k.toNatClampNeg (defaultValue ty) n.toNatClampNeg
  rw [hF, hTh] at f1 f2
  have hold : ∀ x : Nat, x < H.size → F.heap[x]? = H[x]? := fun x hx => by
    have := Jvm.Free.Multi.fill_old (T.setVm vm₁) cA cy n.toNatClampNeg k.toNatClampNeg (defaultValue ty) (a := x) (by rw [hTh]; exact hx) n.toNatClampNeg
    rw [hF, hTh] at this
    exact this
  have hrow : ∀ j : Nat, j < n.toNatClampNeg → F.heap[H.size + 1 + j]? = some (vp_cell cy z) := fun j hj => by
    have := Jvm.Free.Multi.fill_inner (T.setVm vm₁) cA cy n.toNatClampNeg k.toNatClampNeg (defaultValue ty) n.toNatClampNeg j hj
    rw [hF, hTh, hz] at this
    exact this
  have hout : Jvm.Free.Multi.outerC cA n.toNatClampNeg H.size n.toNatClampNeg = vp_cell cA (n.toNatClampNeg, .inr (.inr (.inr (.inr (fun i => if i < n.toNatClampNeg then some (H.size + 1 + i) else none))))) := by
    rw [vp_cell_q]
    exact vr_outer cA n.toNatClampNeg H.size n.toNatClampNeg
  rw [hout] at f2
  have hlt : ∀ a, a ∈ L → a < H.size := fun a ha => by
    obtain ⟨k9, hk9⟩ := va_pl_get (X := X) (f := f) ha
    exact (hP k9 _ hk9).lt
  have hnl : ∀ i : Nat, i < n.toNatClampNeg → H.size + 1 + i ∉ L := fun i _ h => by
    have := hlt _ h
    omega
  have hnm : ∀ a, a ∈ (List.range n.toNatClampNeg).map (fun i => H.size + 1 + i) → a ∉ L := fun a ha h => by
    obtain ⟨i, -, rfl⟩ := List.mem_map.mp ha
    have := hlt _ h
    omega
  have hP0 : va_P D cl (X ++ va_pl L f) F.heap := hP.kept (fun k9 x hx => hold x.1 ((hP k9 x hx).lt))
  have hP1 : va_P D cl ((X ++ va_pl L f) ++ [(H.size, .inl (cA, n.toNatClampNeg, .inr (.inr (.inr (.inr (fun i => if i < n.toNatClampNeg then some (H.size + 1 + i) else none))))))]) F.heap := hP0.app (fun k9 x hx => by
    have h0 : k9 < 1 := (List.getElem?_eq_some_iff.mp hx).1
    rw [show k9 = 0 by omega] at hx
    cases hx
    exact f2)
  have hP2 : va_P D cl (((X ++ va_pl L f) ++ [(H.size, .inl (cA, n.toNatClampNeg, .inr (.inr (.inr (.inr (fun i => if i < n.toNatClampNeg then some (H.size + 1 + i) else none))))))]) ++ ((List.range n.toNatClampNeg).map (fun i => H.size + 1 + i)).map (fun a => (a, .inl (cy, z)))) F.heap := hP1.app (fun k9 x hx => by
    obtain ⟨a, ha, rfl⟩ := List.mem_map.mp (List.mem_of_getElem? hx)
    obtain ⟨i, hi, rfl⟩ := List.mem_map.mp ha
    exact hrow i (List.mem_range.mp hi))
  have hD2 : va_D A (((X ++ va_pl L f) ++ [(H.size, .inl (cA, n.toNatClampNeg, .inr (.inr (.inr (.inr (fun i => if i < n.toNatClampNeg then some (H.size + 1 + i) else none))))))]) ++ ((List.range n.toNatClampNeg).map (fun i => H.size + 1 + i)).map (fun a => (a, .inl (cy, z)))) := by
    have hD1 := hD.push (e := .inl (cA, n.toNatClampNeg, .inr (.inr (.inr (.inr (fun i => if i < n.toNatClampNeg then some (H.size + 1 + i) else none)))))) hP rfl (hA _ hS.1)
    generalize hW1 : (X ++ va_pl L f) ++ [(H.size, .inl (cA, n.toNatClampNeg, .inr (.inr (.inr (.inr (fun i => if i < n.toNatClampNeg then some (H.size + 1 + i) else none))))))] = W1 at hD1 hP1 ⊢
    have hle : ∀ (k9 : Nat) (x : Nat × va_E), W1[k9]? = some x → x.1 ≤ H.size := fun k9 x hx => by
      rw [← hW1] at hx
      by_cases hl : k9 < (X ++ va_pl L f).length
      · rw [List.getElem?_append_left hl] at hx
        exact Nat.le_of_lt ((hP k9 x hx).lt)
      · rw [List.getElem?_append_right (by omega)] at hx
        have h0 : k9 - (X ++ va_pl L f).length < 1 := (List.getElem?_eq_some_iff.mp hx).1
        rw [show k9 - (X ++ va_pl L f).length = 0 by omega] at hx
        cases hx
        exact Nat.le_refl _
    have hr : ∀ (k9 : Nat) (x : Nat × va_E), (((List.range n.toNatClampNeg).map (fun i => H.size + 1 + i)).map (fun a => ((a, .inl (cy, z)) : Nat × va_E)))[k9]? = some x → x.1 = H.size + 1 + k9 := fun k9 x hx => by
      rw [List.getElem?_map, List.getElem?_map] at hx
      by_cases h9 : k9 < n.toNatClampNeg
      · rw [List.getElem?_range h9] at hx
        cases hx
        rfl
      · have hn0 : (List.range n.toNatClampNeg)[k9]? = none := List.getElem?_eq_none (by rw [List.length_range]; omega)
        rw [hn0] at hx
        cases hx
    refine ⟨fun i j x y hi hj hxy => ?_, fun k9 x hx => ?_⟩
    · by_cases h1 : i < W1.length <;> by_cases h2 : j < W1.length
      · rw [List.getElem?_append_left h1] at hi
        rw [List.getElem?_append_left h2] at hj
        exact hD1.1 i j x y hi hj hxy
      · rw [List.getElem?_append_left h1] at hi
        rw [List.getElem?_append_right (by omega)] at hj
        have := hle _ _ hi
        have := hr _ _ hj
        omega
      · rw [List.getElem?_append_right (by omega)] at hi
        rw [List.getElem?_append_left h2] at hj
        have := hle _ _ hj
        have := hr _ _ hi
        omega
      · rw [List.getElem?_append_right (by omega)] at hi hj
        have := hr _ _ hi
        have := hr _ _ hj
        omega
    · by_cases h1 : k9 < W1.length
      · rw [List.getElem?_append_left h1] at hx
        exact hD1.2 k9 x hx
      · rw [List.getElem?_append_right (by omega)] at hx
        have := hr _ _ hx
        exact hA _ (by have := hS.1; omega)
  have hAr : ArrOfT s cA (.array ty) := fun N9 z9 => by
    obtain ⟨-, k9, hk9, cm9, hkk9⟩ := (hO 0 0 0).1
    exact ⟨(fun q hq => by cases hq), k9, hk9, cm9, hkk9⟩
  have hK2 : va_K D cl (tys ++ [(cA, .array ty)]) s := ⟨hK.1, fun k9 x hx => by
    by_cases hl : k9 < tys.length
    · rw [List.getElem?_append_left hl] at hx
      exact hK.2 k9 x hx
    · rw [List.getElem?_append_right (by omega)] at hx
      have h0 : k9 - tys.length < 1 := (List.getElem?_eq_some_iff.mp hx).1
      rw [show k9 - tys.length = 0 by omega] at hx
      cases hx
      exact ⟨hAr, fA⟩⟩
  obtain ⟨t, a1, b1⟩ := kk H.size (fun i => H.size + 1 + i) cA F.heap (fun i j _ _ h => by have h9 : H.size + 1 + i = H.size + 1 + j := h; omega) hnl hK2 (by rw [← vr_rows hnm]; exact vr_lay hP2) (by rw [← vr_rows hnm]; exact vr_layD hD2) ⟨by rw [f1]; have := hS.1; omega, fun x h1 h2 => (hold x (Nat.lt_of_lt_of_le h1 hS.1)).trans (hS.2.1 x h1 h2), hS.2.2⟩ F rfl X'
  refine ⟨t, step t ?_, b1⟩
  have e : T.heap.size = H.size := by rw [hT]
  rw [e]
  exact a1
end VGM
/-! ===== END ===== -/
end
section
/-! ===== a symbolic executor over bytecode: a value is a symbol and an offset, symbols lie within bounds, every cell is known ===== -/
/-- a value: 1 an int, 2 a long, 3 a reference (0 for null, else the number of its cell, from 1 on), 5 the script; the symbol; the offset -/
abbrev kc_V : Type := Nat × Nat × Int
/-- what a field or a component may hold: 1, 2, 3 as above; from; to -/
abbrev kc_F : Type := Nat × Int × Int
/-- a cell: 0 an object, 1 an array of small numbers, 2 of longs, 3 of references; its class; an array's components' type, its length, what its components are, but for the first, told one by one; an object's fields -/
abbrev kc_G : Type := Nat × Nat × FieldType × Nat × kc_F × List kc_F × List kc_V
abbrev kc_E : Type := List (Int × Int)
/-- bounds, locals, stack, cells, cells made, slots made -/
abbrev kc_S : Type := kc_E × List kc_V × List kc_V × List kc_G × Nat × Nat
def kc_lo (E : kc_E) (a : kc_V) : Int := (E.getD a.2.1 (0, 0)).1 + a.2.2
def kc_hi (E : kc_E) (a : kc_V) : Int := (E.getD a.2.1 (0, 0)).2 + a.2.2
/-- a number within bounds: as a constant, if they are one -/
def kc_mk (E : kc_E) (t : Nat) (lo hi : Int) : kc_E × kc_V := if lo = hi then (E, (t, 0, lo)) else (E ++ [(lo, hi)], (t, E.length, 0))
def kc_any (E : kc_E) : kc_E × kc_V := kc_mk E 1 (-2147483648) 2147483647
def kc_anyl (E : kc_E) : kc_E × kc_V := kc_mk E 2 (-9223372036854775808) 9223372036854775807
def kc_iadd (E : kc_E) (a b : kc_V) : kc_E × kc_V :=
  if (-2147483648) ≤ kc_lo E a + kc_lo E b ∧ kc_hi E a + kc_hi E b ≤ 2147483647 then
    (if kc_lo E b = kc_hi E b then (E, (1, a.2.1, a.2.2 + kc_lo E b)) else if kc_lo E a = kc_hi E a then (E, (1, b.2.1, b.2.2 + kc_lo E a)) else kc_mk E 1 (kc_lo E a + kc_lo E b) (kc_hi E a + kc_hi E b))
  else kc_any E
def kc_isub (E : kc_E) (a b : kc_V) : kc_E × kc_V :=
  if (-2147483648) ≤ kc_lo E a - kc_hi E b ∧ kc_hi E a - kc_lo E b ≤ 2147483647 then
    (if kc_lo E b = kc_hi E b then (E, (1, a.2.1, a.2.2 - kc_lo E b)) else if a.2.1 = b.2.1 then (E, (1, 0, a.2.2 - b.2.2)) else kc_mk E 1 (kc_lo E a - kc_hi E b) (kc_hi E a - kc_lo E b))
  else kc_any E
def kc_imul (E : kc_E) (a b : kc_V) : kc_E × kc_V :=
  if 0 ≤ kc_lo E a ∧ 0 ≤ kc_lo E b ∧ kc_hi E a * kc_hi E b ≤ 2147483647 then kc_mk E 1 (kc_lo E a * kc_lo E b) (kc_hi E a * kc_hi E b) else kc_any E
def kc_idiv (E : kc_E) (a b : kc_V) : kc_E × kc_V :=
  if 0 ≤ kc_lo E a ∧ 0 < kc_lo E b then (if kc_lo E b = kc_hi E b then kc_mk E 1 (kc_lo E a / kc_lo E b) (kc_hi E a / kc_lo E b) else kc_mk E 1 0 (kc_hi E a)) else kc_any E
def kc_irem (E : kc_E) (a b : kc_V) : kc_E × kc_V :=
  if 0 ≤ kc_lo E a ∧ 0 < kc_lo E b then kc_mk E 1 0 (if kc_hi E a ≤ kc_hi E b - 1 then kc_hi E a else kc_hi E b - 1) else kc_any E
def kc_iand (E : kc_E) (a b : kc_V) : kc_E × kc_V :=
  if 0 ≤ kc_lo E b then kc_mk E 1 0 (kc_hi E b) else if 0 ≤ kc_lo E a then kc_mk E 1 0 (kc_hi E a) else kc_any E
/-- constants are worked out, all else may be anything -/
def kc_con (f : Int32 → Int32 → Int32) (E : kc_E) (a b : kc_V) : kc_E × kc_V :=
  if kc_lo E a = kc_hi E a ∧ kc_lo E b = kc_hi E b then (E, (1, 0, (f (Int32.ofInt (kc_lo E a)) (Int32.ofInt (kc_lo E b))).toInt)) else kc_any E
/-- two ints on the stack, one comes -/
def kc_b32 (i : Instr) (E : kc_E) (a b : kc_V) : Option (kc_E × kc_V) := match i with
  | .iadd => some (kc_iadd E a b)
  | .isub => some (kc_isub E a b)
  | .imul => some (kc_imul E a b)
  | .idiv => if 0 < kc_lo E b ∨ kc_hi E b < 0 then some (kc_idiv E a b) else none
  | .irem => if 0 < kc_lo E b ∨ kc_hi E b < 0 then some (kc_irem E a b) else none
  | .iand => some (kc_iand E a b)
  | .ior => some (kc_con (· ||| ·) E a b)
  | .ixor => some (kc_con (· ^^^ ·) E a b)
  | .ishl => some (kc_con (fun x y => x <<< (y &&& 31)) E a b)
  | .ishr => some (kc_con (fun x y => x >>> (y &&& 31)) E a b)
  | .iushr => some (kc_con (fun x y => (x.toUInt32 >>> (y.toUInt32 &&& Int32.toUInt32 31)).toInt32) E a b)
  | _ => none
def kc_load (L : List kc_V) (t i : Nat) : Option kc_V := match L[i]? with
  | some a => if a.1 = t then some a else none
  | none => none
def kc_loadr (L : List kc_V) (i : Nat) : Option kc_V := match L[i]? with
  | some a => if a.1 = 3 ∨ a.1 = 5 then some a else none
  | none => none
/-- a local is written; a long that reached into it is gone -/
def kc_st1 (L : List kc_V) (i : Nat) (a : kc_V) : List kc_V := (match i with
  | 0 => L
  | j + 1 => match L[j]? with
    | some b => if b.1 = 2 then L.set j (0, 0, 0) else L
    | none => L).set i a
def kc_len : Instr → Nat
  | .iload _ => 2 | .lload _ => 2 | .aload _ => 2 | .istore _ => 2 | .lstore _ => 2 | .astore _ => 2
  | .bipush _ => 2 | .sipush _ => 3 | .iinc _ _ => 3
  | _ => 1
def kc_nz (E : kc_E) (b : kc_V) : Bool := decide (0 < kc_lo E b ∨ kc_hi E b < 0)
/-- two longs on the stack -/
def kc_isb64 (i : Instr) (E : kc_E) (b : kc_V) : Bool := match i with
  | .ladd => true | .lsub => true | .lmul => true | .land => true | .lor => true | .lxor => true
  | .ldiv => kc_nz E b | .lrem => kc_nz E b
  | _ => false
/-- an instruction that touches no cell -/
def kc_x1 (nL : Nat) (i : Instr) (E : kc_E) (L K : List kc_V) : Option (kc_E × List kc_V × List kc_V) := match i with
  | .iconst n => if -2147483648 ≤ n ∧ n ≤ 2147483647 then some (E, L, (1, 0, n) :: K) else none
  | .bipush n => if -128 ≤ n ∧ n ≤ 127 then some (E, L, (1, 0, n) :: K) else none
  | .sipush n => if -32768 ≤ n ∧ n ≤ 32767 then some (E, L, (1, 0, n) :: K) else none
  | .lconst n => some (E, L, (2, 0, ((n : Nat) : Int)) :: K)
  | .aconst_null => some (E, L, (3, 0, 0) :: K)
  | .iload j => (kc_load L 1 j).map fun a => (E, L, a :: K)
  | .iload_n j => (kc_load L 1 j).map fun a => (E, L, a :: K)
  | .lload j => (kc_load L 2 j).map fun a => (E, L, a :: K)
  | .lload_n j => (kc_load L 2 j).map fun a => (E, L, a :: K)
  | .aload j => (kc_loadr L j).map fun a => (E, L, a :: K)
  | .aload_n j => (kc_loadr L j).map fun a => (E, L, a :: K)
  | .istore j => match K with
    | (1, n, d) :: K' => if j < nL then some (E, kc_st1 L j (1, n, d), K') else none
    | _ => none
  | .istore_n j => match K with
    | (1, n, d) :: K' => if j < nL then some (E, kc_st1 L j (1, n, d), K') else none
    | _ => none
  | .astore j => match K with
    | (3, n, d) :: K' => if j < nL then some (E, kc_st1 L j (3, n, d), K') else none
    | _ => none
  | .astore_n j => match K with
    | (3, n, d) :: K' => if j < nL then some (E, kc_st1 L j (3, n, d), K') else none
    | _ => none
  | .lstore j => match K with
    | (2, n, d) :: K' => if j + 1 < nL then some (E, (kc_st1 L j (2, n, d)).set (j + 1) (0, 0, 0), K') else none
    | _ => none
  | .lstore_n j => match K with
    | (2, n, d) :: K' => if j + 1 < nL then some (E, (kc_st1 L j (2, n, d)).set (j + 1) (0, 0, 0), K') else none
    | _ => none
  | .iinc j n => if j < nL ∧ -2147483648 ≤ n ∧ n ≤ 2147483647 then (kc_load L 1 j).map fun a => ((kc_iadd E a (1, 0, n)).1, kc_st1 L j (kc_iadd E a (1, 0, n)).2, K) else none
  | .pop => match K with
    | a :: K' => if a.1 ≠ 2 then some (E, L, K') else none
    | _ => none
  | .dup => match K with
    | a :: K' => if a.1 ≠ 2 then some (E, L, a :: a :: K') else none
    | _ => none
  | .dup_x1 => match K with
    | a :: b :: K' => if a.1 ≠ 2 ∧ b.1 ≠ 2 then some (E, L, a :: b :: a :: K') else none
    | _ => none
  | .dup_x2 => match K with
    | a :: b :: d :: K' => if a.1 ≠ 2 ∧ b.1 ≠ 2 ∧ d.1 ≠ 2 then some (E, L, a :: b :: d :: a :: K') else none
    | _ => none
  | .dup2 => match K with
    | a :: b :: K' => if a.1 = 2 then some (E, L, a :: a :: b :: K') else if b.1 ≠ 2 then some (E, L, a :: b :: a :: b :: K') else none
    | _ => none
  | .ineg => match K with
    | (1, n, d) :: K' => some ((kc_isub E (1, 0, 0) (1, n, d)).1, L, (kc_isub E (1, 0, 0) (1, n, d)).2 :: K')
    | _ => none
  | .i2l => match K with
    | (1, n, d) :: K' => some (E, L, (2, n, d) :: K')
    | _ => none
  | .l2i => match K with
    | (2, n, d) :: K' => if -2147483648 ≤ kc_lo E (2, n, d) ∧ kc_hi E (2, n, d) ≤ 2147483647 then some (E, L, (1, n, d) :: K') else some ((kc_any E).1, L, (kc_any E).2 :: K')
    | _ => none
  | .i2b => match K with
    | (1, n, d) :: K' => some ((kc_mk E 1 (-128) 127).1, L, (kc_mk E 1 (-128) 127).2 :: K')
    | _ => none
  | .i2s => match K with
    | (1, n, d) :: K' => some ((kc_mk E 1 (-32768) 32767).1, L, (kc_mk E 1 (-32768) 32767).2 :: K')
    | _ => none
  | .lneg => match K with
    | (2, _, _) :: K' => some ((kc_anyl E).1, L, (kc_anyl E).2 :: K')
    | _ => none
  | .lshl => match K with
    | (1, _, _) :: (2, _, _) :: K' => some ((kc_anyl E).1, L, (kc_anyl E).2 :: K')
    | _ => none
  | .lshr => match K with
    | (1, _, _) :: (2, _, _) :: K' => some ((kc_anyl E).1, L, (kc_anyl E).2 :: K')
    | _ => none
  | .lushr => match K with
    | (1, _, _) :: (2, _, _) :: K' => some ((kc_anyl E).1, L, (kc_anyl E).2 :: K')
    | _ => none
  | i => match K with
    | (1, n2, d2) :: (1, n1, d1) :: K' => (kc_b32 i E (1, n1, d1) (1, n2, d2)).map fun r => (r.1, L, r.2 :: K')
    | (2, n2, d2) :: (2, _, _) :: K' => if kc_isb64 i E (2, n2, d2) = true then some ((kc_anyl E).1, L, (kc_anyl E).2 :: K') else none
    | _ => none
/-- a symbol's bounds, narrowed -/
def kc_ref (E : kc_E) (a : kc_V) (lo hi : Int) : kc_E := E.set a.2.1 (if (E.getD a.2.1 (0, 0)).1 ≤ lo - a.2.2 then lo - a.2.2 else (E.getD a.2.1 (0, 0)).1, if hi - a.2.2 ≤ (E.getD a.2.1 (0, 0)).2 then hi - a.2.2 else (E.getD a.2.1 (0, 0)).2)
def kc_emp (E : kc_E) (a : kc_V) : Bool := decide ((E.getD a.2.1 (0, 0)).2 < (E.getD a.2.1 (0, 0)).1)
def kc_dead (r : Nat) (a b : kc_V) : Bool := decide (a.2.1 = b.2.1) && match r with
  | 0 => decide (a.2.2 ≠ b.2.2) | 2 => decide (b.2.2 ≤ a.2.2) | 3 => decide (a.2.2 < b.2.2) | 4 => decide (a.2.2 ≤ b.2.2) | _ => decide (b.2.2 < a.2.2)
def kc_cn (r : Nat) (E : kc_E) (a b : kc_V) : kc_E := match r with
  | 0 => kc_ref (kc_ref E a (kc_lo E b) (kc_hi E b)) b (kc_lo E a) (kc_hi E a)
  | 2 => kc_ref (kc_ref E a (kc_lo E a) (kc_hi E b - 1)) b (kc_lo E a + 1) (kc_hi E b)
  | 3 => kc_ref (kc_ref E a (kc_lo E b) (kc_hi E a)) b (kc_lo E b) (kc_hi E a)
  | 4 => kc_ref (kc_ref E a (kc_lo E b + 1) (kc_hi E a)) b (kc_lo E b) (kc_hi E a - 1)
  | _ => kc_ref (kc_ref E a (kc_lo E a) (kc_hi E b)) b (kc_lo E a) (kc_hi E b)
abbrev kc_N : Type := Nat × kc_E × List kc_V
/-- where a comparison leads, if it can -/
def kc_s1 (r tgt : Nat) (E : kc_E) (a b : kc_V) (K : List kc_V) : List kc_N := if (kc_emp (kc_cn r E a b) a || kc_emp (kc_cn r E a b) b || kc_dead r a b) = true then [] else [(tgt, kc_cn r E a b, K)]
def kc_sc (r tgt : Nat) (E : kc_E) (a b : kc_V) (K : List kc_V) : List kc_N := if r = 1 then kc_s1 2 tgt E a b K ++ kc_s1 4 tgt E a b K else kc_s1 r tgt E a b K
def kc_neg (r : Nat) : Nat := match r with
  | 0 => 1 | 1 => 0 | 2 => 3 | 3 => 2 | 4 => 5 | _ => 4
def kc_code (q : Jvm.ClassFile.Cond) : Nat := match q with
  | .eq => 0 | .ne => 1 | .lt => 2 | .ge => 3 | .gt => 4 | .le => 5
/-- a switch's cases from k on -/
def kc_tab (pc : Nat) (E : kc_E) (a : kc_V) (K : List kc_V) : Int → List Int → List kc_N
  | _, [] => []
  | k, o :: os => kc_s1 0 ((pc : Int) + o).toNat E a (1, 0, k) K ++ kc_tab pc E a K (k + 1) os
def kc_lks (pc : Nat) (E : kc_E) (a : kc_V) (K : List kc_V) : List (Int × Int) → List kc_N
  | [] => []
  | o :: os => kc_s1 0 ((pc : Int) + o.2).toNat E a (1, 0, o.1) K ++ kc_lks pc E a K os
def kc_up (pc : Nat) (o : Int) : Bool := decide (0 ≤ (pc : Int) + o)
/-- .. and none of them -/
def kc_lkn (tgt : Nat) (E : kc_E) (a : kc_V) (K : List kc_V) : List (Int × Int) → List kc_N
  | [] => [(tgt, E, K)]
  | o :: os => (kc_sc 1 tgt E a (1, 0, o.1) K).flatMap (fun q => kc_lkn tgt q.2.1 a K os)
/-- an instruction that goes elsewhere -/
def kc_x2 (i : Instr) (pc : Nat) (E : kc_E) (K : List kc_V) : Option (List kc_N) := match i with
  | .goto o => if kc_up pc o = true then some [(((pc : Int) + o).toNat, E, K)] else none
  | .ifCond q o => match K with
    | (1, n, d) :: K' => if kc_up pc o = true then some (kc_sc (kc_code q) ((pc : Int) + o).toNat E (1, n, d) (1, 0, 0) K' ++ kc_sc (kc_neg (kc_code q)) (pc + 3) E (1, n, d) (1, 0, 0) K') else none
    | _ => none
  | .if_icmp q o => match K with
    | (1, n2, d2) :: (1, n1, d1) :: K' => if kc_up pc o = true then some (kc_sc (kc_code q) ((pc : Int) + o).toNat E (1, n1, d1) (1, n2, d2) K' ++ kc_sc (kc_neg (kc_code q)) (pc + 3) E (1, n1, d1) (1, n2, d2) K') else none
    | _ => none
  | .ifnull o => match K with
    | (3, n, d) :: K' => if kc_up pc o = true then some (kc_s1 0 ((pc : Int) + o).toNat E (3, n, d) (3, 0, 0) K' ++ kc_s1 4 (pc + 3) E (3, n, d) (3, 0, 0) K') else none
    | _ => none
  | .ifnonnull o => match K with
    | (3, n, d) :: K' => if kc_up pc o = true then some (kc_s1 4 ((pc : Int) + o).toNat E (3, n, d) (3, 0, 0) K' ++ kc_s1 0 (pc + 3) E (3, n, d) (3, 0, 0) K') else none
    | _ => none
  | .tableswitch o lo hi os => match K with
    | (1, n, d) :: K' => if (kc_up pc o && os.toList.all (kc_up pc) && decide ((os.size : Int) = hi - lo + 1)) = true then some (kc_tab pc E (1, n, d) K' lo os.toList ++ (kc_s1 2 ((pc : Int) + o).toNat E (1, n, d) (1, 0, lo) K' ++ kc_s1 4 ((pc : Int) + o).toNat E (1, n, d) (1, 0, hi) K')) else none
    | _ => none
  | .lookupswitch o ps => match K with
    | (1, n, d) :: K' => if (kc_up pc o && ps.toList.all (fun q => kc_up pc q.2) && (ps.toList.zip (ps.toList.drop 1)).all (fun (a, next) => a.1 < next.1)) = true then some (kc_lks pc E (1, n, d) K' ps.toList ++ kc_lkn ((pc : Int) + o).toNat E (1, n, d) K' ps.toList) else none
    | _ => none
  | _ => none
/-- two longs compared, and a jump by it -/
def kc_x3 (j : Instr) (pc : Nat) (E : kc_E) (K : List kc_V) : Option (List kc_N) := match j with
  | .ifCond q o => match K with
    | (2, n2, d2) :: (2, n1, d1) :: K' => if kc_up (pc + 1) o = true then some (kc_sc (kc_code q) (((pc + 1 : Nat) : Int) + o).toNat E (2, n1, d1) (2, n2, d2) K' ++ kc_sc (kc_neg (kc_code q)) (pc + 4) E (2, n1, d1) (2, n2, d2) K') else none
    | _ => none
  | _ => none
/-- the number of a cell that a value names, if it is known (from 0 on), and the cell -/
def kc_cell (Hs : List kc_G) (E : kc_E) (a : kc_V) : Option (Nat × kc_G) := if kc_lo E a = kc_hi E a ∧ 1 ≤ kc_lo E a then (Hs[(kc_lo E a - 1).toNat]?).map fun g => ((kc_lo E a - 1).toNat, g) else none
/-- what is read of f -/
def kc_rd (E : kc_E) (f : kc_F) : kc_E × kc_V := kc_mk E f.1 f.2.1 f.2.2
def kc_fit (ty : FieldType) (f : kc_F) : Bool := match ty with
  | .int => decide (f.1 = 1)
  | .boolean => decide (f.1 = 1 ∧ 0 ≤ f.2.1 ∧ f.2.2 ≤ 1)
  | .long => decide (f.1 = 2)
  | .object _ => decide (f.1 = 3)
  | .array _ => decide (f.1 = 3)
  | _ => false
def kc_fv (E : kc_E) (a : kc_V) : kc_F := (a.1, kc_lo E a, kc_hi E a)
def kc_join (f g : kc_F) : kc_F := (f.1, if f.2.1 ≤ g.2.1 then f.2.1 else g.2.1, if g.2.2 ≤ f.2.2 then f.2.2 else g.2.2)
def kc_joins (f : kc_F) (fs : List kc_F) : kc_F := fs.foldl kc_join f
/-- is f within g? -/
def kc_sub (f g : kc_F) : Bool := decide (f.1 = g.1 ∧ g.2.1 ≤ f.2.1 ∧ f.2.2 ≤ g.2.2)
def kc_dft (ty : FieldType) : kc_V := match ty with
  | .long => (2, 0, 0)
  | .object _ => (3, 0, 0) | .array _ => (3, 0, 0)
  | _ => (1, 0, 0)
def kc_get (fl : Nat → Option (Nat × Nat)) (ix : Nat) (E : kc_E) (K : List kc_V) (Hs : List kc_G) : Option (List kc_V) := match K with
  | (3, n, d) :: K' => match kc_cell Hs E (3, n, d), fl ix with
    | some (_, (0, ci, _, _, _, _, vs)), some (ci', k) => match vs[k]? with
      | some a => if ci = ci' then some (a :: K') else none
      | none => none
    | _, _ => none
  | _ => none
def kc_put (fl : Nat → Option (Nat × Nat)) (fd : Nat → List (FieldType × Bool)) (ini : Bool) (oci ix : Nat) (E : kc_E) (K : List kc_V) (Hs : List kc_G) : Option (List kc_V × List kc_G) := match K with
  | a :: (3, n, d) :: K' => match kc_cell Hs E (3, n, d), fl ix with
    | some (r, (0, ci, ty, len, f0, fs, vs)), some (ci', k) => match (fd ci)[k]? with
      | some z => if (decide (ci = ci') && kc_fit z.1 (kc_fv E a) && decide (k < vs.length) && (!z.2 || (ini && decide (ci = oci)))) = true then some (K', Hs.set r (0, ci, ty, len, f0, fs, vs.set k a)) else none
      | none => none
    | _, _ => none
  | _ => none
def kc_ix (E : kc_E) (i : kc_V) (n : Nat) : Bool := decide (0 ≤ kc_lo E i ∧ kc_hi E i < (n : Int))
def kc_alk (ins : Instr) (kd : Nat) (ty : FieldType) : Bool := match ins with
  | .iaload => decide (kd = 1 ∧ ty = .int)
  | .baload => decide (kd = 1 ∧ (ty = .byte ∨ ty = .boolean))
  | .saload => decide (kd = 1 ∧ ty = .short)
  | .laload => decide (kd = 2)
  | .aaload => decide (kd = 3 ∧ ty.isReference = true)
  | _ => false
/-- what is read at i -/
def kc_at (E : kc_E) (i : kc_V) (d : kc_F) (fs : List kc_F) : kc_F := if kc_lo E i = kc_hi E i then fs.getD (kc_lo E i).toNat d else kc_joins d fs
def kc_ald (ins : Instr) (E : kc_E) (K : List kc_V) (Hs : List kc_G) : Option (kc_E × List kc_V) := match K with
  | (1, ni, di) :: (3, n, d) :: K' => match kc_cell Hs E (3, n, d) with
    | some (_, (kd, _, ty, len, f0, fs, _)) => if (kc_alk ins kd ty && kc_ix E (1, ni, di) len && decide (f0.1 = kd)) = true then some ((kc_rd E (kc_at E (1, ni, di) f0 fs)).1, (kc_rd E (kc_at E (1, ni, di) f0 fs)).2 :: K') else none
    | none => none
  | _ => none
def kc_aln (E : kc_E) (K : List kc_V) (Hs : List kc_G) : Option (kc_E × List kc_V) := match K with
  | (3, n, d) :: K' => match kc_cell Hs E (3, n, d) with
    | some (_, (kd, _, _, len, _)) => if kd ≠ 0 ∧ len ≤ 2147483647 then some (E, (1, 0, (len : Int)) :: K') else none
    | none => none
  | _ => none
def kc_ask (ins : Instr) (kd : Nat) (ty : FieldType) (f : kc_F) : Bool := match ins with
  | .iastore => decide (kd = 1 ∧ ty = .int ∧ f.1 = 1)
  | .bastore => decide (kd = 1 ∧ ((ty = .byte ∧ f.1 = 1 ∧ -128 ≤ f.2.1 ∧ f.2.2 ≤ 127) ∨ (ty = .boolean ∧ f.1 = 1 ∧ 0 ≤ f.2.1 ∧ f.2.2 ≤ 1)))
  | .sastore => decide (kd = 1 ∧ ty = .short ∧ f.1 = 1 ∧ -32768 ≤ f.2.1 ∧ f.2.2 ≤ 32767)
  | .lastore => decide (kd = 2 ∧ f.1 = 2)
  | _ => false
/-- what is there behind a write at i -/
def kc_wr (E : kc_E) (i : kc_V) (d : kc_F) (fs : List kc_F) (f : kc_F) : kc_F × List kc_F :=
  if kc_lo E i = kc_hi E i then
    (if (kc_lo E i).toNat < fs.length then (d, fs.set (kc_lo E i).toNat f) else if kc_sub f d = true then (d, fs) else if (kc_lo E i).toNat ≤ 40 then (d, fs ++ List.replicate ((kc_lo E i).toNat - fs.length) d ++ [f]) else (kc_join d f, fs))
  else (if kc_sub f d = true ∧ fs = [] then (d, fs) else (kc_join (kc_joins d fs) f, []))
def kc_ast (ins : Instr) (E : kc_E) (K : List kc_V) (Hs : List kc_G) : Option (List kc_V × List kc_G) := match K with
  | a :: (1, ni, di) :: (3, n, d) :: K' => match kc_cell Hs E (3, n, d) with
    | some (r, (kd, ci, ty, len, f0, fs, vs)) => if (kc_ask ins kd ty (kc_fv E a) && kc_ix E (1, ni, di) len && decide (f0.1 = kd)) = true then some (K', Hs.set r (kd, ci, ty, len, (kc_wr E (1, ni, di) f0 fs (kc_fv E a)).1, (kc_wr E (1, ni, di) f0 fs (kc_fv E a)).2, vs)) else none
    | none => none
  | _ => none
/-- a reference put into an array: its cell's class is the component's -/
def kc_aas (cn : Nat → FieldType) (E : kc_E) (K : List kc_V) (Hs : List kc_G) : Option (List kc_V × List kc_G) := match K with
  | (3, na, da) :: (1, ni, di) :: (3, n, d) :: K' => match kc_cell Hs E (3, n, d), kc_cell Hs E (3, na, da) with
    | some (r, (3, ci, ty, len, f0, fs, vs)), some (_, (0, ca, _)) => if (decide (ty = cn ca) && kc_ix E (1, ni, di) len && decide (f0.1 = 3)) = true then some (K', Hs.set r (3, ci, ty, len, (kc_wr E (1, ni, di) f0 fs (kc_fv E (3, na, da))).1, (kc_wr E (1, ni, di) f0 fs (kc_fv E (3, na, da))).2, vs)) else none
    | _, _ => none
  | _ => none
def kc_new (nw : Nat → Option Nat) (fd : Nat → List (FieldType × Bool)) (RC RS ix : Nat) (E : kc_E) (K : List kc_V) (Hs : List kc_G) (cs ss : Nat) : Option (List kc_V × List kc_G × Nat × Nat) := match nw ix with
  | some ci => if cs + 1 ≤ RC ∧ ss + (fd ci).length ≤ RS then some ((3, 0, ((Hs.length + 1 : Nat) : Int)) :: K, Hs ++ [(0, ci, .int, 0, (0, 0, 0), [], (fd ci).map (fun z => kc_dft z.1))], cs + 1, ss + (fd ci).length) else none
  | none => none
def kc_nar (RC RS : Nat) (at0 : ArrayType) (E : kc_E) (K : List kc_V) (Hs : List kc_G) (cs ss : Nat) : Option (List kc_V × List kc_G × Nat × Nat) := match K with
  | (1, n, d) :: K' => if kc_lo E (1, n, d) = kc_hi E (1, n, d) ∧ 0 ≤ kc_lo E (1, n, d) ∧ kc_lo E (1, n, d) ≤ 60000000 ∧ cs + 1 ≤ RC ∧ ss + (kc_lo E (1, n, d)).toNat ≤ RS then
      (match at0 with
      | .int => some ((3, 0, ((Hs.length + 1 : Nat) : Int)) :: K', Hs ++ [(1, 0, .int, (kc_lo E (1, n, d)).toNat, (1, 0, 0), [], [])], cs + 1, ss + (kc_lo E (1, n, d)).toNat)
      | .byte => some ((3, 0, ((Hs.length + 1 : Nat) : Int)) :: K', Hs ++ [(1, 0, .byte, (kc_lo E (1, n, d)).toNat, (1, 0, 0), [], [])], cs + 1, ss + (kc_lo E (1, n, d)).toNat)
      | .short => some ((3, 0, ((Hs.length + 1 : Nat) : Int)) :: K', Hs ++ [(1, 0, .short, (kc_lo E (1, n, d)).toNat, (1, 0, 0), [], [])], cs + 1, ss + (kc_lo E (1, n, d)).toNat)
      | .boolean => some ((3, 0, ((Hs.length + 1 : Nat) : Int)) :: K', Hs ++ [(1, 0, .boolean, (kc_lo E (1, n, d)).toNat, (1, 0, 0), [], [])], cs + 1, ss + (kc_lo E (1, n, d)).toNat)
      | .long => some ((3, 0, ((Hs.length + 1 : Nat) : Int)) :: K', Hs ++ [(2, 0, .long, (kc_lo E (1, n, d)).toNat, (2, 0, 0), [], [])], cs + 1, ss + (kc_lo E (1, n, d)).toNat)
      | _ => none)
      else none
  | _ => none
def kc_ana (aw : Nat → Option FieldType) (RC RS ix : Nat) (E : kc_E) (K : List kc_V) (Hs : List kc_G) (cs ss : Nat) : Option (List kc_V × List kc_G × Nat × Nat) := match K, aw ix with
  | (1, n, d) :: K', some ty => if kc_lo E (1, n, d) = kc_hi E (1, n, d) ∧ 0 ≤ kc_lo E (1, n, d) ∧ kc_lo E (1, n, d) ≤ 60000000 ∧ cs + 1 ≤ RC ∧ ss + (kc_lo E (1, n, d)).toNat ≤ RS then
      some ((3, 0, ((Hs.length + 1 : Nat) : Int)) :: K', Hs ++ [(3, 0, ty, (kc_lo E (1, n, d)).toNat, (3, 0, 0), [], [])], cs + 1, ss + (kc_lo E (1, n, d)).toNat) else none
  | _, _ => none
/-- an array of arrays of ints -/
def kc_mna (mw : Nat → Bool) (RC RS ix : Nat) (E : kc_E) (K : List kc_V) (Hs : List kc_G) (cs ss : Nat) : Option (List kc_V × List kc_G × Nat × Nat) := match K with
  | (1, n2, d2) :: (1, n1, d1) :: K' => if mw ix = true ∧ kc_lo E (1, n1, d1) = kc_hi E (1, n1, d1) ∧ 0 ≤ kc_lo E (1, n1, d1) ∧ kc_lo E (1, n1, d1) ≤ 60000 ∧ kc_lo E (1, n2, d2) = kc_hi E (1, n2, d2) ∧ 0 ≤ kc_lo E (1, n2, d2) ∧ kc_lo E (1, n2, d2) ≤ 60000 ∧ cs + 1 + (kc_lo E (1, n1, d1)).toNat ≤ RC ∧ ss + (kc_lo E (1, n1, d1)).toNat + (kc_lo E (1, n1, d1)).toNat * (kc_lo E (1, n2, d2)).toNat ≤ RS then
      some ((3, 0, ((Hs.length + 1 : Nat) : Int)) :: K', Hs ++ [(3, 0, .array .int, (kc_lo E (1, n1, d1)).toNat, (3, 0, 0), (List.range (kc_lo E (1, n1, d1)).toNat).map (fun j => (3, ((Hs.length + 2 + j : Nat) : Int), ((Hs.length + 2 + j : Nat) : Int))), [])] ++ List.replicate (kc_lo E (1, n1, d1)).toNat (1, 0, .int, (kc_lo E (1, n2, d2)).toNat, (1, 0, 0), [], []), cs + 1 + (kc_lo E (1, n1, d1)).toNat, ss + (kc_lo E (1, n1, d1)).toNat + (kc_lo E (1, n1, d1)).toNat * (kc_lo E (1, n2, d2)).toNat) else none
  | _ => none
def kc_cat (K : List kc_V) : Nat := (K.map fun a => if a.1 = 2 then 2 else 1).sum
/-- one state for each number that an index may be -/
def kc_spl (pc : Nat) (E : kc_E) (i : kc_V) (K : List kc_V) : List kc_N := (List.range (kc_hi E i - kc_lo E i + 1).toNat).flatMap (fun (j : Nat) => kc_s1 0 pc E i (1, 0, kc_lo E i + (j : Int)) K)
/-- where an array of references is read or written at a place that isn't known -/
def kc_x4 (ins : Instr) (pc : Nat) (E : kc_E) (K : List kc_V) : Option (List kc_N) := match ins, K with
  | .aaload, (1, n, d) :: K' => if kc_lo E (1, n, d) = kc_hi E (1, n, d) ∨ 63 < kc_hi E (1, n, d) - kc_lo E (1, n, d) then none else some (kc_spl pc E (1, n, d) ((1, n, d) :: K'))
  | .aastore, a :: (1, n, d) :: K' => if kc_lo E (1, n, d) = kc_hi E (1, n, d) ∨ 63 < kc_hi E (1, n, d) - kc_lo E (1, n, d) then none else some (kc_spl pc E (1, n, d) (a :: (1, n, d) :: K'))
  | _, _ => none
/-- ints copied from one array to another -/
def kc_acp (E : kc_E) (K : List kc_V) (Hs : List kc_G) : Option (List kc_V × List kc_G) := match K with
  | (1, nl, dl) :: (1, nq, dq) :: (3, nd, dd) :: (1, np, dp) :: (3, ns, ds) :: K' => match kc_cell Hs E (3, ns, ds), kc_cell Hs E (3, nd, dd) with
    | some (_, (1, _, .int, len, f0, fs, _)), some (r, (1, ci, .int, len', f0', fs', vs')) =>
      if f0.1 = 1 ∧ f0'.1 = 1 ∧ kc_cat K' ≤ 8 ∧ 0 ≤ kc_lo E (1, np, dp) ∧ 0 ≤ kc_lo E (1, nq, dq) ∧ 0 ≤ kc_lo E (1, nl, dl) ∧ kc_hi E (1, np, dp) + kc_hi E (1, nl, dl) ≤ (len : Int) ∧ kc_hi E (1, nq, dq) + kc_hi E (1, nl, dl) ≤ (len' : Int) then
        some (K', Hs.set r (if kc_sub (kc_joins f0 fs) f0' = true ∧ fs' = [] then (1, ci, .int, len', f0', fs', vs') else (1, ci, .int, len', kc_join (kc_joins f0' fs') (kc_joins f0 fs), [], vs'))) else none
    | _, _ => none
  | _ => none
/-- the greater, or the lesser, of two ints -/
def kc_mm (mx : Bool) (E : kc_E) (a b : kc_V) : kc_E × kc_V := match mx with
  | true => if kc_hi E b ≤ kc_lo E a then (E, a) else if kc_hi E a ≤ kc_lo E b then (E, b) else kc_mk E 1 (if kc_lo E a ≤ kc_lo E b then kc_lo E b else kc_lo E a) (if kc_hi E a ≤ kc_hi E b then kc_hi E b else kc_hi E a)
  | false => if kc_hi E a ≤ kc_lo E b then (E, a) else if kc_hi E b ≤ kc_lo E a then (E, b) else kc_mk E 1 (if kc_lo E a ≤ kc_lo E b then kc_lo E a else kc_lo E b) (if kc_hi E a ≤ kc_hi E b then kc_hi E a else kc_hi E b)
end
section
/-- a method: how many locals, the types of its arguments, cells and slots that it may make, frames and locals of those that it calls, its class, is it a constructor -/
abbrev kc_M : Type := Nat × List Nat × Nat × Nat × Nat × Nat × Nat × Bool
/-- what is widened at a loop's head: locals (the first counts up), locals forgotten, fields, arrays -/
abbrev kc_A : Type := List (Nat × Int × Int) × List Nat × List (Nat × Nat × Int × Int) × List (Nat × kc_F)
/-- the tables: instructions, methods, links to methods, fields, classes made, arrays of references, arrays of arrays, constants, a class' fields, a class as a component, loops, what a method answers (0 nothing, 1 an int, 2 a long, 3 a reference, 4 a boolean) -/
abbrev kc_T : Type := (Nat → Nat → Option (Instr × Nat)) × (Nat → kc_M) × (Nat → Nat → Option (Nat × Nat)) × (Nat → Nat → Option (Nat × Nat)) × (Nat → Nat → Option Nat) × (Nat → Nat → Option FieldType) × (Nat → Nat → Bool) × (Nat → Nat → Option (Nat × Int)) × (Nat → List (FieldType × Bool)) × (Nat → FieldType) × (Nat → Nat → Option kc_A) × (Nat → Nat)
def kc_Tcd (T : kc_T) : Nat → Nat → Option (Instr × Nat) := T.1
def kc_Tmi (T : kc_T) : Nat → kc_M := T.2.1
def kc_Tlk (T : kc_T) : Nat → Nat → Option (Nat × Nat) := T.2.2.1
def kc_Tfl (T : kc_T) : Nat → Nat → Option (Nat × Nat) := T.2.2.2.1
def kc_Tnw (T : kc_T) : Nat → Nat → Option Nat := T.2.2.2.2.1
def kc_Taw (T : kc_T) : Nat → Nat → Option FieldType := T.2.2.2.2.2.1
def kc_Tmw (T : kc_T) : Nat → Nat → Bool := T.2.2.2.2.2.2.1
def kc_Tkw (T : kc_T) : Nat → Nat → Option (Nat × Int) := T.2.2.2.2.2.2.2.1
def kc_Tfd (T : kc_T) : Nat → List (FieldType × Bool) := T.2.2.2.2.2.2.2.2.1
def kc_Tcn (T : kc_T) : Nat → FieldType := T.2.2.2.2.2.2.2.2.2.1
def kc_Thd (T : kc_T) : Nat → Nat → Option kc_A := T.2.2.2.2.2.2.2.2.2.2.1
def kc_Trk (T : kc_T) : Nat → Nat := T.2.2.2.2.2.2.2.2.2.2.2
def kc_ldc (kw : Nat → Option (Nat × Int)) (t ix : Nat) (K : List kc_V) : Option (List kc_V) := match kw ix with
  | some (t', v) => if t' = t then some ((t, 0, v) :: K) else none
  | none => none
/-- an instruction that is no call and no return, and no lcmp -/
def kc_s0 (T : kc_T) (M : kc_M) (i : Instr) (n pc : Nat) (E : kc_E) (L K : List kc_V) (Hs : List kc_G) (cs ss : Nat) : Option (List (Nat × kc_S)) := match i with
  | .getfield ix => (kc_get (kc_Tfl T M.2.2.2.2.2.2.1) ix E K Hs).map fun r => [(pc + 3, E, L, r, Hs, cs, ss)]
  | .putfield ix => (kc_put (kc_Tfl T M.2.2.2.2.2.2.1) (kc_Tfd T) M.2.2.2.2.2.2.2 M.2.2.2.2.2.2.1 ix E K Hs).map fun r => [(pc + 3, E, L, r.1, r.2, cs, ss)]
  | .iaload => (kc_ald .iaload E K Hs).map fun r => [(pc + 1, r.1, L, r.2, Hs, cs, ss)]
  | .baload => (kc_ald .baload E K Hs).map fun r => [(pc + 1, r.1, L, r.2, Hs, cs, ss)]
  | .saload => (kc_ald .saload E K Hs).map fun r => [(pc + 1, r.1, L, r.2, Hs, cs, ss)]
  | .laload => (kc_ald .laload E K Hs).map fun r => [(pc + 1, r.1, L, r.2, Hs, cs, ss)]
  | .aaload => match kc_x4 .aaload pc E K with
    | some r => some (r.map fun q => (q.1, q.2.1, L, q.2.2, Hs, cs, ss))
    | none => (kc_ald .aaload E K Hs).map fun r => [(pc + 1, r.1, L, r.2, Hs, cs, ss)]
  | .arraylength => (kc_aln E K Hs).map fun r => [(pc + 1, r.1, L, r.2, Hs, cs, ss)]
  | .iastore => (kc_ast .iastore E K Hs).map fun r => [(pc + 1, E, L, r.1, r.2, cs, ss)]
  | .bastore => (kc_ast .bastore E K Hs).map fun r => [(pc + 1, E, L, r.1, r.2, cs, ss)]
  | .sastore => (kc_ast .sastore E K Hs).map fun r => [(pc + 1, E, L, r.1, r.2, cs, ss)]
  | .lastore => (kc_ast .lastore E K Hs).map fun r => [(pc + 1, E, L, r.1, r.2, cs, ss)]
  | .aastore => match kc_x4 .aastore pc E K with
    | some r => some (r.map fun q => (q.1, q.2.1, L, q.2.2, Hs, cs, ss))
    | none => (kc_aas (kc_Tcn T) E K Hs).map fun r => [(pc + 1, E, L, r.1, r.2, cs, ss)]
  | .new ix => (kc_new (kc_Tnw T M.2.2.2.2.2.2.1) (kc_Tfd T) M.2.2.1 M.2.2.2.1 ix E K Hs cs ss).map fun r => [(pc + 3, E, L, r.1, r.2.1, r.2.2.1, r.2.2.2)]
  | .newarray t => (kc_nar M.2.2.1 M.2.2.2.1 t E K Hs cs ss).map fun r => [(pc + 2, E, L, r.1, r.2.1, r.2.2.1, r.2.2.2)]
  | .anewarray ix => (kc_ana (kc_Taw T M.2.2.2.2.2.2.1) M.2.2.1 M.2.2.2.1 ix E K Hs cs ss).map fun r => [(pc + 3, E, L, r.1, r.2.1, r.2.2.1, r.2.2.2)]
  | .multianewarray ix _ => (kc_mna (kc_Tmw T M.2.2.2.2.2.2.1) M.2.2.1 M.2.2.2.1 ix E K Hs cs ss).map fun r => [(pc + 4, E, L, r.1, r.2.1, r.2.2.1, r.2.2.2)]
  | .ldc ix => (kc_ldc (kc_Tkw T M.2.2.2.2.2.2.1) 1 ix K).map fun r => [(pc + 2, E, L, r, Hs, cs, ss)]
  | .ldc_w ix => (kc_ldc (kc_Tkw T M.2.2.2.2.2.2.1) 1 ix K).map fun r => [(pc + 3, E, L, r, Hs, cs, ss)]
  | .ldc2_w ix => (kc_ldc (kc_Tkw T M.2.2.2.2.2.2.1) 2 ix K).map fun r => [(pc + 3, E, L, r, Hs, cs, ss)]
  | .goto o => (kc_x2 (.goto o) pc E K).map fun r => r.map fun q => (q.1, q.2.1, L, q.2.2, Hs, cs, ss)
  | .ifCond c o => (kc_x2 (.ifCond c o) pc E K).map fun r => r.map fun q => (q.1, q.2.1, L, q.2.2, Hs, cs, ss)
  | .if_icmp c o => (kc_x2 (.if_icmp c o) pc E K).map fun r => r.map fun q => (q.1, q.2.1, L, q.2.2, Hs, cs, ss)
  | .ifnull o => (kc_x2 (.ifnull o) pc E K).map fun r => r.map fun q => (q.1, q.2.1, L, q.2.2, Hs, cs, ss)
  | .ifnonnull o => (kc_x2 (.ifnonnull o) pc E K).map fun r => r.map fun q => (q.1, q.2.1, L, q.2.2, Hs, cs, ss)
  | .tableswitch d lo hi os => (kc_x2 (.tableswitch d lo hi os) pc E K).map fun r => r.map fun q => (q.1, q.2.1, L, q.2.2, Hs, cs, ss)
  | .lookupswitch d ps => (kc_x2 (.lookupswitch d ps) pc E K).map fun r => r.map fun q => (q.1, q.2.1, L, q.2.2, Hs, cs, ss)
  | i => if n = kc_len i then (kc_x1 M.1 i E L K).map fun r => [(pc + n, r.1, r.2.1, r.2.2, Hs, cs, ss)] else (match i with
    | .iinc j d => if n = 6 then (kc_x1 M.1 (.iinc j d) E L K).map fun r => [(pc + 6, r.1, r.2.1, r.2.2, Hs, cs, ss)] else none
    | _ => none)
def kc_lenok (i : Instr) (n : Nat) : Bool := match i with
  | .getfield _ => Nat.beq n 3 | .putfield _ => Nat.beq n 3
  | .iaload => Nat.beq n 1 | .baload => Nat.beq n 1 | .saload => Nat.beq n 1 | .laload => Nat.beq n 1 | .aaload => Nat.beq n 1 | .arraylength => Nat.beq n 1
  | .iastore => Nat.beq n 1 | .bastore => Nat.beq n 1 | .sastore => Nat.beq n 1 | .lastore => Nat.beq n 1 | .aastore => Nat.beq n 1
  | .new _ => Nat.beq n 3 | .newarray _ => Nat.beq n 2 | .anewarray _ => Nat.beq n 3 | .multianewarray _ d => Nat.beq n 4 && Nat.beq d 2
  | .ldc _ => Nat.beq n 2 | .ldc_w _ => Nat.beq n 3 | .ldc2_w _ => Nat.beq n 3
  | .goto _ => Nat.beq n 3 | .ifCond _ _ => Nat.beq n 3 | .if_icmp _ _ => Nat.beq n 3 | .ifnull _ => Nat.beq n 3 | .ifnonnull _ => Nat.beq n 3
  | _ => true
def kc_step (T : kc_T) (y pc : Nat) (i : Instr) (n : Nat) (S : kc_S) : Option (List (Nat × kc_S)) := match i with
  | .lcmp => match kc_Tcd T y (pc + 1) with
    | some (j, m) => if n = 1 ∧ m = 3 then (kc_x3 j pc S.1 S.2.2.1).map fun r => r.map fun q => (q.1, q.2.1, S.2.1, q.2.2, S.2.2.2) else none
    | none => none
  | i => if kc_lenok i n = true then kc_s0 T (kc_Tmi T y) i n pc S.1 S.2.1 S.2.2.1 S.2.2.2.1 S.2.2.2.2.1 S.2.2.2.2.2 else none
/-- arguments off the stack (the last one on top), by their types from the last on -/
def kc_args : List Nat → List kc_V → List kc_V → Option (List kc_V × List kc_V)
  | [], K, as => some (as, K)
  | t :: ts, a :: K, as => if a.1 = t then kc_args ts K (a :: as) else none
  | _ :: _, [], _ => none
/-- locals at a method's start -/
def kc_loc0 : List kc_V → List kc_V
  | [] => []
  | a :: as => if a.1 = 2 then a :: (0, 0, 0) :: kc_loc0 as else a :: kc_loc0 as
/-- a method's end, as its caller sees it -/
def kc_back (pc : Nat) (L K : List kc_V) (cs ss : Nat) (q : Nat × kc_S) : Nat × kc_S := (pc + 3, q.2.1, L, q.2.2.2.1 ++ K, q.2.2.2.2.1, cs, ss)
def kc_widL (E : kc_E) (L : List kc_V) : List (Nat × Int × Int) → kc_E × List kc_V
  | [] => (E, L)
  | q :: qs => kc_widL (E ++ [(q.2.1, q.2.2)]) (L.set q.1 (1, E.length, 0)) qs
def kc_setv (Hs : List kc_G) (k j : Nat) (a : kc_V) : List kc_G := match Hs[k]? with
  | some g => Hs.set k (g.1, g.2.1, g.2.2.1, g.2.2.2.1, g.2.2.2.2.1, g.2.2.2.2.2.1, g.2.2.2.2.2.2.set j a)
  | none => Hs
def kc_widF (E : kc_E) (Hs : List kc_G) : List (Nat × Nat × Int × Int) → kc_E × List kc_G
  | [] => (E, Hs)
  | q :: qs => kc_widF (E ++ [(q.2.2.1, q.2.2.2)]) (kc_setv Hs q.1 q.2.1 (1, E.length, 0)) qs
def kc_widA (Hs : List kc_G) : List (Nat × kc_F) → List kc_G
  | [] => Hs
  | q :: qs => kc_widA (match Hs[q.1]? with
    | some g => Hs.set q.1 (g.1, g.2.1, g.2.2.1, g.2.2.2.1, q.2, [], g.2.2.2.2.2.2)
    | none => Hs) qs
/-- a loop's head, widened -/
def kc_wid (an : kc_A) (S : kc_S) : kc_S :=
  let EL := kc_widL S.1 (an.2.1.foldl (fun L j => L.set j (0, 0, 0)) S.2.1) an.1
  let EH := kc_widF EL.1 S.2.2.2.1 an.2.2.1
  (EH.1, EL.2, S.2.2.1, kc_widA EH.2 an.2.2.2, S.2.2.2.2.1, S.2.2.2.2.2)
/-- what stands in S where it was widened -/
def kc_wit (an : kc_A) (S : kc_S) : List kc_V := an.1.map (fun q => S.2.1.getD q.1 (0, 0, 0)) ++ an.2.2.1.map (fun q => match S.2.2.2.1[q.1]? with
  | some g => g.2.2.2.2.2.2.getD q.2.1 (0, 0, 0)
  | none => (0, 0, 0))
/-- is a value as it is asked for: the same, or the one that stands where it was widened -/
def kc_subF (n0 : Nat) (ws : List kc_V) (a b : kc_V) : Bool := decide (a = b ∧ b.2.1 < n0) || decide (n0 ≤ b.2.1 ∧ b.2.2 = 0 ∧ b.1 = 1 ∧ a.1 = 1 ∧ ws[b.2.1 - n0]? = some a)
/-- .. or nothing is asked -/
def kc_subV (n0 : Nat) (ws : List kc_V) (a b : kc_V) : Bool := decide (b.1 = 0) || kc_subF n0 ws a b
def kc_subL (f : kc_V → kc_V → Bool) : List kc_V → List kc_V → Bool
  | [], [] => true
  | a :: as, b :: bs => f a b && kc_subL f as bs
  | _, _ => false
def kc_subG (n0 : Nat) (ws : List kc_V) (g h : kc_G) : Bool := decide (g.1 = h.1 ∧ g.2.1 = h.2.1 ∧ g.2.2.1 = h.2.2.1 ∧ g.2.2.2.1 = h.2.2.2.1) && (decide (g.2.2.2.2.1 = h.2.2.2.2.1 ∧ g.2.2.2.2.2.1 = h.2.2.2.2.2.1) || (kc_sub g.2.2.2.2.1 h.2.2.2.2.1 && g.2.2.2.2.2.1.all (fun f => kc_sub f h.2.2.2.2.1) && h.2.2.2.2.2.1.isEmpty)) && kc_subL (kc_subF n0 ws) g.2.2.2.2.2.2 h.2.2.2.2.2.2
def kc_subH (n0 : Nat) (ws : List kc_V) : List kc_G → List kc_G → Bool
  | [], [] => true
  | g :: gs, h :: hs => kc_subG n0 ws g h && kc_subH n0 ws gs hs
  | _, _ => false
/-- the values stand within the bounds asked for -/
def kc_subB (E : kc_E) : List kc_V → kc_E → Bool
  | [], [] => true
  | a :: as, b :: bs => decide (a.1 = 1 ∧ a.2.1 < E.length ∧ b.1 ≤ kc_lo E a ∧ kc_hi E a ≤ b.2) && kc_subB E as bs
  | _, _ => false
/-- is the state S within the widened W (of a state with n0 symbols)? the counter is in S above what it was in W by one at least (up = true) -/
def kc_within (n0 : Nat) (an : kc_A) (W S : kc_S) (up : Bool) : Bool :=
  kc_subB S.1 (kc_wit an S) (W.1.drop n0) && kc_subL (kc_subV n0 (kc_wit an S)) S.2.1 W.2.1 && decide (S.2.2.1 = [] ∧ W.2.2.1 = []) && kc_subH n0 (kc_wit an S) S.2.2.2.1 W.2.2.2.1 && decide (S.2.2.2.2.1 ≤ W.2.2.2.2.1 ∧ S.2.2.2.2.2 ≤ W.2.2.2.2.2) &&
  (!up || (match kc_wit an S with
    | a :: _ => decide (a.2.1 = n0 ∧ 1 ≤ a.2.2)
    | [] => false))
def kc_retok (rk mc ms : Nat) (i : Instr) (n : Nat) (S : kc_S) : Bool := Nat.beq n 1 && decide (S.2.2.2.2.1 ≤ mc ∧ S.2.2.2.2.2 ≤ ms) && (match i, S.2.2.1 with
  | .ireturn, [(1, k, d)] => Nat.beq rk 1 || (Nat.beq rk 4 && decide (0 ≤ kc_lo S.1 (1, k, d) ∧ kc_hi S.1 (1, k, d) ≤ 1))
  | .lreturn, [(2, _, _)] => Nat.beq rk 2
  | .areturn, [(3, _, _)] => Nat.beq rk 3
  | .return_, [] => Nat.beq rk 0
  | _, _ => false)
/-- the object of which a method is called is known, and of its class -/
def kc_recv (kd : Nat) (Hs : List kc_G) (E : kc_E) (as : List kc_V) (ci : Nat) : Bool := Nat.beq kd 1 || Nat.beq kd 11 || (match as with
  | (3, n, d) :: _ => (match kc_cell Hs E (3, n, d) with
    | some (_, (0, ci', _)) => Nat.beq ci ci'
    | _ => false)
  | _ => false)
/-- 0 nothing of these, 1 a return, 2 a call -/
def kc_kind : Instr → Nat
  | .ireturn => 1 | .lreturn => 1 | .areturn => 1 | .return_ => 1
  | .invokevirtual _ => 2 | .invokespecial _ => 2 | .invokestatic _ => 2
  | _ => 0
/-- a call's index, and the kinds of link that it may go by -/
def kc_lnk : Instr → Nat × List Nat
  | .invokevirtual ix => (ix, [0, 10]) | .invokespecial ix => (ix, [2, 12, 3]) | .invokestatic ix => (ix, [1, 11, 4, 5, 6])
  | _ => (0, [])
/-- a call: the state behind it, or the method, its arguments, and what is left on the stack -/
def kc_invk (T : kc_T) (y : Nat) (i : Instr) (n : Nat) (S : kc_S) : Option (kc_S ⊕ (Nat × List kc_V × List kc_V)) := match kc_Tlk T (kc_Tmi T y).2.2.2.2.2.2.1 (kc_lnk i).1 with
  | some (kd, y') => if (Nat.beq n 3 && (kc_lnk i).2.contains kd) = true then
      (if kd = 3 then (match S.2.2.1 with
        | (3, s, d) :: K' => if kc_lo S.1 (3, s, d) = kc_hi S.1 (3, s, d) ∧ 1 ≤ kc_lo S.1 (3, s, d) ∧ kc_cat K' ≤ 8 ∧ 1 ≤ (kc_Tmi T y).2.2.2.2.1 ∧ 20 ≤ (kc_Tmi T y).2.2.2.2.2.1 then some (.inl (S.1, S.2.1, K', S.2.2.2)) else none
        | _ => none)
      else if kd = 4 then (if 1 ≤ (kc_Tmi T y).2.2.2.2.1 ∧ 26 ≤ (kc_Tmi T y).2.2.2.2.2.1 then (kc_acp S.1 S.2.2.1 S.2.2.2.1).map (fun r => .inl (S.1, S.2.1, r.1, r.2, S.2.2.2.2)) else none)
      else if kd = 5 ∨ kd = 6 then (match S.2.2.1 with
        | (1, n2, d2) :: (1, n1, d1) :: K' => if kc_cat K' ≤ 8 ∧ 1 ≤ (kc_Tmi T y).2.2.2.2.1 ∧ 21 ≤ (kc_Tmi T y).2.2.2.2.2.1 ∧ S.2.2.2.2.1 ≤ (kc_Tmi T y).2.2.1 ∧ S.2.2.2.2.2 ≤ (kc_Tmi T y).2.2.2.1 then some (.inl ((kc_mm (Nat.beq kd 6) S.1 (1, n1, d1) (1, n2, d2)).1, S.2.1, (kc_mm (Nat.beq kd 6) S.1 (1, n1, d1) (1, n2, d2)).2 :: K', S.2.2.2)) else none
        | _ => none)
      else match kc_args (kc_Tmi T y').2.1.reverse S.2.2.1 [] with
        | some (as, K') => if (decide (kc_cat K' ≤ 8 ∧ S.2.2.2.2.1 + (kc_Tmi T y').2.2.1 ≤ (kc_Tmi T y).2.2.1 ∧ S.2.2.2.2.2 + (kc_Tmi T y').2.2.2.1 ≤ (kc_Tmi T y).2.2.2.1 ∧ (kc_Tmi T y').2.2.2.2.1 + 1 ≤ (kc_Tmi T y).2.2.2.2.1 ∧ 19 + (kc_Tmi T y').1 + (kc_Tmi T y').2.2.2.2.2.1 ≤ (kc_Tmi T y).2.2.2.2.2.1 ∧ (kc_loc0 as).length ≤ (kc_Tmi T y').1) && kc_recv kd S.2.2.2.1 S.1 as (kc_Tmi T y').2.2.2.2.2.2.1) = true then some (.inr (y', as, K')) else none
        | none => none)
      else none
  | none => none
/-- a method's start -/
def kc_ent (T : kc_T) (y : Nat) (as : List kc_V) (S : kc_S) : Nat × kc_S := (0, S.1, kc_loc0 as ++ List.replicate ((kc_Tmi T y).1 - (kc_loc0 as).length) (0, 0, 0), [], S.2.2.2.1, 0, 0)
def kc_run (T : kc_T) : Nat → Nat → List Nat → List (Nat × kc_S) → List (Nat × kc_S) → Option (List (Nat × kc_S))
  | 0, _, _, _, _ => none
  | _ + 1, _, _, [], outs => some outs
  | f + 1, y, op, q :: rest, outs =>
    if op.contains q.1 = true then kc_run T f y op rest (q :: outs) else
    match kc_Thd T y q.1, kc_Tcd T y q.1 with
    | some an, some (i, n) =>
      if (decide ((kc_wid an q.2).1.take q.2.1.length = q.2.1) && kc_within q.2.1.length an (kc_wid an q.2) q.2 false) = true then
        match kc_step T y q.1 i n (kc_wid an q.2) with
        | some ns => match kc_run T f y (q.1 :: op) ns [] with
          | some os => if os.all (fun o => decide (o.1 ≠ q.1) || kc_within q.2.1.length an (kc_wid an q.2) o.2 true) = true then kc_run T f y op rest (os.filter (fun o => decide (o.1 ≠ q.1)) ++ outs) else none
          | none => none
        | none => none
      else none
    | none, some (i, n) =>
      match kc_kind i with
      | 1 => if kc_retok (kc_Trk T y) (kc_Tmi T y).2.2.1 (kc_Tmi T y).2.2.2.1 i n q.2 = true then kc_run T f y op rest (q :: outs) else none
      | 2 => match kc_invk T y i n q.2 with
        | some (.inl S') => kc_run T f y op ((q.1 + 3, S') :: rest) outs
        | some (.inr r) => match kc_run T f r.1 [] [kc_ent T r.1 r.2.1 q.2] [] with
          | some os => kc_run T f y op (os.map (kc_back q.1 q.2.2.1 r.2.2 (q.2.2.2.2.2.1 + (kc_Tmi T r.1).2.2.1) (q.2.2.2.2.2.2 + (kc_Tmi T r.1).2.2.2.1)) ++ rest) outs
          | none => none
        | none => none
      | _ => match kc_step T y q.1 i n q.2 with
        | some ns => kc_run T f y op (ns ++ rest) outs
        | none => none
    | _, none => none
def kc_f1 {α : Type} (k : Nat) : List (Nat × α) → Option α
  | [] => none
  | q :: l => match Nat.beq q.1 k with
    | true => some q.2
    | false => kc_f1 k l
def kc_f2 {α : Type} (k : Nat) : List (Nat × List (Nat × α)) → Option α
  | [] => none
  | b :: l => match Nat.ble k b.1 with
    | true => kc_f1 k b.2
    | false => kc_f2 k l
end
section
/-! ===== what the executor's states say of the machine's ===== -/
def kc_env (ρ : Nat → Int) (E : kc_E) : Prop := ∀ n : Nat, (E.getD n (0, 0)).1 ≤ ρ n ∧ ρ n ≤ (E.getD n (0, 0)).2
def kc_v (ρ : Nat → Int) (β : Nat → Nat) (N : Nat) (a : kc_V) (v : Value) : Prop := match a.1 with
  | 1 => ∃ x : Int32, v = .int x ∧ x.toInt = ρ a.2.1 + a.2.2
  | 2 => ∃ x : Int64, v = .long x ∧ x.toInt = ρ a.2.1 + a.2.2
  | 3 => (v = .null ∧ ρ a.2.1 + a.2.2 = 0) ∨ ∃ r : Nat, v = .ref (β r) ∧ 1 ≤ r ∧ r ≤ N ∧ ρ a.2.1 + a.2.2 = (r : Int)
  | 5 => v = .ref (β 0)
  | _ => False
def kc_t (β : Nat → Nat) (N : Nat) (f : kc_F) (v : Value) : Prop := match f.1 with
  | 1 => ∃ x : Int32, v = .int x ∧ f.2.1 ≤ x.toInt ∧ x.toInt ≤ f.2.2
  | 2 => ∃ x : Int64, v = .long x ∧ f.2.1 ≤ x.toInt ∧ x.toInt ≤ f.2.2
  | 3 => (v = .null ∧ f.2.1 ≤ 0 ∧ 0 ≤ f.2.2) ∨ ∃ r : Nat, v = .ref (β r) ∧ 1 ≤ r ∧ r ≤ N ∧ f.2.1 ≤ (r : Int) ∧ (r : Int) ≤ f.2.2
  | _ => False
theorem kc_env.at {ρ : Nat → Int} {E : kc_E} (h : kc_env ρ E) (a : kc_V) : kc_lo E a ≤ ρ a.2.1 + a.2.2 ∧ ρ a.2.1 + a.2.2 ≤ kc_hi E a := by
  have := h a.2.1
  unfold kc_lo kc_hi
  omega
theorem kc_env.push {ρ : Nat → Int} {E : kc_E} (h : kc_env ρ E) {lo hi z : Int} (h1 : lo ≤ z) (h2 : z ≤ hi) : kc_env (va_up ρ E.length z) (E ++ [(lo, hi)]) := by
  intro n
  by_cases e : n = E.length
  · subst e
    simp [va_up, h1, h2]
  · by_cases l : n < E.length
    · have := h n
      simp only [va_up, if_neg e, List.getD_eq_getElem?_getD, List.getElem?_append_left l] at this ⊢
      exact this
    · have hn : E.length + 1 ≤ n := by omega
      have := h n
      rw [List.getD_eq_getElem?_getD, List.getElem?_eq_none (by omega)] at this
      rw [List.getD_eq_getElem?_getD, List.getElem?_eq_none (by simp; omega)]
      simp only [va_up, if_neg e]
      exact this
theorem kc_v.ext {ρ ρ' : Nat → Int} {β β' : Nat → Nat} {N N' : Nat} {a : kc_V} {v : Value} {n : Nat} (h : kc_v ρ β N a v) (ha : a.2.1 < n) (h1 : ∀ k, k < n → ρ' k = ρ k) (h2 : ∀ k, k ≤ N → β' k = β k) (h3 : N ≤ N') : kc_v ρ' β' N' a v := by
  obtain ⟨t, k, d⟩ := a
  unfold kc_v at h ⊢
  dsimp only at h ha ⊢
  rw [h1 k ha]
  split at h
  · exact h
  · exact h
  · rcases h with h | ⟨r, e1, e2, e3, e4⟩
    · exact Or.inl h
    · exact Or.inr ⟨r, by rw [h2 r e3]; exact e1, e2, Nat.le_trans e3 h3, e4⟩
  · rw [h2 0 (Nat.zero_le _)]; exact h
  · exact h
theorem kc_t.ext {β β' : Nat → Nat} {N N' : Nat} {f : kc_F} {v : Value} (h : kc_t β N f v) (h2 : ∀ k, k ≤ N → β' k = β k) (h3 : N ≤ N') : kc_t β' N' f v := by
  obtain ⟨t, lo, hi⟩ := f
  unfold kc_t at h ⊢
  dsimp only at h ⊢
  split at h
  · exact h
  · exact h
  · rcases h with h | ⟨r, e1, e2, e3, e4⟩
    · exact Or.inl h
    · exact Or.inr ⟨r, by rw [h2 r e3]; exact e1, e2, Nat.le_trans e3 h3, e4⟩
  · exact h
/-- what is read gets a symbol of its own -/
theorem kc_t.read {β : Nat → Nat} {N : Nat} {f : kc_F} {v : Value} (h : kc_t β N f v) : ∃ z : Int, f.2.1 ≤ z ∧ z ≤ f.2.2 ∧ ∀ (ρ : Nat → Int) (n : Nat) (d : Int), ρ n + d = z → kc_v ρ β N (f.1, n, d) v := by
  obtain ⟨t, lo, hi⟩ := f
  unfold kc_t at h
  dsimp only at h ⊢
  split at h
  · obtain ⟨x, rfl, h1, h2⟩ := h
    exact ⟨x.toInt, h1, h2, fun ρ n d e => ⟨x, rfl, by dsimp only; omega⟩⟩
  · obtain ⟨x, rfl, h1, h2⟩ := h
    exact ⟨x.toInt, h1, h2, fun ρ n d e => ⟨x, rfl, by dsimp only; omega⟩⟩
  · rcases h with ⟨rfl, h1, h2⟩ | ⟨r, rfl, e2, e3, h1, h2⟩
    · exact ⟨0, h1, h2, fun ρ n d e => Or.inl ⟨rfl, by dsimp only; omega⟩⟩
    · exact ⟨(r : Int), h1, h2, fun ρ n d e => Or.inr ⟨r, rfl, e2, e3, by dsimp only; omega⟩⟩
  · exact absurd h id
/-- what is written lies within bounds -/
theorem kc_v.write {ρ : Nat → Int} {β : Nat → Nat} {N : Nat} {a : kc_V} {v : Value} (h : kc_v ρ β N a v) (h5 : a.1 ≠ 5) {f : kc_F} (ht : f.1 = a.1) (h1 : f.2.1 ≤ ρ a.2.1 + a.2.2) (h2 : ρ a.2.1 + a.2.2 ≤ f.2.2) : kc_t β N f v := by
  obtain ⟨t, lo, hi⟩ := f
  obtain ⟨t', n, d⟩ := a
  dsimp only at ht h1 h2 h5
  subst ht
  unfold kc_v at h
  unfold kc_t
  dsimp only at h ⊢
  split at h
  · obtain ⟨x, rfl, e⟩ := h
    exact ⟨x, rfl, by omega, by omega⟩
  · obtain ⟨x, rfl, e⟩ := h
    exact ⟨x, rfl, by omega, by omega⟩
  · rcases h with ⟨rfl, e⟩ | ⟨r, rfl, e2, e3, e⟩
    · exact Or.inl ⟨rfl, by omega, by omega⟩
    · exact Or.inr ⟨r, rfl, e2, e3, by omega, by omega⟩
  · exact absurd rfl h5
  · exact absurd h id
theorem kc_sub.ok {β : Nat → Nat} {N : Nat} {f g : kc_F} {v : Value} (h : kc_sub f g = true) (hv : kc_t β N f v) : kc_t β N g v := by
  obtain ⟨t, lo, hi⟩ := f
  obtain ⟨t', lo', hi'⟩ := g
  obtain ⟨h1, h2, h3⟩ := of_decide_eq_true h
  dsimp only at h1 h2 h3
  subst h1
  unfold kc_t at hv ⊢
  dsimp only at hv ⊢
  split at hv
  · obtain ⟨x, rfl, e1, e2⟩ := hv
    exact ⟨x, rfl, by omega, by omega⟩
  · obtain ⟨x, rfl, e1, e2⟩ := hv
    exact ⟨x, rfl, by omega, by omega⟩
  · rcases hv with ⟨rfl, e1, e2⟩ | ⟨r, rfl, e2, e3, e4, e5⟩
    · exact Or.inl ⟨rfl, by omega, by omega⟩
    · exact Or.inr ⟨r, rfl, e2, e3, by omega, by omega⟩
  · exact absurd hv id
def kc_loc (ρ : Nat → Int) (β : Nat → Nat) (N : Nat) (n : Nat) (L : List kc_V) (lv : List (Nat × Value)) : Prop := ∀ (i : Nat) (a : kc_V), L[i]? = some a → a.1 ≠ 0 → a.2.1 < n ∧ ∃ v : Value, (i, v) ∈ lv ∧ kc_v ρ β N a v
def kc_stk (ρ : Nat → Int) (β : Nat → Nat) (N : Nat) (n : Nat) : List kc_V → List Value → Prop
  | [], [] => True
  | a :: L, v :: st => a.2.1 < n ∧ kc_v ρ β N a v ∧ kc_stk ρ β N n L st
  | _, _ => False
theorem kc_loc.ext {ρ ρ' : Nat → Int} {β β' : Nat → Nat} {N N' : Nat} {n n' : Nat} {L : List kc_V} {lv : List (Nat × Value)} (h : kc_loc ρ β N n L lv) (h1 : ∀ k, k < n → ρ' k = ρ k) (h2 : ∀ k, k ≤ N → β' k = β k) (h3 : N ≤ N') (hn : n ≤ n') : kc_loc ρ' β' N' n' L lv := fun i a ha ht => by
  obtain ⟨g1, v, g2, g3⟩ := h i a ha ht
  exact ⟨Nat.lt_of_lt_of_le g1 hn, v, g2, g3.ext g1 h1 h2 h3⟩
theorem kc_stk.ext {ρ ρ' : Nat → Int} {β β' : Nat → Nat} {N N' : Nat} {n n' : Nat} (h1 : ∀ k, k < n → ρ' k = ρ k) (h2 : ∀ k, k ≤ N → β' k = β k) (h3 : N ≤ N') (hn : n ≤ n') : ∀ {L : List kc_V} {st : List Value}, kc_stk ρ β N n L st → kc_stk ρ' β' N' n' L st
  | [], [], _ => trivial
  | _ :: _, _ :: _, h => ⟨Nat.lt_of_lt_of_le h.1 hn, h.2.1.ext h.1 h1 h2 h3, kc_stk.ext h1 h2 h3 hn h.2.2⟩
  | [], _ :: _, h => absurd h id
  | _ :: _, [], h => absurd h id
theorem kc_cat1 {ρ : Nat → Int} {β : Nat → Nat} {N : Nat} {a : kc_V} {v : Value} (h : kc_v ρ β N a v) (ha : a.1 ≠ 2) : v.category = 1 := by
  obtain ⟨t, n, d⟩ := a
  unfold kc_v at h
  dsimp only at h ha
  split at h
  · obtain ⟨x, rfl, -⟩ := h; rfl
  · exact absurd rfl ha
  · rcases h with ⟨rfl, -⟩ | ⟨r, rfl, -⟩ <;> rfl
  · subst h; rfl
  · exact absurd h id
theorem kc_cat2 {ρ : Nat → Int} {β : Nat → Nat} {N : Nat} {n : Nat} {d : Int} {v : Value} (h : kc_v ρ β N (2, n, d) v) : v.category = 2 := by
  obtain ⟨x, rfl, -⟩ := h; rfl
-- numbers
theorem kc_i32 (x : Int32) : -2147483648 ≤ x.toInt ∧ x.toInt ≤ 2147483647 := by
  have h1 := x.le_toInt
  have h2 := x.toInt_lt
  omega
theorem kc_i64 (x : Int64) : -9223372036854775808 ≤ x.toInt ∧ x.toInt ≤ 9223372036854775807 := by
  have h1 := x.le_toInt
  have h2 := x.toInt_lt
  omega
theorem kc_add32 {x y : Int32} (h1 : -2147483648 ≤ x.toInt + y.toInt) (h2 : x.toInt + y.toInt ≤ 2147483647) : (x + y).toInt = x.toInt + y.toInt := by
  rw [Int32.toInt_add]
  exact Int.bmod_eq_of_le (by omega) (by omega)
theorem kc_sub32 {x y : Int32} (h1 : -2147483648 ≤ x.toInt - y.toInt) (h2 : x.toInt - y.toInt ≤ 2147483647) : (x - y).toInt = x.toInt - y.toInt := by
  rw [Int32.toInt_sub]
  exact Int.bmod_eq_of_le (by omega) (by omega)
theorem kc_mul32 {x y : Int32} (h1 : -2147483648 ≤ x.toInt * y.toInt) (h2 : x.toInt * y.toInt ≤ 2147483647) : (x * y).toInt = x.toInt * y.toInt := by
  rw [Int32.toInt_mul]
  exact Int.bmod_eq_of_le (by omega) (by omega)
/-- a cell, and what the executor says of it -/
def kc_e (ρ : Nat → Int) (β : Nat → Nat) (N n : Nat) (tys : List (ClassId × FieldType)) (g : kc_G) (e : va_E) : Prop := match g.1 with
  | 0 => ∃ fs : List Value, e = .inr (g.2.1, fs) ∧ fs.length = g.2.2.2.2.2.2.length ∧ ∀ (j : Nat) (a : kc_V) (v : Value), g.2.2.2.2.2.2[j]? = some a → fs[j]? = some v → a.2.1 < n ∧ kc_v ρ β N a v
  | 1 => ∃ (cA : ClassId) (t0 : Nat) (h : Nat → Int32), e = .inl (cA, g.2.2.2.1, .inl h) ∧ tys[t0]? = some (cA, g.2.2.1) ∧ ∀ j : Nat, j < g.2.2.2.1 → kc_t β N (g.2.2.2.2.2.1.getD j g.2.2.2.2.1) (.int (h j))
  | 2 => ∃ (cA : ClassId) (t0 : Nat) (h : Nat → Int64), e = .inl (cA, g.2.2.2.1, .inr (.inl h)) ∧ tys[t0]? = some (cA, .long) ∧ ∀ j : Nat, j < g.2.2.2.1 → kc_t β N (g.2.2.2.2.2.1.getD j g.2.2.2.2.1) (.long (h j))
  | 3 => ∃ (cA : ClassId) (t0 : Nat) (h : Nat → Option Nat), e = .inl (cA, g.2.2.2.1, .inr (.inr (.inr (.inr h)))) ∧ tys[t0]? = some (cA, g.2.2.1) ∧ ∀ j : Nat, j < g.2.2.2.1 → kc_t β N (g.2.2.2.2.2.1.getD j g.2.2.2.2.1) (va_rf (h j))
  | _ => False
theorem kc_e.ext {ρ ρ' : Nat → Int} {β β' : Nat → Nat} {N N' n n' : Nat} {tys tys' : List (ClassId × FieldType)} {g : kc_G} {e : va_E} (h : kc_e ρ β N n tys g e) (h1 : ∀ k, k < n → ρ' k = ρ k) (h2 : ∀ k, k ≤ N → β' k = β k) (h3 : N ≤ N') (hn : n ≤ n') (ht : ∀ (k : Nat) (q : ClassId × FieldType), tys[k]? = some q → tys'[k]? = some q) : kc_e ρ' β' N' n' tys' g e := by
  unfold kc_e at h ⊢
  split at h
  · obtain ⟨fs, e1, e2, e4⟩ := h
    exact ⟨fs, e1, e2, fun j a v ha hv => ⟨Nat.lt_of_lt_of_le (e4 j a v ha hv).1 hn, (e4 j a v ha hv).2.ext (e4 j a v ha hv).1 h1 h2 h3⟩⟩
  · obtain ⟨cA, t0, k, e1, e2, e4⟩ := h
    exact ⟨cA, t0, k, e1, ht _ _ e2, fun j hj => (e4 j hj).ext h2 h3⟩
  · obtain ⟨cA, t0, k, e1, e2, e4⟩ := h
    exact ⟨cA, t0, k, e1, ht _ _ e2, fun j hj => (e4 j hj).ext h2 h3⟩
  · obtain ⟨cA, t0, k, e1, e2, e4⟩ := h
    exact ⟨cA, t0, k, e1, ht _ _ e2, fun j hj => (e4 j hj).ext h2 h3⟩
  · exact h
/-- the cells, in their order -/
def kc_C (ρ : Nat → Int) (β : Nat → Nat) (n : Nat) (tys : List (ClassId × FieldType)) (Hs : List kc_G) (ws : va_W) : Prop := ws.length = Hs.length ∧ ∀ (k : Nat) (g : kc_G), Hs[k]? = some g → ∃ e : va_E, ws[k]? = some (β (k + 1), e) ∧ kc_e ρ β Hs.length n tys g e
theorem kc_C.ext {ρ ρ' : Nat → Int} {β : Nat → Nat} {n n' : Nat} {tys : List (ClassId × FieldType)} {Hs : List kc_G} {ws : va_W} (h : kc_C ρ β n tys Hs ws) (h1 : ∀ k, k < n → ρ' k = ρ k) (hn : n ≤ n') : kc_C ρ' β n' tys Hs ws := ⟨h.1, fun k g hk => by
  obtain ⟨e, e1, e2⟩ := h.2 k g hk
  exact ⟨e, e1, e2.ext h1 (fun _ _ => rfl) (Nat.le_refl _) hn (fun _ _ q => q)⟩⟩
/-- the world -/
def kc_W (D : va_G) (cl : List vw_C) (A : Nat → Prop) (s : State) (H0 : Heap) (ρ : Nat → Int) (β : Nat → Nat) (n : Nat) (Hs : List kc_G) (ws : va_W) (tys : List (ClassId × FieldType)) (H : Heap) (locs : List Loc) : Prop :=
  va_K D cl tys s ∧ va_P D cl ws H ∧ va_D A ws ∧ va_S A H0 H locs ∧ kc_C ρ β n tys Hs ws
/-- the first nA symbols and nB cells are as they were at a method's start, or at a loop's head -/
def kc_ag (nA : Nat) (ρ0 : Nat → Int) (nB : Nat) (β0 : Nat → Nat) (n N : Nat) (ρ : Nat → Int) (β : Nat → Nat) : Prop := nA ≤ n ∧ nB ≤ N ∧ (∀ k, k < nA → ρ k = ρ0 k) ∧ ∀ k, k ≤ nB → β k = β0 k
theorem kc_ag.ext {nA nB n N n' N' : Nat} {ρ0 ρ ρ' : Nat → Int} {β0 β β' : Nat → Nat} (h : kc_ag nA ρ0 nB β0 n N ρ β) (h1 : ∀ k, k < n → ρ' k = ρ k) (h2 : ∀ k, k ≤ N → β' k = β k) (hn : n ≤ n') (hN : N ≤ N') : kc_ag nA ρ0 nB β0 n' N' ρ' β' :=
  ⟨Nat.le_trans h.1 hn, Nat.le_trans h.2.1 hN, fun k hk => (h1 k (Nat.lt_of_lt_of_le hk h.1)).trans (h.2.2.1 k hk), fun k hk => (h2 k (Nat.le_trans hk h.2.1)).trans (h.2.2.2 k hk)⟩
section KA
variable {p : Program} {l : Launch} {e : Env} {R : Room} {s : State} {m : MethodId} {args : Array Value} {below : List Frame} {meth : Method} {c : Code} {Q : State → Prop}
variable {cc : ByteArray} {nL : Nat} {D : va_G} {cl : List vw_C} {A : Nat → Prop} {H0 : Heap}
/-- a state of the executor, and the machine's -/
def kc_ok (D : va_G) (cl : List vw_C) (A : Nat → Prop) (s : State) (H0 : Heap) (nL : Nat) (E : kc_E) (L K : List kc_V) (Hs : List kc_G) (ρ : Nat → Int) (β : Nat → Nat) (ws : va_W) (tys : List (ClassId × FieldType)) (H : Heap) (locs : List Loc) (ls : Array Slot) (lv : List (Nat × Value)) (st : List Value) : Prop :=
  kc_env ρ E ∧ (0 < E.length ∧ ρ 0 = 0) ∧ kc_loc ρ β Hs.length E.length L lv ∧ lv_has ls nL lv ∧ kc_stk ρ β Hs.length E.length K st ∧ kc_W D cl A s H0 ρ β E.length Hs ws tys H locs
/-- from every such state the machine comes to Q -/
def kc_J (p : Program) (l : Launch) (e : Env) (R : Room) (s : State) (m : MethodId) (args : Array Value) (below : List Frame) (meth : Method) (c : Code) (Q : State → Prop) (D : va_G) (cl : List vw_C) (A : Nat → Prop) (H0 : Heap) (nL : Nat) (nA : Nat) (ρ0 : Nat → Int) (nB : Nat) (β0 : Nat → Nat) (pc : Nat) (S : kc_S) : Prop :=
  ∀ (ρ : Nat → Int) (β : Nat → Nat) (ws : va_W) (tys : List (ClassId × FieldType)) (H : Heap) (locs : List Loc) (ls : Array Slot) (lv : List (Nat × Value)) (st : List Value),
    kc_ok D cl A s H0 nL S.1 S.2.1 S.2.2.1 S.2.2.2.1 ρ β ws tys H locs ls lv st → kc_ag nA ρ0 nB β0 S.1.length S.2.2.2.1.length ρ β → W p l e R s m args below meth c H locs S.2.2.2.2.1 S.2.2.2.2.2 Q (F0 m pc ls st)
/-- a value that comes, with the bounds as they then are -/
def kc_r (E : kc_E) (ρ : Nat → Int) (β : Nat → Nat) (N : Nat) (E' : kc_E) (a : kc_V) (v : Value) : Prop := ∃ ρ' : Nat → Int, (∀ k, k < E.length → ρ' k = ρ k) ∧ kc_env ρ' E' ∧ E.length ≤ E'.length ∧ a.2.1 < E'.length ∧ kc_v ρ' β N a v
variable {nA : Nat} {ρ0 : Nat → Int} {nB : Nat} {β0 : Nat → Nat}
variable {E E' : kc_E} {L L' K K' : List kc_V} {Hs : List kc_G} {cs ss pc : Nat} {ρ ρ' : Nat → Int} {β : Nat → Nat} {ws : va_W} {tys : List (ClassId × FieldType)} {H : Heap} {locs : List Loc} {ls ls' : Array Slot} {lv lv' : List (Nat × Value)} {st st' : List Value} {a : kc_V} {v : Value}
theorem kc_J.mv (k : kc_J p l e R s m args below meth c Q D cl A H0 nL nA ρ0 nB β0 pc (E', L', K', Hs, cs, ss)) (hk : kc_ok D cl A s H0 nL E L K Hs ρ β ws tys H locs ls lv st) (hg : kc_ag nA ρ0 nB β0 E.length Hs.length ρ β)
    (g1 : ∀ k, k < E.length → ρ' k = ρ k) (g3 : kc_env ρ' E') (g4 : E.length ≤ E'.length) (hL : kc_loc ρ' β Hs.length E'.length L' lv') (hl : lv_has ls' nL lv') (hK : kc_stk ρ' β Hs.length E'.length K' st') : W p l e R s m args below meth c H locs cs ss Q (F0 m pc ls' st') := by
  obtain ⟨hE, h0, -, -, -, w1, w2, w3, w4, w5⟩ := hk
  exact k ρ' β ws tys H locs ls' lv' st' ⟨g3, ⟨Nat.lt_of_lt_of_le h0.1 g4, by rw [g1 0 h0.1]; exact h0.2⟩, hL, hl, hK, w1, w2, w3, w4, w5.ext g1 g4⟩ (hg.ext g1 (fun _ _ => rfl) g4 (Nat.le_refl _))
theorem kc_J.res (k : kc_J p l e R s m args below meth c Q D cl A H0 nL nA ρ0 nB β0 pc (E', L, a :: K', Hs, cs, ss)) (hk : kc_ok D cl A s H0 nL E L K Hs ρ β ws tys H locs ls lv st) (hg : kc_ag nA ρ0 nB β0 E.length Hs.length ρ β)
    (hK : kc_stk ρ β Hs.length E.length K' st') (hr : kc_r E ρ β Hs.length E' a v) : W p l e R s m args below meth c H locs cs ss Q (F0 m pc ls (v :: st')) := by
  obtain ⟨ρ', g1, g3, g4, g5, g6⟩ := hr
  exact kc_J.mv k hk hg g1 g3 g4 (hk.2.2.1.ext g1 (fun _ _ => rfl) (Nat.le_refl _) g4) hk.2.2.2.1 ⟨g5, g6, kc_stk.ext g1 (fun _ _ => rfl) (Nat.le_refl _) g4 hK⟩
theorem kc_J.go (k : kc_J p l e R s m args below meth c Q D cl A H0 nL nA ρ0 nB β0 pc (E, L, K', Hs, cs, ss)) (hk : kc_ok D cl A s H0 nL E L K Hs ρ β ws tys H locs ls lv st) (hg : kc_ag nA ρ0 nB β0 E.length Hs.length ρ β)
    (hK : kc_stk ρ β Hs.length E.length K' st') : W p l e R s m args below meth c H locs cs ss Q (F0 m pc ls st') :=
  kc_J.mv k hk hg (fun _ _ => rfl) hk.1 (Nat.le_refl _) hk.2.2.1 hk.2.2.2.1 hK
theorem kc_r.old {N : Nat} (hE : kc_env ρ E) (ha : a.2.1 < E.length) (hv : kc_v ρ β N a v) : kc_r E ρ β N E a v := ⟨ρ, fun _ _ => rfl, hE, Nat.le_refl _, ha, hv⟩
theorem kc_r.new {N t : Nat} {lo hi z : Int} (hE : kc_env ρ E) (h1 : lo ≤ z) (h2 : z ≤ hi) (hv : ∀ (ρ : Nat → Int) (n : Nat) (d : Int), ρ n + d = z → kc_v ρ β N (t, n, d) v) : kc_r E ρ β N (E ++ [(lo, hi)]) (t, E.length, 0) v :=
  ⟨va_up ρ E.length z, fun k h => va_up_ne _ _ (Nat.ne_of_lt h), hE.push h1 h2, by simp, by simp, hv _ _ _ (by rw [va_up_self]; omega)⟩
theorem kc_mk.ok {N t : Nat} {lo hi z : Int} (hE : kc_env ρ E) (h0 : 0 < E.length ∧ ρ 0 = 0) (h1 : lo ≤ z) (h2 : z ≤ hi) (hv : ∀ (ρ : Nat → Int) (n : Nat) (d : Int), ρ n + d = z → kc_v ρ β N (t, n, d) v) : kc_r E ρ β N (kc_mk E t lo hi).1 (kc_mk E t lo hi).2 v := by
  unfold kc_mk
  by_cases e : lo = hi
  · rw [if_pos e]
    exact kc_r.old hE h0.1 (hv _ _ _ (by omega))
  · rw [if_neg e]
    exact kc_r.new hE h1 h2 hv
theorem kc_mk.i {N : Nat} {lo hi : Int} {x : Int32} (hE : kc_env ρ E) (h0 : 0 < E.length ∧ ρ 0 = 0) (h1 : lo ≤ x.toInt) (h2 : x.toInt ≤ hi) : kc_r E ρ β N (kc_mk E 1 lo hi).1 (kc_mk E 1 lo hi).2 (.int x) := kc_mk.ok hE h0 h1 h2 (fun _ _ _ e => ⟨x, rfl, by dsimp only; omega⟩)
theorem kc_mk.lg {N : Nat} {lo hi : Int} {x : Int64} (hE : kc_env ρ E) (h0 : 0 < E.length ∧ ρ 0 = 0) (h1 : lo ≤ x.toInt) (h2 : x.toInt ≤ hi) : kc_r E ρ β N (kc_mk E 2 lo hi).1 (kc_mk E 2 lo hi).2 (.long x) := kc_mk.ok hE h0 h1 h2 (fun _ _ _ e => ⟨x, rfl, by dsimp only; omega⟩)
theorem kc_rd.ok {N : Nat} {f : kc_F} (hE : kc_env ρ E) (h0 : 0 < E.length ∧ ρ 0 = 0) (h : kc_t β N f v) : kc_r E ρ β N (kc_rd E f).1 (kc_rd E f).2 v := by
  obtain ⟨z, h1, h2, h3⟩ := h.read
  exact kc_mk.ok hE h0 h1 h2 h3
end KA
end
section
section KB
variable {E : kc_E} {ρ : Nat → Int} {β : Nat → Nat} {N : Nat} {a b : kc_V} {x y : Int32}
theorem kc_iadd.ok (hE : kc_env ρ E) (h0 : 0 < E.length ∧ ρ 0 = 0) (ha : a.2.1 < E.length) (hb : b.2.1 < E.length) (ea : x.toInt = ρ a.2.1 + a.2.2) (eb : y.toInt = ρ b.2.1 + b.2.2) : kc_r E ρ β N (kc_iadd E a b).1 (kc_iadd E a b).2 (.int (x + y)) := by
  have h1 := hE.at a
  have h2 := hE.at b
  unfold kc_iadd
  by_cases c : (-2147483648) ≤ kc_lo E a + kc_lo E b ∧ kc_hi E a + kc_hi E b ≤ 2147483647
  · rw [if_pos c]
    have es : (x + y).toInt = x.toInt + y.toInt := kc_add32 (by omega) (by omega)
    by_cases c1 : kc_lo E b = kc_hi E b
    · rw [if_pos c1]
      exact kc_r.old hE ha ⟨x + y, rfl, by dsimp only; omega⟩
    · rw [if_neg c1]
      by_cases c2 : kc_lo E a = kc_hi E a
      · rw [if_pos c2]
        exact kc_r.old hE hb ⟨x + y, rfl, by dsimp only; omega⟩
      · rw [if_neg c2]
        exact kc_mk.i hE h0 (by omega) (by omega)
  · rw [if_neg c]
    exact kc_mk.i hE h0 (kc_i32 _).1 (kc_i32 _).2
theorem kc_isub.ok (hE : kc_env ρ E) (h0 : 0 < E.length ∧ ρ 0 = 0) (ha : a.2.1 < E.length) (ea : x.toInt = ρ a.2.1 + a.2.2) (eb : y.toInt = ρ b.2.1 + b.2.2) : kc_r E ρ β N (kc_isub E a b).1 (kc_isub E a b).2 (.int (x - y)) := by
  have h1 := hE.at a
  have h2 := hE.at b
  unfold kc_isub
  by_cases c : (-2147483648) ≤ kc_lo E a - kc_hi E b ∧ kc_hi E a - kc_lo E b ≤ 2147483647
  · rw [if_pos c]
    have es : (x - y).toInt = x.toInt - y.toInt := kc_sub32 (by omega) (by omega)
    by_cases c1 : kc_lo E b = kc_hi E b
    · rw [if_pos c1]
      exact kc_r.old hE ha ⟨x - y, rfl, by dsimp only; omega⟩
    · rw [if_neg c1]
      by_cases c2 : a.2.1 = b.2.1
      · rw [if_pos c2]
        rw [c2] at ea
        exact kc_r.old hE h0.1 ⟨x - y, rfl, by dsimp only; omega⟩
      · rw [if_neg c2]
        exact kc_mk.i hE h0 (by omega) (by omega)
  · rw [if_neg c]
    exact kc_mk.i hE h0 (kc_i32 _).1 (kc_i32 _).2
end KB
theorem kc_nn {x : Int32} (h : 0 ≤ x.toInt) : ∃ j : Nat, j < 2 ^ 31 ∧ x = nI j ∧ x.toInt = (j : Int) := by
  have h1 : ¬ x < 0 := by
    rw [Int32.lt_iff_toInt_lt]
    have : (0 : Int32).toInt = 0 := rfl
    omega
  obtain ⟨j, hj, e⟩ := nI_of h1
  exact ⟨j, hj, e, by rw [e, nI_toInt hj]⟩
theorem kc_cst {x : Int32} {z : Int} (h : x.toInt = z) : x = Int32.ofInt z := by
  rw [← h]
  exact (Int32.ofInt_toInt x).symm
theorem kc_and_le (x y : Int32) (h : 0 ≤ y.toInt) : 0 ≤ (x &&& y).toInt ∧ (x &&& y).toInt ≤ y.toInt := by
  obtain ⟨j, hj, e, ej⟩ := kc_nn h
  have h1 : (x &&& y).toBitVec.toNat ≤ y.toBitVec.toNat := by
    rw [Int32.toBitVec_and, BitVec.toNat_and]
    exact Nat.and_le_right
  have h2 : y.toBitVec.toNat = j := by rw [e]; exact pk_tn (by omega)
  have h3 : (x &&& y).toInt = ((x &&& y).toBitVec.toNat : Int) := by
    show (x &&& y).toBitVec.toInt = _
    rw [BitVec.toInt_eq_toNat_cond, if_pos (by omega)]
  rw [h3, ej]
  omega
section KC
variable {E : kc_E} {ρ : Nat → Int} {β : Nat → Nat} {N : Nat} {a b : kc_V} {x y : Int32}
theorem kc_imul.ok (hE : kc_env ρ E) (h0 : 0 < E.length ∧ ρ 0 = 0) (ea : x.toInt = ρ a.2.1 + a.2.2) (eb : y.toInt = ρ b.2.1 + b.2.2) : kc_r E ρ β N (kc_imul E a b).1 (kc_imul E a b).2 (.int (x * y)) := by
  have h1 := hE.at a
  have h2 := hE.at b
  unfold kc_imul
  by_cases c : 0 ≤ kc_lo E a ∧ 0 ≤ kc_lo E b ∧ kc_hi E a * kc_hi E b ≤ 2147483647
  · rw [if_pos c]
    have g1 : kc_lo E a * kc_lo E b ≤ x.toInt * y.toInt := Int.mul_le_mul (by omega) (by omega) (by omega) (by omega)
    have g2 : x.toInt * y.toInt ≤ kc_hi E a * kc_hi E b := Int.mul_le_mul (by omega) (by omega) (by omega) (by omega)
    have g3 : 0 ≤ kc_lo E a * kc_lo E b := Int.mul_nonneg (by omega) (by omega)
    have es : (x * y).toInt = x.toInt * y.toInt := kc_mul32 (by omega) (by omega)
    exact kc_mk.i hE h0 (by omega) (by omega)
  · rw [if_neg c]
    exact kc_mk.i hE h0 (kc_i32 _).1 (kc_i32 _).2
theorem kc_idiv.ok (hE : kc_env ρ E) (h0 : 0 < E.length ∧ ρ 0 = 0) (ea : x.toInt = ρ a.2.1 + a.2.2) (eb : y.toInt = ρ b.2.1 + b.2.2) : kc_r E ρ β N (kc_idiv E a b).1 (kc_idiv E a b).2 (.int (x / y)) := by
  have h1 := hE.at a
  have h2 := hE.at b
  unfold kc_idiv
  by_cases c : 0 ≤ kc_lo E a ∧ 0 < kc_lo E b
  · rw [if_pos c]
    obtain ⟨j, hj, ej, ej2⟩ := kc_nn (x := x) (by omega)
    obtain ⟨k, hk, ek, ek2⟩ := kc_nn (x := y) (by omega)
    have es : (x / y).toInt = x.toInt / y.toInt := by
      rw [ej, ek, pk_div hj (by omega) hk, nI_toInt (Nat.lt_of_le_of_lt (Nat.div_le_self _ _) hj), nI_toInt hj, nI_toInt hk]
      exact Int.natCast_ediv j k
    by_cases c1 : kc_lo E b = kc_hi E b
    · rw [if_pos c1]
      have ey : y.toInt = kc_lo E b := by omega
      rw [ey] at es
      exact kc_mk.i hE h0 (by rw [es]; exact Int.ediv_le_ediv c.2 (by omega)) (by rw [es]; exact Int.ediv_le_ediv c.2 (by omega))
    · rw [if_neg c1]
      have g1 : 0 ≤ x.toInt / y.toInt := Int.ediv_nonneg (by omega) (by omega)
      have g2 : x.toInt / y.toInt ≤ x.toInt := Int.ediv_le_self _ (by omega)
      exact kc_mk.i hE h0 (by omega) (by omega)
  · rw [if_neg c]
    exact kc_mk.i hE h0 (kc_i32 _).1 (kc_i32 _).2
theorem kc_irem.ok (hE : kc_env ρ E) (h0 : 0 < E.length ∧ ρ 0 = 0) (ea : x.toInt = ρ a.2.1 + a.2.2) (eb : y.toInt = ρ b.2.1 + b.2.2) : kc_r E ρ β N (kc_irem E a b).1 (kc_irem E a b).2 (.int (x - x / y * y)) := by
  have h1 := hE.at a
  have h2 := hE.at b
  unfold kc_irem
  by_cases c : 0 ≤ kc_lo E a ∧ 0 < kc_lo E b
  · rw [if_pos c]
    obtain ⟨j, hj, ej, ej2⟩ := kc_nn (x := x) (by omega)
    obtain ⟨k, hk, ek, ek2⟩ := kc_nn (x := y) (by omega)
    have h3 : j % k < k := Nat.mod_lt _ (by omega)
    have h4 : j % k ≤ j := Nat.mod_le _ _
    have es : (x - x / y * y).toInt = ((j % k : Nat) : Int) := by
      rw [ej, ek, pk_rem hj (by omega) hk, nI_toInt (by omega)]
    exact kc_mk.i hE h0 (by omega) (by split <;> omega)
  · rw [if_neg c]
    exact kc_mk.i hE h0 (kc_i32 _).1 (kc_i32 _).2
theorem kc_iand.ok (hE : kc_env ρ E) (h0 : 0 < E.length ∧ ρ 0 = 0) (ea : x.toInt = ρ a.2.1 + a.2.2) (eb : y.toInt = ρ b.2.1 + b.2.2) : kc_r E ρ β N (kc_iand E a b).1 (kc_iand E a b).2 (.int (x &&& y)) := by
  have h1 := hE.at a
  have h2 := hE.at b
  unfold kc_iand
  by_cases c : 0 ≤ kc_lo E b
  · rw [if_pos c]
    have g := kc_and_le x y (by omega)
    exact kc_mk.i hE h0 (by omega) (by omega)
  · rw [if_neg c]
    by_cases c1 : 0 ≤ kc_lo E a
    · rw [if_pos c1]
      have g := kc_and_le y x (by omega)
      rw [Int32.and_comm] at g
      exact kc_mk.i hE h0 (by omega) (by omega)
    · rw [if_neg c1]
      exact kc_mk.i hE h0 (kc_i32 _).1 (kc_i32 _).2
theorem kc_con.ok (f : Int32 → Int32 → Int32) (hE : kc_env ρ E) (h0 : 0 < E.length ∧ ρ 0 = 0) (ea : x.toInt = ρ a.2.1 + a.2.2) (eb : y.toInt = ρ b.2.1 + b.2.2) : kc_r E ρ β N (kc_con f E a b).1 (kc_con f E a b).2 (.int (f x y)) := by
  have h1 := hE.at a
  have h2 := hE.at b
  unfold kc_con
  by_cases c : kc_lo E a = kc_hi E a ∧ kc_lo E b = kc_hi E b
  · rw [if_pos c]
    have e1 : x = Int32.ofInt (kc_lo E a) := kc_cst (by omega)
    have e2 : y = Int32.ofInt (kc_lo E b) := kc_cst (by omega)
    refine kc_r.old hE h0.1 ⟨f x y, rfl, ?_⟩
    dsimp only
    rw [← e1, ← e2]
    omega
  · rw [if_neg c]
    exact kc_mk.i hE h0 (kc_i32 _).1 (kc_i32 _).2
end KC
section KD
variable {p : Program} {l : Launch} {e : Env} {R : Room} {s : State} {m : MethodId} {args : Array Value} {below : List Frame} {meth : Method} {c : Code} {H : Heap} {locs : List Loc} {cells slots : Nat} {Q : State → Prop} {cc : ByteArray} {pc : Nat} {ls : Array Slot} {rest : List Value}
variable {E : kc_E} {ρ : Nat → Int} {β : Nat → Nat} {N : Nat} {a b : kc_V} {x y : Int32}
theorem kc_ne0 {y : Int32} (h : y.toInt ≠ 0) : ¬ y = 0 := fun q => h (by rw [q]; rfl)
theorem kc_b32.ok {i : Instr} {r : kc_E × kc_V} (h : kc_b32 i E a b = some r) (hx : p.tables.exec = Jvm.exec) (hb : c.code = cc) (hd : decode cc pc = .ok (i, 1)) (hE : kc_env ρ E) (h0 : 0 < E.length ∧ ρ 0 = 0) (ha : a.2.1 < E.length) (hbl : b.2.1 < E.length) (ea : x.toInt = ρ a.2.1 + a.2.2) (eb : y.toInt = ρ b.2.1 + b.2.2)
    (k : ∀ z : Int32, kc_r E ρ β N r.1 r.2 (.int z) → W p l e R s m args below meth c H locs cells slots Q (F0 m (pc + 1) ls (.int z :: rest))) : W p l e R s m args below meth c H locs cells slots Q (F0 m pc ls (.int y :: .int x :: rest)) := by
  have h1 := hE.at b
  unfold kc_b32 at h
  split at h
  · cases h; exact lv_iadd hx hb hd (k _ (kc_iadd.ok hE h0 ha hbl ea eb))
  · cases h; exact lv_isub hx hb hd (k _ (kc_isub.ok hE h0 ha ea eb))
  · cases h; exact lv_imul hx hb hd (k _ (kc_imul.ok hE h0 ea eb))
  · split at h
    · cases h; exact lv_idiv hx hb hd (kc_ne0 (by omega)) (k _ (kc_idiv.ok hE h0 ea eb))
    · cases h
  · split at h
    · cases h; exact lv_irem hx hb hd (kc_ne0 (by omega)) (k _ (kc_irem.ok hE h0 ea eb))
    · cases h
  · cases h; exact lv_iand hx hb hd (k _ (kc_iand.ok hE h0 ea eb))
  · cases h; exact lv_ior hx hb hd (k _ (kc_con.ok (· ||| ·) hE h0 ea eb))
  · cases h; exact lv_ixor hx hb hd (k _ (kc_con.ok (· ^^^ ·) hE h0 ea eb))
  · cases h; exact lv_ishl hx hb hd (k _ (kc_con.ok (fun x y => x <<< (y &&& 31)) hE h0 ea eb))
  · cases h; exact lv_ishr hx hb hd (k _ (kc_con.ok (fun x y => x >>> (y &&& 31)) hE h0 ea eb))
  · cases h; exact lv_iushr hx hb hd rfl (k _ (kc_con.ok (fun x y => (x.toUInt32 >>> (y.toUInt32 &&& Int32.toUInt32 31)).toInt32) hE h0 ea eb))
  · cases h
end KD

theorem kc_mm.ok {E : kc_E} {ρ : Nat → Int} {β : Nat → Nat} {N n1 n2 : Nat} {d1 d2 : Int} {x y : Int32} (mx : Bool) (hE : kc_env ρ E) (h0 : 0 < E.length ∧ ρ 0 = 0) (ha : n1 < E.length) (hb : n2 < E.length) (ea : x.toInt = ρ n1 + d1) (eb : y.toInt = ρ n2 + d2) : kc_r E ρ β N (kc_mm mx E (1, n1, d1) (1, n2, d2)).1 (kc_mm mx E (1, n1, d1) (1, n2, d2)).2 (.int (if mx = true then (if x < y then y else x) else (if y < x then y else x))) := by
  have h1 := hE.at (1, n1, d1)
  have h2 := hE.at (1, n2, d2)
  dsimp only at h1 h2
  have g1 : x < y ↔ x.toInt < y.toInt := Int32.lt_iff_toInt_lt
  have g2 : y < x ↔ y.toInt < x.toInt := Int32.lt_iff_toInt_lt
  unfold kc_mm
  cases mx with
  | true =>
    dsimp only
    rw [if_pos (show true = true from rfl)]
    by_cases c1 : kc_hi E (1, n2, d2) ≤ kc_lo E (1, n1, d1)
    · rw [if_pos c1, if_neg (fun q => by have := g1.mp q; omega)]
      exact kc_r.old hE ha ⟨x, rfl, ea⟩
    · rw [if_neg c1]
      by_cases c2 : kc_hi E (1, n1, d1) ≤ kc_lo E (1, n2, d2)
      · rw [if_pos c2]
        by_cases c3 : x < y
        · rw [if_pos c3]
          exact kc_r.old hE hb ⟨y, rfl, eb⟩
        · rw [if_neg c3]
          have c4 : ¬ x.toInt < y.toInt := fun q => c3 (g1.mpr q)
          exact kc_r.old hE hb ⟨x, rfl, by dsimp only; omega⟩
      · rw [if_neg c2]
        by_cases c3 : x < y
        · rw [if_pos c3]
          have c4 := g1.mp c3
          exact kc_mk.i hE h0 (by split <;> omega) (by split <;> omega)
        · rw [if_neg c3]
          have c4 : ¬ x.toInt < y.toInt := fun q => c3 (g1.mpr q)
          exact kc_mk.i hE h0 (by split <;> omega) (by split <;> omega)
  | false =>
    dsimp only
    rw [if_neg (show ¬ (false = true) by decide)]
    by_cases c1 : kc_hi E (1, n1, d1) ≤ kc_lo E (1, n2, d2)
    · rw [if_pos c1, if_neg (fun q => by have := g2.mp q; omega)]
      exact kc_r.old hE ha ⟨x, rfl, ea⟩
    · rw [if_neg c1]
      by_cases c2 : kc_hi E (1, n2, d2) ≤ kc_lo E (1, n1, d1)
      · rw [if_pos c2]
        by_cases c3 : y < x
        · rw [if_pos c3]
          exact kc_r.old hE hb ⟨y, rfl, eb⟩
        · rw [if_neg c3]
          have c4 : ¬ y.toInt < x.toInt := fun q => c3 (g2.mpr q)
          exact kc_r.old hE hb ⟨x, rfl, by dsimp only; omega⟩
      · rw [if_neg c2]
        by_cases c3 : y < x
        · rw [if_pos c3]
          have c4 := g2.mp c3
          exact kc_mk.i hE h0 (by split <;> omega) (by split <;> omega)
        · rw [if_neg c3]
          have c4 : ¬ y.toInt < x.toInt := fun q => c3 (g2.mpr q)
          exact kc_mk.i hE h0 (by split <;> omega) (by split <;> omega)
end
section
theorem kc_load.of {L : List kc_V} {t i : Nat} {a : kc_V} (h : kc_load L t i = some a) : L[i]? = some a ∧ a.1 = t := by
  unfold kc_load at h
  split at h
  · split at h
    · cases h; exact ⟨by assumption, by assumption⟩
    · cases h
  · cases h
theorem kc_st1.at {L : List kc_V} {i j : Nat} {a b : kc_V} (h : (kc_st1 L i a)[j]? = some b) (hb : b.1 ≠ 0) : (j = i ∧ b = a) ∨ (j ≠ i ∧ L[j]? = some b ∧ (j + 1 = i → b.1 ≠ 2)) := by
  unfold kc_st1 at h
  by_cases e : j = i
  · subst e
    left
    refine ⟨rfl, ?_⟩
    have hz : ∀ Z : List kc_V, (Z.set j a)[j]? = some b → b = a := by
      intro Z hZ
      rw [List.getElem?_set_self'] at hZ
      cases hq : Z[j]? with
      | none => rw [hq] at hZ; cases hZ
      | some z => rw [hq] at hZ; cases hZ; rfl
    exact hz _ h
  · rw [List.getElem?_set_ne (Ne.symm e)] at h
    right
    refine ⟨e, ?_⟩
    split at h
    · exact ⟨h, fun q => by omega⟩
    · rename_i i2
      split at h
      · rename_i b2 hb2
        split at h
        · rename_i h2
          by_cases e2 : j = i2
          · subst e2
            rw [List.getElem?_set_self'] at h
            rw [hb2] at h
            cases h
            exact absurd rfl hb
          · rw [List.getElem?_set_ne (Ne.symm e2)] at h
            exact ⟨h, fun q => by omega⟩
        · rename_i h2
          refine ⟨h, fun q => ?_⟩
          have : j = i2 := by omega
          subst this
          rw [hb2] at h
          cases h
          exact h2
      · rename_i hb2
        refine ⟨h, fun q => ?_⟩
        have : j = i2 := by omega
        subst this
        rw [hb2] at h
        cases h
theorem kc_loc.st1 {ρ : Nat → Int} {β : Nat → Nat} {N : Nat} {n i : Nat} {L : List kc_V} {lv : List (Nat × Value)} {a : kc_V} {v : Value} (h : kc_loc ρ β N n L lv) (ha : a.2.1 < n) (hv : kc_v ρ β N a v) : kc_loc ρ β N n (kc_st1 L i a) ((i, v) :: lv.filter (fun q => !(q.1 == i) && !(q.1 + 1 == i && q.2.category == 2))) := by
  intro j b hj hb
  rcases kc_st1.at hj hb with ⟨e1, e2⟩ | ⟨e1, e2, e3⟩
  · subst e1; subst e2
    exact ⟨ha, v, List.mem_cons_self, hv⟩
  · obtain ⟨g1, w, g2, g3⟩ := h j b e2 hb
    refine ⟨g1, w, List.mem_cons_of_mem _ (List.mem_filter.mpr ⟨g2, ?_⟩), g3⟩
    by_cases q : j + 1 = i
    · have := kc_cat1 g3 (e3 q)
      simp [e1, this]
    · simp [e1, q]
theorem kc_loc.st2 {ρ : Nat → Int} {β : Nat → Nat} {N : Nat} {n i : Nat} {L : List kc_V} {lv : List (Nat × Value)} {a : kc_V} {v : Value} (h : kc_loc ρ β N n L lv) (ha : a.2.1 < n) (hv : kc_v ρ β N a v) : kc_loc ρ β N n ((kc_st1 L i a).set (i + 1) (0, 0, 0)) ((i, v) :: lv.filter (fun q => !(q.1 == i) && (!(q.1 == i + 1) && !(q.1 + 1 == i && q.2.category == 2)))) := by
  intro j b hj hb
  have hji : j ≠ i + 1 := by
    intro q
    subst q
    rw [List.getElem?_set_self'] at hj
    cases hq : (kc_st1 L i a)[i + 1]? with
    | none => rw [hq] at hj; cases hj
    | some z => rw [hq] at hj; cases hj; exact hb rfl
  rw [List.getElem?_set_ne (Ne.symm hji)] at hj
  rcases kc_st1.at hj hb with ⟨e1, e2⟩ | ⟨e1, e2, e3⟩
  · subst e1; subst e2
    exact ⟨ha, v, List.mem_cons_self, hv⟩
  · obtain ⟨g1, w, g2, g3⟩ := h j b e2 hb
    refine ⟨g1, w, List.mem_cons_of_mem _ (List.mem_filter.mpr ⟨g2, ?_⟩), g3⟩
    by_cases q : j + 1 = i
    · have := kc_cat1 g3 (e3 q)
      simp [e1, hji, this]
    · simp [e1, hji, q]
theorem kc_loadr.of {L : List kc_V} {i : Nat} {a : kc_V} (h : kc_loadr L i = some a) : L[i]? = some a ∧ (a.1 = 3 ∨ a.1 = 5) := by
  unfold kc_loadr at h
  split at h
  · split at h
    · cases h; exact ⟨by assumption, by assumption⟩
    · cases h
  · cases h
section KE
variable {p : Program} {l : Launch} {e : Env} {R : Room} {s : State} {m : MethodId} {args : Array Value} {below : List Frame} {meth : Method} {c : Code} {Q : State → Prop}
variable {cc : ByteArray} {nL : Nat} {D : va_G} {cl : List vw_C} {A : Nat → Prop} {H0 : Heap}
variable {nA : Nat} {ρ0 : Nat → Int} {nB : Nat} {β0 : Nat → Nat}
variable {E E' : kc_E} {L L' K K' : List kc_V} {Hs : List kc_G} {cs ss pc : Nat} {ρ ρ' : Nat → Int} {β : Nat → Nat} {ws : va_W} {tys : List (ClassId × FieldType)} {H : Heap} {locs : List Loc} {ls ls' : Array Slot} {lv lv' : List (Nat × Value)} {st st' : List Value}
theorem kc_cst32 {n : Int} (h1 : -2147483648 ≤ n) (h2 : n ≤ 2147483647) : (Int32.ofInt n).toInt = n := Int32.toInt_ofInt_of_le (by omega) (by omega)
theorem kc_stk.uncons {N n : Nat} {a : kc_V} {K : List kc_V} {st : List Value} (h : kc_stk ρ β N n (a :: K) st) : ∃ (v : Value) (st' : List Value), st = v :: st' ∧ a.2.1 < n ∧ kc_v ρ β N a v ∧ kc_stk ρ β N n K st' := by
  cases st with
  | nil => exact absurd h id
  | cons v st' => exact ⟨v, st', rfl, h.1, h.2.1, h.2.2⟩
theorem kc_local {i : Nat} {a : kc_V} (hk : kc_ok D cl A s H0 nL E L K Hs ρ β ws tys H locs ls lv st) (h : L[i]? = some a) (ha : a.1 ≠ 0) : ∃ v : Value, (i, v) ∈ lv ∧ ls[i]? = some (.val v) ∧ a.2.1 < E.length ∧ kc_v ρ β Hs.length a v := by
  obtain ⟨g1, v, g2, g3⟩ := hk.2.2.1 i a h ha
  exact ⟨v, g2, hk.2.2.2.1.2.2 _ g2, g1, g3⟩
set_option maxHeartbeats 4000000 in
theorem kc_x1.ok {i : Instr} (h : kc_x1 nL i E L K = some (E', L', K')) (hx : p.tables.exec = Jvm.exec) (hb : c.code = cc) (hd : decode cc pc = .ok (i, kc_len i))
    (k : kc_J p l e R s m args below meth c Q D cl A H0 nL nA ρ0 nB β0 (pc + kc_len i) (E', L', K', Hs, cs, ss)) : kc_J p l e R s m args below meth c Q D cl A H0 nL nA ρ0 nB β0 pc (E, L, K, Hs, cs, ss) := by
  intro ρ β ws tys H locs ls lv st hk hg
  have hE : kc_env ρ E := hk.1
  have h0 : 0 < E.length ∧ ρ 0 = 0 := hk.2.1
  have hst : kc_stk ρ β Hs.length E.length K st := hk.2.2.2.2.1
  unfold kc_x1 at h
  split at h
  · split at h
    · cases h
      exact lv_iconst hx hb hd rfl (kc_J.res k hk hg hst (kc_r.old hE h0.1 ⟨_, rfl, by dsimp only; rw [kc_cst32 (by omega) (by omega)]; omega⟩))
    · cases h
  · split at h
    · cases h
      refine lv_bipush hx hb hd rfl (kc_J.res k hk hg hst (kc_r.old hE h0.1 ⟨_, rfl, ?_⟩))
      dsimp only
      rw [Int8.toInt_toInt32, Int8.toInt_ofInt_of_le (by omega) (by omega)]
      omega
    · cases h
  · split at h
    · cases h
      refine lv_sipush hx hb hd rfl (kc_J.res k hk hg hst (kc_r.old hE h0.1 ⟨_, rfl, ?_⟩))
      dsimp only
      rw [Int16.toInt_toInt32, Int16.toInt_ofInt_of_le (by omega) (by omega)]
      omega
    · cases h
  · rename_i n
    cases h
    refine lv_lconst hx hb hd rfl (kc_J.res k hk hg hst (kc_r.old hE h0.1 ⟨_, rfl, ?_⟩))
    dsimp only
    have : ∀ n : Fin 2, (Int64.ofNat (n : Nat)).toInt = ((n : Nat) : Int) := by decide
    rw [this]
    omega
  · cases h
    exact lv_null hx hb hd (kc_J.res k hk hg hst (kc_r.old hE h0.1 (Or.inl ⟨rfl, by dsimp only; omega⟩)))
  · rename_i j
    cases hq : kc_load L 1 j with
    | none => rw [hq] at h; cases h
    | some a =>
      rw [hq] at h; cases h
      obtain ⟨ha, ht⟩ := kc_load.of hq
      obtain ⟨v, -, hls, hlt, hv⟩ := kc_local hk ha (by rw [ht]; decide)
      obtain ⟨t, n, d⟩ := a
      cases ht
      obtain ⟨x, rfl, e⟩ := hv
      exact lv_iload hx hb hd hls (kc_J.res k hk hg hst (kc_r.old hE hlt ⟨x, rfl, e⟩))
  · rename_i j
    cases hq : kc_load L 1 j with
    | none => rw [hq] at h; cases h
    | some a =>
      rw [hq] at h; cases h
      obtain ⟨ha, ht⟩ := kc_load.of hq
      obtain ⟨v, -, hls, hlt, hv⟩ := kc_local hk ha (by rw [ht]; decide)
      obtain ⟨t, n, d⟩ := a
      cases ht
      obtain ⟨x, rfl, e⟩ := hv
      exact lv_iload_n hx hb hd rfl hls (kc_J.res k hk hg hst (kc_r.old hE hlt ⟨x, rfl, e⟩))
  · rename_i j
    cases hq : kc_load L 2 j with
    | none => rw [hq] at h; cases h
    | some a =>
      rw [hq] at h; cases h
      obtain ⟨ha, ht⟩ := kc_load.of hq
      obtain ⟨v, -, hls, hlt, hv⟩ := kc_local hk ha (by rw [ht]; decide)
      obtain ⟨t, n, d⟩ := a
      cases ht
      obtain ⟨x, rfl, e⟩ := hv
      exact lv_lload hx hb hd hls (kc_J.res k hk hg hst (kc_r.old hE hlt ⟨x, rfl, e⟩))
  · rename_i j
    cases hq : kc_load L 2 j with
    | none => rw [hq] at h; cases h
    | some a =>
      rw [hq] at h; cases h
      obtain ⟨ha, ht⟩ := kc_load.of hq
      obtain ⟨v, -, hls, hlt, hv⟩ := kc_local hk ha (by rw [ht]; decide)
      obtain ⟨t, n, d⟩ := a
      cases ht
      obtain ⟨x, rfl, e⟩ := hv
      exact lv_lload_n hx hb hd rfl hls (kc_J.res k hk hg hst (kc_r.old hE hlt ⟨x, rfl, e⟩))
  · rename_i j
    cases hq : kc_loadr L j with
    | none => rw [hq] at h; cases h
    | some a =>
      rw [hq] at h; cases h
      obtain ⟨ha, ht⟩ := kc_loadr.of hq
      obtain ⟨v, -, hls, hlt, hv⟩ := kc_local hk ha (by rcases ht with ht | ht <;> rw [ht] <;> decide)
      obtain ⟨t, n, d⟩ := a
      rcases ht with ht | ht
      · cases ht
        have hv2 := hv
        rcases hv with ⟨rfl, e⟩ | ⟨r, rfl, e⟩
        · exact lv_aloadN hx hb hd hls (kc_J.res k hk hg hst (kc_r.old hE hlt hv2))
        · exact lv_aload hx hb hd hls (kc_J.res k hk hg hst (kc_r.old hE hlt hv2))
      · cases ht
        have hv2 := hv
        cases hv
        exact lv_aload hx hb hd hls (kc_J.res k hk hg hst (kc_r.old hE hlt hv2))
  · rename_i j
    cases hq : kc_loadr L j with
    | none => rw [hq] at h; cases h
    | some a =>
      rw [hq] at h; cases h
      obtain ⟨ha, ht⟩ := kc_loadr.of hq
      obtain ⟨v, -, hls, hlt, hv⟩ := kc_local hk ha (by rcases ht with ht | ht <;> rw [ht] <;> decide)
      obtain ⟨t, n, d⟩ := a
      rcases ht with ht | ht
      · cases ht
        have hv2 := hv
        rcases hv with ⟨rfl, e⟩ | ⟨r, rfl, e⟩
        · exact lv_aload_nN hx hb hd rfl hls (kc_J.res k hk hg hst (kc_r.old hE hlt hv2))
        · exact lv_aload_n hx hb hd rfl hls (kc_J.res k hk hg hst (kc_r.old hE hlt hv2))
      · cases ht
        have hv2 := hv
        cases hv
        exact lv_aload_n hx hb hd rfl hls (kc_J.res k hk hg hst (kc_r.old hE hlt hv2))
  · rename_i j
    split at h
    · rename_i n d K2
      split at h
      · rename_i hj
        cases h
        obtain ⟨v, st', rfl, hlt, ⟨x, rfl, ex⟩, hst'⟩ := kc_stk.uncons hst
        exact lv_istore hx hb hd hk.2.2.2.1 hj rfl (fun ls' hl' => kc_J.mv k hk hg (fun _ _ => rfl) hE (Nat.le_refl _) (hk.2.2.1.st1 (a := (1, n, d)) hlt ⟨x, rfl, ex⟩) hl' hst')
      · cases h
    · cases h
  · rename_i j
    split at h
    · rename_i n d K2
      split at h
      · rename_i hj
        cases h
        obtain ⟨v, st', rfl, hlt, ⟨x, rfl, ex⟩, hst'⟩ := kc_stk.uncons hst
        exact lv_istore_n hx hb hd rfl hk.2.2.2.1 hj rfl (fun ls' hl' => kc_J.mv k hk hg (fun _ _ => rfl) hE (Nat.le_refl _) (hk.2.2.1.st1 (a := (1, n, d)) hlt ⟨x, rfl, ex⟩) hl' hst')
      · cases h
    · cases h
  · rename_i j
    split at h
    · rename_i n d K2
      split at h
      · rename_i hj
        cases h
        obtain ⟨v, st', rfl, hlt, hv, hst'⟩ := kc_stk.uncons hst
        have hv2 := hv
        rcases hv with ⟨rfl, ex⟩ | ⟨r, rfl, ex⟩
        · exact lv_astoreN hx hb hd hk.2.2.2.1 hj rfl (fun ls' hl' => kc_J.mv k hk hg (fun _ _ => rfl) hE (Nat.le_refl _) (hk.2.2.1.st1 (a := (3, n, d)) hlt hv2) hl' hst')
        · exact lv_astore hx hb hd hk.2.2.2.1 hj rfl (fun ls' hl' => kc_J.mv k hk hg (fun _ _ => rfl) hE (Nat.le_refl _) (hk.2.2.1.st1 (a := (3, n, d)) hlt hv2) hl' hst')
      · cases h
    · cases h
  · rename_i j
    split at h
    · rename_i n d K2
      split at h
      · rename_i hj
        cases h
        obtain ⟨v, st', rfl, hlt, hv, hst'⟩ := kc_stk.uncons hst
        have hv2 := hv
        rcases hv with ⟨rfl, ex⟩ | ⟨r, rfl, ex⟩
        · exact lv_astore_nN hx hb hd rfl hk.2.2.2.1 hj rfl (fun ls' hl' => kc_J.mv k hk hg (fun _ _ => rfl) hE (Nat.le_refl _) (hk.2.2.1.st1 (a := (3, n, d)) hlt hv2) hl' hst')
        · exact lv_astore_n hx hb hd rfl hk.2.2.2.1 hj rfl (fun ls' hl' => kc_J.mv k hk hg (fun _ _ => rfl) hE (Nat.le_refl _) (hk.2.2.1.st1 (a := (3, n, d)) hlt hv2) hl' hst')
      · cases h
    · cases h
  · rename_i j
    split at h
    · rename_i n d K2
      split at h
      · rename_i hj
        cases h
        obtain ⟨v, st', rfl, hlt, ⟨x, rfl, ex⟩, hst'⟩ := kc_stk.uncons hst
        exact lv_lstore hx hb hd hk.2.2.2.1 hj rfl (fun ls' hl' => kc_J.mv k hk hg (fun _ _ => rfl) hE (Nat.le_refl _) (hk.2.2.1.st2 (a := (2, n, d)) hlt ⟨x, rfl, ex⟩) hl' hst')
      · cases h
    · cases h
  · rename_i j
    split at h
    · rename_i n d K2
      split at h
      · rename_i hj
        cases h
        obtain ⟨v, st', rfl, hlt, ⟨x, rfl, ex⟩, hst'⟩ := kc_stk.uncons hst
        exact lv_lstore_n hx hb hd rfl hk.2.2.2.1 hj rfl (fun ls' hl' => kc_J.mv k hk hg (fun _ _ => rfl) hE (Nat.le_refl _) (hk.2.2.1.st2 (a := (2, n, d)) hlt ⟨x, rfl, ex⟩) hl' hst')
      · cases h
    · cases h
  · rename_i j n
    split at h
    · rename_i hj
      cases hq : kc_load L 1 j with
      | none => rw [hq] at h; cases h
      | some a =>
        rw [hq] at h; cases h
        obtain ⟨ha, ht⟩ := kc_load.of hq
        obtain ⟨v, hm, hls, hlt, hv⟩ := kc_local hk ha (by rw [ht]; decide)
        obtain ⟨t, n1, d1⟩ := a
        cases ht
        obtain ⟨x, rfl, ex⟩ := hv
        obtain ⟨q, hq2⟩ := List.getElem?_of_mem hm
        obtain ⟨ρ', g1, g3, g4, g5, g6⟩ := kc_iadd.ok (β := β) (N := Hs.length) (a := (1, n1, d1)) (b := (1, 0, n)) (x := x) (y := Int32.ofInt n) hE h0 hlt h0.1 ex (by dsimp only; rw [kc_cst32 (by omega) (by omega)]; omega)
        exact lv_iinc hx hb hd hk.2.2.2.1 hq2 rfl hj.1 rfl (fun ls' hl' => kc_J.mv k hk hg g1 g3 g4 ((hk.2.2.1.ext g1 (fun _ _ => rfl) (Nat.le_refl _) g4).st1 g5 g6) hl' (kc_stk.ext g1 (fun _ _ => rfl) (Nat.le_refl _) g4 hst))
    · cases h
  · split at h
    · split at h
      · rename_i ha
        cases h
        obtain ⟨v, st', rfl, hlt, hv, hst'⟩ := kc_stk.uncons hst
        exact lv_pop hx hb hd (kc_cat1 hv ha) (kc_J.go k hk hg hst')
      · cases h
    · cases h
  · split at h
    · split at h
      · rename_i ha
        cases h
        obtain ⟨v, st', rfl, hlt, hv, hst'⟩ := kc_stk.uncons hst
        exact lv_dup hx hb hd (kc_cat1 hv ha) (kc_J.go k hk hg ⟨hlt, hv, hlt, hv, hst'⟩)
      · cases h
    · cases h
  · split at h
    · split at h
      · rename_i ha
        cases h
        obtain ⟨v, st', rfl, hlt, hv, hst'⟩ := kc_stk.uncons hst
        obtain ⟨v2, st2, rfl, hlt2, hv2, hst2⟩ := kc_stk.uncons hst'
        exact lv_dup_x1 hx hb hd (kc_cat1 hv ha.1) (kc_cat1 hv2 ha.2) (kc_J.go k hk hg ⟨hlt, hv, hlt2, hv2, hlt, hv, hst2⟩)
      · cases h
    · cases h
  · split at h
    · split at h
      · rename_i ha
        cases h
        obtain ⟨v, st', rfl, hlt, hv, hst'⟩ := kc_stk.uncons hst
        obtain ⟨v2, st2, rfl, hlt2, hv2, hst2⟩ := kc_stk.uncons hst'
        obtain ⟨v3, st3, rfl, hlt3, hv3, hst3⟩ := kc_stk.uncons hst2
        exact lv_dup_x2 hx hb hd (kc_cat1 hv ha.1) (kc_cat1 hv2 ha.2.1) (kc_cat1 hv3 ha.2.2) (kc_J.go k hk hg ⟨hlt, hv, hlt2, hv2, hlt3, hv3, hlt, hv, hst3⟩)
      · cases h
    · cases h
  · split at h
    · rename_i a b K2
      obtain ⟨v, st', rfl, hlt, hv, hst'⟩ := kc_stk.uncons hst
      obtain ⟨v2, st2, rfl, hlt2, hv2, hst2⟩ := kc_stk.uncons hst'
      split at h
      · rename_i ha
        cases h
        obtain ⟨t, n, d⟩ := a
        cases ha
        exact lv_dup2_2 hx hb hd (kc_cat2 hv) (kc_J.go k hk hg ⟨hlt, hv, hlt, hv, hlt2, hv2, hst2⟩)
      · rename_i ha
        split at h
        · rename_i hb2
          cases h
          exact lv_dup2_11 hx hb hd (kc_cat1 hv ha) (kc_cat1 hv2 hb2) (kc_J.go k hk hg ⟨hlt, hv, hlt2, hv2, hlt, hv, hlt2, hv2, hst2⟩)
        · cases h
    · cases h
  · split at h
    · rename_i n d K2
      cases h
      obtain ⟨v, st', rfl, hlt, ⟨x, rfl, ex⟩, hst'⟩ := kc_stk.uncons hst
      have hr := kc_isub.ok (β := β) (N := Hs.length) (a := (1, 0, 0)) (b := (1, n, d)) (x := 0) (y := x) hE h0 h0.1 (by dsimp only; rw [h0.2]; rfl) ex
      rw [Int32.zero_sub] at hr
      exact lv_ineg hx hb hd (kc_J.res k hk hg hst' hr)
    · cases h
  · split at h
    · rename_i n d K2
      cases h
      obtain ⟨v, st', rfl, hlt, ⟨x, rfl, ex⟩, hst'⟩ := kc_stk.uncons hst
      exact lv_i2l hx hb hd rfl (kc_J.go k hk hg ⟨hlt, ⟨_, rfl, by rw [Int32.toInt_toInt64]; exact ex⟩, hst'⟩)
    · cases h
  · split at h
    · rename_i n d K2
      obtain ⟨v, st', rfl, hlt, ⟨x, rfl, ex⟩, hst'⟩ := kc_stk.uncons hst
      split at h
      · rename_i hr
        cases h
        have hb3 := hE.at (2, n, d)
        dsimp only at hb3 ex
        refine lv_l2i hx hb hd rfl (kc_J.go k hk hg ⟨hlt, ⟨_, rfl, ?_⟩, hst'⟩)
        dsimp only
        rw [Int64.toInt_toInt32, ← ex]
        exact Int.bmod_eq_of_le (by omega) (by omega)
      · cases h
        exact lv_l2i hx hb hd rfl (kc_J.res k hk hg hst' (kc_mk.i hE h0 (kc_i32 _).1 (kc_i32 _).2))
    · cases h
  · split at h
    · rename_i n d K2
      cases h
      obtain ⟨v, st', rfl, hlt, ⟨x, rfl, ex⟩, hst'⟩ := kc_stk.uncons hst
      refine lv_i2b hx hb hd rfl (kc_J.res k hk hg hst' (kc_mk.i hE h0 ?_ ?_))
      · rw [Int8.toInt_toInt32]; have := x.toInt8.le_toInt; omega
      · rw [Int8.toInt_toInt32]; have := x.toInt8.toInt_lt; omega
    · cases h
  · split at h
    · rename_i n d K2
      cases h
      obtain ⟨v, st', rfl, hlt, ⟨x, rfl, ex⟩, hst'⟩ := kc_stk.uncons hst
      refine lv_i2s hx hb hd rfl (kc_J.res k hk hg hst' (kc_mk.i hE h0 ?_ ?_))
      · rw [Int16.toInt_toInt32]; have := x.toInt16.le_toInt; omega
      · rw [Int16.toInt_toInt32]; have := x.toInt16.toInt_lt; omega
    · cases h
  · split at h
    · cases h
      obtain ⟨v, st', rfl, hlt, ⟨x, rfl, ex⟩, hst'⟩ := kc_stk.uncons hst
      exact lv_lneg hx hb hd (kc_J.res k hk hg hst' (kc_mk.lg hE h0 (kc_i64 _).1 (kc_i64 _).2))
    · cases h
  · split at h
    · cases h
      obtain ⟨v, st', rfl, hlt, ⟨x, rfl, ex⟩, hst'⟩ := kc_stk.uncons hst
      obtain ⟨v2, st2, rfl, hlt2, ⟨x2, rfl, ex2⟩, hst2⟩ := kc_stk.uncons hst'
      exact lv_lshl hx hb hd rfl (kc_J.res k hk hg hst2 (kc_mk.lg hE h0 (kc_i64 _).1 (kc_i64 _).2))
    · cases h
  · split at h
    · cases h
      obtain ⟨v, st', rfl, hlt, ⟨x, rfl, ex⟩, hst'⟩ := kc_stk.uncons hst
      obtain ⟨v2, st2, rfl, hlt2, ⟨x2, rfl, ex2⟩, hst2⟩ := kc_stk.uncons hst'
      exact lv_lshr hx hb hd rfl (kc_J.res k hk hg hst2 (kc_mk.lg hE h0 (kc_i64 _).1 (kc_i64 _).2))
    · cases h
  · split at h
    · cases h
      obtain ⟨v, st', rfl, hlt, ⟨x, rfl, ex⟩, hst'⟩ := kc_stk.uncons hst
      obtain ⟨v2, st2, rfl, hlt2, ⟨x2, rfl, ex2⟩, hst2⟩ := kc_stk.uncons hst'
      exact lv_lushr hx hb hd rfl (kc_J.res k hk hg hst2 (kc_mk.lg hE h0 (kc_i64 _).1 (kc_i64 _).2))
    · cases h
  · split at h
    · rename_i n2 d2 n1 d1 K2
      obtain ⟨v, st', rfl, hlt, ⟨x, rfl, ex⟩, hst'⟩ := kc_stk.uncons hst
      obtain ⟨v2, st2, rfl, hlt2, ⟨x2, rfl, ex2⟩, hst2⟩ := kc_stk.uncons hst'
      cases hq : kc_b32 i E (1, n1, d1) (1, n2, d2) with
      | none => rw [hq] at h; cases h
      | some r =>
        rw [hq] at h; cases h
        have hlen : kc_len i = 1 := by
          unfold kc_b32 at hq
          split at hq <;> first | rfl | cases hq
        rw [hlen] at hd k
        exact kc_b32.ok hq hx hb hd hE h0 hlt2 hlt ex2 ex (fun z hz => kc_J.res k hk hg hst2 hz)
    · rename_i n2 d2 n1 d1 K2
      split at h
      · rename_i hq
        cases h
        obtain ⟨v, st', rfl, hlt, ⟨x, rfl, ex⟩, hst'⟩ := kc_stk.uncons hst
        obtain ⟨v2, st2, rfl, hlt2, ⟨x2, rfl, ex2⟩, hst2⟩ := kc_stk.uncons hst'
        have hR : ∀ z : Int64, W p l e R s m args below meth c H locs cs ss Q (F0 m (pc + kc_len i) ls (.long z :: st2)) := fun z => kc_J.res k hk hg hst2 (kc_mk.lg hE h0 (kc_i64 _).1 (kc_i64 _).2)
        have hne : kc_nz E (2, n2, d2) = true → ¬ x = 0 := fun q e0 => by
          have q := of_decide_eq_true q
          have hb3 := hE.at (2, n2, d2)
          dsimp only at hb3 ex
          rw [e0] at ex
          have : (0 : Int64).toInt = 0 := rfl
          omega
        unfold kc_isb64 at hq
        split at hq
        · exact lv_ladd hx hb hd (hR _)
        · exact lv_lsub hx hb hd (hR _)
        · exact lv_lmul hx hb hd (hR _)
        · exact lv_land hx hb hd (hR _)
        · exact lv_lor hx hb hd (hR _)
        · exact lv_lxor hx hb hd (hR _)
        · exact lv_ldiv hx hb hd (hne hq) (hR _)
        · exact lv_lrem hx hb hd (hne hq) (hR _)
        · cases hq
      · cases h
    · cases h
set_option maxHeartbeats 4000000 in
theorem kc_x1.okw {j : Nat} {n : Int} (h : kc_x1 nL (.iinc j n) E L K = some (E', L', K')) (hx : p.tables.exec = Jvm.exec) (hb : c.code = cc) (hd : decode cc pc = .ok (.iinc j n, 6))
    (k : kc_J p l e R s m args below meth c Q D cl A H0 nL nA ρ0 nB β0 (pc + 6) (E', L', K', Hs, cs, ss)) : kc_J p l e R s m args below meth c Q D cl A H0 nL nA ρ0 nB β0 pc (E, L, K, Hs, cs, ss) := by
  intro ρ β ws tys H locs ls lv st hk hg
  have hE : kc_env ρ E := hk.1
  have h0 : 0 < E.length ∧ ρ 0 = 0 := hk.2.1
  have hst : kc_stk ρ β Hs.length E.length K st := hk.2.2.2.2.1
  unfold kc_x1 at h
  dsimp only at h
  split at h
  · rename_i hj
    cases hq : kc_load L 1 j with
    | none => rw [hq] at h; cases h
    | some a =>
      rw [hq] at h; cases h
      obtain ⟨ha, ht⟩ := kc_load.of hq
      obtain ⟨v, hm, hls, hlt, hv⟩ := kc_local hk ha (by rw [ht]; decide)
      obtain ⟨t, n1, d1⟩ := a
      cases ht
      obtain ⟨x, rfl, ex⟩ := hv
      obtain ⟨q, hq2⟩ := List.getElem?_of_mem hm
      obtain ⟨ρ', g1, g3, g4, g5, g6⟩ := kc_iadd.ok (β := β) (N := Hs.length) (a := (1, n1, d1)) (b := (1, 0, n)) (x := x) (y := Int32.ofInt n) hE h0 hlt h0.1 ex (by dsimp only; rw [kc_cst32 (by omega) (by omega)]; omega)
      exact lv_iincW hx hb hd hk.2.2.2.1 hq2 rfl hj.1 rfl (fun ls' hl' => kc_J.mv k hk hg g1 g3 g4 ((hk.2.2.1.ext g1 (fun _ _ => rfl) (Nat.le_refl _) g4).st1 g5 g6) hl' (kc_stk.ext g1 (fun _ _ => rfl) (Nat.le_refl _) g4 hst))
  · cases h
end KE
end
section
theorem kc_ref.len (E : kc_E) (a : kc_V) (lo hi : Int) : (kc_ref E a lo hi).length = E.length := by simp [kc_ref]
theorem kc_ref.ok {ρ : Nat → Int} {E : kc_E} {a : kc_V} {lo hi : Int} (h : kc_env ρ E) (h1 : lo ≤ ρ a.2.1 + a.2.2) (h2 : ρ a.2.1 + a.2.2 ≤ hi) : kc_env ρ (kc_ref E a lo hi) := by
  intro n
  have hn := h n
  unfold kc_ref
  by_cases e : n = a.2.1
  · subst e
    by_cases l : a.2.1 < E.length
    · rw [List.getD_eq_getElem?_getD, List.getElem?_set_self l]
      simp only [Option.getD_some]
      constructor
      · split <;> omega
      · split <;> omega
    · rw [List.set_eq_of_length_le (by omega)]
      exact hn
  · rw [List.getD_eq_getElem?_getD, List.getElem?_set_ne (Ne.symm e), ← List.getD_eq_getElem?_getD]
    exact hn
theorem kc_emp.no {ρ : Nat → Int} {E : kc_E} {a : kc_V} (h : kc_env ρ E) : kc_emp E a = false := by
  have := h a.2.1
  unfold kc_emp
  exact decide_eq_false (by omega)
def kc_rel (r : Nat) (u v : Int) : Prop := match r with
  | 0 => u = v | 1 => u ≠ v | 2 => u < v | 3 => v ≤ u | 4 => v < u | _ => u ≤ v
theorem kc_cn.len (r : Nat) (E : kc_E) (a b : kc_V) : (kc_cn r E a b).length = E.length := by
  unfold kc_cn
  split
  all_goals rw [kc_ref.len, kc_ref.len]
theorem kc_cn.ok {r : Nat} {ρ : Nat → Int} {E : kc_E} {a b : kc_V} (h : kc_env ρ E) (h1r : r ≠ 1) (hr : kc_rel r (ρ a.2.1 + a.2.2) (ρ b.2.1 + b.2.2)) : kc_env ρ (kc_cn r E a b) := by
  have h1 := h.at a
  have h2 := h.at b
  unfold kc_cn
  unfold kc_rel at hr
  split at hr
  · exact kc_ref.ok (kc_ref.ok h (by omega) (by omega)) (by omega) (by omega)
  · exact absurd rfl h1r
  · exact kc_ref.ok (kc_ref.ok h (by omega) (by omega)) (by omega) (by omega)
  · exact kc_ref.ok (kc_ref.ok h (by omega) (by omega)) (by omega) (by omega)
  · exact kc_ref.ok (kc_ref.ok h (by omega) (by omega)) (by omega) (by omega)
  · split
    · exact absurd rfl (by assumption)
    · exact absurd rfl (by assumption)
    · exact absurd rfl (by assumption)
    · exact absurd rfl (by assumption)
    · exact kc_ref.ok (kc_ref.ok h (by omega) (by omega)) (by omega) (by omega)
theorem kc_dead.no {r : Nat} {ρ : Nat → Int} {a b : kc_V} (h1r : r ≠ 1) (hr : kc_rel r (ρ a.2.1 + a.2.2) (ρ b.2.1 + b.2.2)) : kc_dead r a b = false := by
  unfold kc_dead
  by_cases e : a.2.1 = b.2.1
  · rw [e] at hr
    unfold kc_rel at hr
    simp only [e, decide_true, Bool.true_and]
    split at hr
    · exact decide_eq_false (by omega)
    · exact absurd rfl h1r
    · exact decide_eq_false (by omega)
    · exact decide_eq_false (by omega)
    · exact decide_eq_false (by omega)
    · split
      · exact absurd rfl (by assumption)
      · exact absurd rfl (by assumption)
      · exact absurd rfl (by assumption)
      · exact absurd rfl (by assumption)
      · exact decide_eq_false (by omega)
  · simp [e]
section KF
variable {p : Program} {l : Launch} {e : Env} {R : Room} {s : State} {m : MethodId} {args : Array Value} {below : List Frame} {meth : Method} {c : Code} {Q : State → Prop}
variable {cc : ByteArray} {nL : Nat} {D : va_G} {cl : List vw_C} {A : Nat → Prop} {H0 : Heap}
variable {nA : Nat} {ρ0 : Nat → Int} {nB : Nat} {β0 : Nat → Nat}
variable {E : kc_E} {L K K' : List kc_V} {Hs : List kc_G} {cs ss pc : Nat} {ρ : Nat → Int} {β : Nat → Nat} {ws : va_W} {tys : List (ClassId × FieldType)} {H : Heap} {locs : List Loc} {ls : Array Slot} {lv : List (Nat × Value)} {st st' : List Value}
/-- bounds narrowed, all else as it is -/
theorem kc_J.nar {E' : kc_E} (k : kc_J p l e R s m args below meth c Q D cl A H0 nL nA ρ0 nB β0 pc (E', L, K', Hs, cs, ss)) (hk : kc_ok D cl A s H0 nL E L K Hs ρ β ws tys H locs ls lv st) (hg : kc_ag nA ρ0 nB β0 E.length Hs.length ρ β)
    (hE' : kc_env ρ E') (hl : E'.length = E.length) (hK : kc_stk ρ β Hs.length E.length K' st') : W p l e R s m args below meth c H locs cs ss Q (F0 m pc ls st') := by
  refine kc_J.mv k hk hg (fun _ _ => rfl) hE' (by omega) ?_ hk.2.2.2.1 ?_
  · rw [hl]; exact hk.2.2.1
  · rw [hl]; exact hK
theorem kc_ok.nar {E' : kc_E} (hk : kc_ok D cl A s H0 nL E L K Hs ρ β ws tys H locs ls lv st) (hE' : kc_env ρ E') (hl : E'.length = E.length) : kc_ok D cl A s H0 nL E' L K Hs ρ β ws tys H locs ls lv st := by
  unfold kc_ok
  rw [hl]
  exact ⟨hE', hk.2⟩
theorem kc_J.s1 {r tgt : Nat} {a b : kc_V} (k : ∀ q ∈ kc_s1 r tgt E a b K', kc_J p l e R s m args below meth c Q D cl A H0 nL nA ρ0 nB β0 q.1 (q.2.1, L, q.2.2, Hs, cs, ss)) (hk : kc_ok D cl A s H0 nL E L K Hs ρ β ws tys H locs ls lv st) (hg : kc_ag nA ρ0 nB β0 E.length Hs.length ρ β)
    (h1r : r ≠ 1) (hr : kc_rel r (ρ a.2.1 + a.2.2) (ρ b.2.1 + b.2.2)) (hK : kc_stk ρ β Hs.length E.length K' st') : W p l e R s m args below meth c H locs cs ss Q (F0 m tgt ls st') := by
  have hE' := kc_cn.ok hk.1 h1r hr
  have h1 : kc_s1 r tgt E a b K' = [(tgt, kc_cn r E a b, K')] := by
    unfold kc_s1
    rw [kc_emp.no hE', kc_emp.no hE', kc_dead.no h1r hr]
    rfl
  rw [h1] at k
  exact kc_J.nar (k _ List.mem_cons_self) hk hg hE' (kc_cn.len _ _ _ _) hK
theorem kc_J.sc {r tgt : Nat} {a b : kc_V} (k : ∀ q ∈ kc_sc r tgt E a b K', kc_J p l e R s m args below meth c Q D cl A H0 nL nA ρ0 nB β0 q.1 (q.2.1, L, q.2.2, Hs, cs, ss)) (hk : kc_ok D cl A s H0 nL E L K Hs ρ β ws tys H locs ls lv st) (hg : kc_ag nA ρ0 nB β0 E.length Hs.length ρ β)
    (hr : kc_rel r (ρ a.2.1 + a.2.2) (ρ b.2.1 + b.2.2)) (hK : kc_stk ρ β Hs.length E.length K' st') : W p l e R s m args below meth c H locs cs ss Q (F0 m tgt ls st') := by
  unfold kc_sc at k
  by_cases h1 : r = 1
  · subst h1
    rw [if_pos rfl] at k
    have hr2 : ρ a.2.1 + a.2.2 ≠ ρ b.2.1 + b.2.2 := hr
    rcases Int.lt_or_gt_of_ne hr2 with h2 | h2
    · exact kc_J.s1 (fun q h => k q (List.mem_append.mpr (Or.inl h))) hk hg (by decide) h2 hK
    · exact kc_J.s1 (fun q h => k q (List.mem_append.mpr (Or.inr h))) hk hg (by decide) h2 hK
  · rw [if_neg h1] at k
    exact kc_J.s1 k hk hg h1 hr hK
theorem kc_up.at {o : Int} (h : kc_up pc o = true) : (pc : Int) + o = (((pc : Int) + o).toNat : Int) := (Int.toNat_of_nonneg (of_decide_eq_true h)).symm
theorem kc_J.tab {a : kc_V} {x : Int} (hx0 : x = ρ a.2.1 + a.2.2) (hk : kc_ok D cl A s H0 nL E L K Hs ρ β ws tys H locs ls lv st) (hg : kc_ag nA ρ0 nB β0 E.length Hs.length ρ β) (hK : kc_stk ρ β Hs.length E.length K' st') : ∀ (os : List Int) (k : Int), (∀ q ∈ kc_tab pc E a K' k os, kc_J p l e R s m args below meth c Q D cl A H0 nL nA ρ0 nB β0 q.1 (q.2.1, L, q.2.2, Hs, cs, ss)) → ∀ (j : Nat) (o : Int), os[j]? = some o → x = k + j → W p l e R s m args below meth c H locs cs ss Q (F0 m ((pc : Int) + o).toNat ls st')
  | [], _, _, j, o, ho, _ => by simp at ho
  | o1 :: os, k, hq, 0, o, ho, hj => by
    cases ho
    refine kc_J.s1 (fun q h => hq q (List.mem_append.mpr (Or.inl h))) hk hg (by decide) ?_ hK
    have := hk.2.1.2
    show ρ a.2.1 + a.2.2 = ρ 0 + k
    omega
  | o1 :: os, k, hq, j + 1, o, ho, hj => kc_J.tab hx0 hk hg hK os (k + 1) (fun q h => hq q (List.mem_append.mpr (Or.inr h))) j o (by simpa using ho) (by omega)
theorem kc_J.lkn {a : kc_V} {x : Int} {tgt : Nat} (hx0 : x = ρ a.2.1 + a.2.2) (hK : kc_stk ρ β Hs.length E.length K' st') : ∀ (os : List (Int × Int)) (E1 : kc_E), E1.length = E.length → kc_ok D cl A s H0 nL E1 L K Hs ρ β ws tys H locs ls lv st → kc_ag nA ρ0 nB β0 E.length Hs.length ρ β → (∀ q ∈ kc_lkn tgt E1 a K' os, kc_J p l e R s m args below meth c Q D cl A H0 nL nA ρ0 nB β0 q.1 (q.2.1, L, q.2.2, Hs, cs, ss)) → (∀ q ∈ os, q.1 ≠ x) → W p l e R s m args below meth c H locs cs ss Q (F0 m tgt ls st')
  | [], E1, h1, hk, hg, k, _ => kc_J.go (k _ List.mem_cons_self) hk (by rw [h1]; exact hg) (by rw [h1]; exact hK)
  | o :: os, E1, h1, hk, hg, k, hq => by
    have h2 := hq o List.mem_cons_self
    have h0 := hk.2.1.2
    have go : ∀ r : Nat, r ≠ 1 → kc_rel r (ρ a.2.1 + a.2.2) (ρ 0 + o.1) → (∀ q ∈ kc_s1 r tgt E1 a (1, 0, o.1) K', q ∈ kc_sc 1 tgt E1 a (1, 0, o.1) K') → W p l e R s m args below meth c H locs cs ss Q (F0 m tgt ls st') := fun r h1r hr hin => by
      have hE' := kc_cn.ok (b := (1, 0, o.1)) hk.1 h1r hr
      have h3 : kc_s1 r tgt E1 a (1, 0, o.1) K' = [(tgt, kc_cn r E1 a (1, 0, o.1), K')] := by
        unfold kc_s1
        rw [kc_emp.no hE', kc_emp.no hE', kc_dead.no (b := (1, 0, o.1)) h1r hr]
        rfl
      rw [h3] at hin
      exact kc_J.lkn hx0 hK os (kc_cn r E1 a (1, 0, o.1)) ((kc_cn.len _ _ _ _).trans h1) (hk.nar hE' (kc_cn.len _ _ _ _)) hg (fun q hq2 => k q (List.mem_flatMap.mpr ⟨_, hin _ List.mem_cons_self, hq2⟩)) (fun q h => hq q (List.mem_cons_of_mem _ h))
    rcases Int.lt_or_gt_of_ne (show ρ a.2.1 + a.2.2 ≠ ρ 0 + o.1 by omega) with h4 | h4
    · exact go 2 (by decide) h4 (fun q h => by unfold kc_sc; rw [if_pos rfl]; exact List.mem_append.mpr (Or.inl h))
    · exact go 4 (by decide) h4 (fun q h => by unfold kc_sc; rw [if_pos rfl]; exact List.mem_append.mpr (Or.inr h))
theorem kc_J.lks {a : kc_V} {x : Int} {dflt : Int} (hx0 : x = ρ a.2.1 + a.2.2) (hk : kc_ok D cl A s H0 nL E L K Hs ρ β ws tys H locs ls lv st) (hg : kc_ag nA ρ0 nB β0 E.length Hs.length ρ β) (hK : kc_stk ρ β Hs.length E.length K' st') : ∀ (os : List (Int × Int)), (∀ q ∈ kc_lks pc E a K' os, kc_J p l e R s m args below meth c Q D cl A H0 nL nA ρ0 nB β0 q.1 (q.2.1, L, q.2.2, Hs, cs, ss)) → (∃ q ∈ os, q.1 = x) → W p l e R s m args below meth c H locs cs ss Q (F0 m ((pc : Int) + Op.lookupswitch.offset os dflt x).toNat ls st')
  | [], _, h => by obtain ⟨q, h, -⟩ := h; cases h
  | o1 :: os, hq, h => by
    by_cases e1 : o1.1 = x
    · rw [show o1 = (o1.1, o1.2) from rfl, Op.lookupswitch.offset_cons, if_pos e1]
      refine kc_J.s1 (fun q h => hq q (List.mem_append.mpr (Or.inl h))) hk hg (by decide) ?_ hK
      have := hk.2.1.2
      show ρ a.2.1 + a.2.2 = ρ 0 + o1.1
      omega
    · rw [show o1 = (o1.1, o1.2) from rfl, Op.lookupswitch.offset_cons, if_neg e1]
      refine kc_J.lks hx0 hk hg hK os (fun q h => hq q (List.mem_append.mpr (Or.inr h))) ?_
      obtain ⟨q, h1, h2⟩ := h
      rcases List.mem_cons.mp h1 with h3 | h3
      · subst h3; exact absurd h2 e1
      · exact ⟨q, h3, h2⟩
theorem kc_lk_none {dflt x : Int} : ∀ (os : List (Int × Int)), (∀ q ∈ os, q.1 ≠ x) → Op.lookupswitch.offset os dflt x = dflt
  | [], _ => rfl
  | o1 :: os, h => by
    rw [show o1 = (o1.1, o1.2) from rfl, Op.lookupswitch.offset_cons, if_neg (h o1 List.mem_cons_self)]
    exact kc_lk_none os (fun q h1 => h q (List.mem_cons_of_mem _ h1))
theorem kc_lk_some {dflt x : Int} {pc : Nat} : ∀ (os : List (Int × Int)), os.all (fun q => kc_up pc q.2) = true → (∃ q ∈ os, q.1 = x) → kc_up pc (Op.lookupswitch.offset os dflt x) = true
  | [], _, h => by obtain ⟨q, h, -⟩ := h; cases h
  | o1 :: os, ha, h => by
    rw [List.all_cons, Bool.and_eq_true] at ha
    by_cases e1 : o1.1 = x
    · rw [show o1 = (o1.1, o1.2) from rfl, Op.lookupswitch.offset_cons, if_pos e1]
      exact ha.1
    · rw [show o1 = (o1.1, o1.2) from rfl, Op.lookupswitch.offset_cons, if_neg e1]
      refine kc_lk_some os ha.2 ?_
      obtain ⟨q, h1, h2⟩ := h
      rcases List.mem_cons.mp h1 with h3 | h3
      · subst h3; exact absurd h2 e1
      · exact ⟨q, h3, h2⟩
theorem kc_i0 : (0 : Int32).toInt = 0 := rfl
def kc_l2 (i : Instr) (len : Nat) : Bool := match i with
  | .tableswitch _ _ _ _ => true
  | .lookupswitch _ _ => true
  | _ => decide (len = 3)
theorem kc_relI {x y : Int32} {u v : Int} (ex : x.toInt = u) (ey : y.toInt = v) : (x = y ↔ u = v) ∧ (x < y ↔ u < v) ∧ (y ≤ x ↔ v ≤ u) ∧ (y < x ↔ v < u) ∧ (x ≤ y ↔ u ≤ v) := by
  subst ex; subst ey
  exact ⟨Int32.toInt_inj.symm, Int32.lt_iff_toInt_lt, Int32.le_iff_toInt_le, Int32.lt_iff_toInt_lt, Int32.le_iff_toInt_le⟩
/-- an int compared with another: two roads -/
theorem kc_icmp {q : Jvm.ClassFile.Cond} {o : Int} {tgt : Nat} {x y : Int32} {u v : Int} {rest : List Value} (ex : x.toInt = u) (ey : y.toInt = v) (hx : p.tables.exec = Jvm.exec) (hb : c.code = cc) (hd : decode cc pc = .ok (.if_icmp q o, 3)) (ht : (pc : Int) + o = (tgt : Int))
    (kt : kc_rel (kc_code q) u v → W p l e R s m args below meth c H locs cs ss Q (F0 m tgt ls rest)) (kf : kc_rel (kc_neg (kc_code q)) u v → W p l e R s m args below meth c H locs cs ss Q (F0 m (pc + 3) ls rest)) : W p l e R s m args below meth c H locs cs ss Q (F0 m pc ls (.int y :: .int x :: rest)) := by
  obtain ⟨g1, g2, g3, g4, g5⟩ := kc_relI ex ey
  cases q with
  | eq => exact lv_icmp_eq hx hb hd ht (fun h => kt (g1.mp h)) (fun h => kf (fun q => h (g1.mpr q)))
  | ne => exact lv_icmp_ne hx hb hd ht (fun h => kt (fun q => h (g1.mpr q))) (fun h => kf (g1.mp h))
  | lt => exact lv_icmp_lt hx hb hd ht (fun h => kt (g2.mp h)) (fun h => kf (by have : ¬ u < v := fun q => h (g2.mpr q); show v ≤ u; omega))
  | ge => exact lv_icmp_ge hx hb hd ht (fun h => kt (g3.mp h)) (fun h => kf (by have : ¬ v ≤ u := fun q => h (g3.mpr q); show u < v; omega))
  | gt => exact lv_icmp_gt hx hb hd ht (fun h => kt (g4.mp h)) (fun h => kf (by have : ¬ v < u := fun q => h (g4.mpr q); show u ≤ v; omega))
  | le => exact lv_icmp_le hx hb hd ht (fun h => kt (g5.mp h)) (fun h => kf (by have : ¬ u ≤ v := fun q => h (g5.mpr q); show v < u; omega))
theorem kc_if0 {q : Jvm.ClassFile.Cond} {o : Int} {tgt : Nat} {x : Int32} {u v : Int} {rest : List Value} (ex : x.toInt = u) (ey : v = 0) (hx : p.tables.exec = Jvm.exec) (hb : c.code = cc) (hd : decode cc pc = .ok (.ifCond q o, 3)) (ht : (pc : Int) + o = (tgt : Int))
    (kt : kc_rel (kc_code q) u v → W p l e R s m args below meth c H locs cs ss Q (F0 m tgt ls rest)) (kf : kc_rel (kc_neg (kc_code q)) u v → W p l e R s m args below meth c H locs cs ss Q (F0 m (pc + 3) ls rest)) : W p l e R s m args below meth c H locs cs ss Q (F0 m pc ls (.int x :: rest)) := by
  obtain ⟨g1, g2, g3, g4, g5⟩ := kc_relI (y := 0) ex (kc_i0.trans ey.symm)
  cases q with
  | eq => exact lv_if_eq hx hb hd ht (fun h => kt (g1.mp h)) (fun h => kf (fun q => h (g1.mpr q)))
  | ne => exact lv_if_ne hx hb hd ht (fun h => kt (fun q => h (g1.mpr q))) (fun h => kf (g1.mp h))
  | lt => exact lv_if_lt hx hb hd ht (fun h => kt (g2.mp h)) (fun h => kf (by have : ¬ u < v := fun q => h (g2.mpr q); show v ≤ u; omega))
  | ge => exact lv_if_ge hx hb hd ht (fun h => kt (g3.mp h)) (fun h => kf (by have : ¬ v ≤ u := fun q => h (g3.mpr q); show u < v; omega))
  | gt => exact lv_if_gt hx hb hd ht (fun h => kt (g4.mp h)) (fun h => kf (by have : ¬ v < u := fun q => h (g4.mpr q); show u ≤ v; omega))
  | le => exact lv_if_le hx hb hd ht (fun h => kt (g5.mp h)) (fun h => kf (by have : ¬ u ≤ v := fun q => h (g5.mpr q); show v < u; omega))
set_option maxHeartbeats 4000000 in
theorem kc_x2.ok {i : Instr} {len : Nat} {succ : List kc_N} (h : kc_x2 i pc E K = some succ) (hx : p.tables.exec = Jvm.exec) (hb : c.code = cc) (hd : decode cc pc = .ok (i, len)) (hlen : kc_l2 i len = true)
    (k : ∀ q ∈ succ, kc_J p l e R s m args below meth c Q D cl A H0 nL nA ρ0 nB β0 q.1 (q.2.1, L, q.2.2, Hs, cs, ss)) : kc_J p l e R s m args below meth c Q D cl A H0 nL nA ρ0 nB β0 pc (E, L, K, Hs, cs, ss) := by
  intro ρ β ws tys H locs ls lv st hk hg
  have h0 : 0 < E.length ∧ ρ 0 = 0 := hk.2.1
  have hst : kc_stk ρ β Hs.length E.length K st := hk.2.2.2.2.1
  unfold kc_x2 at h
  split at h
  · cases of_decide_eq_true hlen
    split at h
    · rename_i ho
      cases h
      exact lv_goto hx hb hd (kc_up.at ho) (kc_J.go (k _ List.mem_cons_self) hk hg hst)
    · cases h
  · cases of_decide_eq_true hlen
    split at h
    · rename_i n d K2
      split at h
      · rename_i ho
        cases h
        obtain ⟨v, st', rfl, hlt, ⟨x, rfl, ex⟩, hst'⟩ := kc_stk.uncons hst
        exact kc_if0 ex (show ρ 0 + 0 = 0 by omega) hx hb hd (kc_up.at ho) (fun hr => kc_J.sc (fun q h => k q (List.mem_append.mpr (Or.inl h))) hk hg hr hst') (fun hr => kc_J.sc (fun q h => k q (List.mem_append.mpr (Or.inr h))) hk hg hr hst')
      · cases h
    · cases h
  · cases of_decide_eq_true hlen
    split at h
    · rename_i n2 d2 n1 d1 K2
      split at h
      · rename_i ho
        cases h
        obtain ⟨v, st', rfl, hlt, ⟨x, rfl, ex⟩, hst'⟩ := kc_stk.uncons hst
        obtain ⟨v2, st2, rfl, hlt2, ⟨x2, rfl, ex2⟩, hst2⟩ := kc_stk.uncons hst'
        exact kc_icmp ex2 ex hx hb hd (kc_up.at ho) (fun hr => kc_J.sc (fun q h => k q (List.mem_append.mpr (Or.inl h))) hk hg hr hst2) (fun hr => kc_J.sc (fun q h => k q (List.mem_append.mpr (Or.inr h))) hk hg hr hst2)
      · cases h
    · cases h
  · cases of_decide_eq_true hlen
    split at h
    · rename_i n d K2
      split at h
      · rename_i ho
        cases h
        obtain ⟨v, st', rfl, hlt, hv, hst'⟩ := kc_stk.uncons hst
        rcases hv with ⟨rfl, ex⟩ | ⟨r, rfl, hr1, -, ex⟩
        · exact lv_ifnullN hx hb hd (kc_up.at ho) (kc_J.s1 (fun q h => k q (List.mem_append.mpr (Or.inl h))) hk hg (by decide) (by show ρ n + d = ρ 0 + 0; dsimp only at ex; omega) hst')
        · exact lv_ifnull hx hb hd (kc_J.s1 (fun q h => k q (List.mem_append.mpr (Or.inr h))) hk hg (by decide) (by show ρ 0 + 0 < ρ n + d; dsimp only at ex; omega) hst')
      · cases h
    · cases h
  · cases of_decide_eq_true hlen
    split at h
    · rename_i n d K2
      split at h
      · rename_i ho
        cases h
        obtain ⟨v, st', rfl, hlt, hv, hst'⟩ := kc_stk.uncons hst
        rcases hv with ⟨rfl, ex⟩ | ⟨r, rfl, hr1, -, ex⟩
        · exact lv_ifnonnullN hx hb hd (kc_J.s1 (fun q h => k q (List.mem_append.mpr (Or.inr h))) hk hg (by decide) (by show ρ n + d = ρ 0 + 0; dsimp only at ex; omega) hst')
        · exact lv_ifnonnull hx hb hd (kc_up.at ho) (kc_J.s1 (fun q h => k q (List.mem_append.mpr (Or.inl h))) hk hg (by decide) (by show ρ 0 + 0 < ρ n + d; dsimp only at ex; omega) hst')
      · cases h
    · cases h
  · rename_i o lo hi os
    split at h
    · rename_i n d K2
      split at h
      · rename_i ho
        rw [Bool.and_eq_true, Bool.and_eq_true] at ho
        have hsz := of_decide_eq_true ho.2
        have ho := ho.1
        cases h
        obtain ⟨v, st', rfl, hlt, ⟨x, rfl, ex⟩, hst'⟩ := kc_stk.uncons hst
        have kt : ∀ q ∈ kc_tab pc E (1, n, d) K2 lo os.toList, kc_J p l e R s m args below meth c Q D cl A H0 nL nA ρ0 nB β0 q.1 (q.2.1, L, q.2.2, Hs, cs, ss) := fun q h => k q (List.mem_append.mpr (Or.inl h))
        by_cases c1 : x.toInt < lo
        · exact lv_tableOut hx hb hd (Or.inl c1) (kc_up.at ho.1) (kc_J.s1 (fun q h => k q (List.mem_append.mpr (Or.inr (List.mem_append.mpr (Or.inl h))))) hk hg (by decide) (by show ρ n + d < ρ 0 + lo; dsimp only at ex; omega) hst')
        · by_cases c2 : hi < x.toInt
          · exact lv_tableOut hx hb hd (Or.inr c2) (kc_up.at ho.1) (kc_J.s1 (fun q h => k q (List.mem_append.mpr (Or.inr (List.mem_append.mpr (Or.inr h))))) hk hg (by decide) (by show ρ 0 + hi < ρ n + d; dsimp only at ex; omega) hst')
          · cases hq : os[(x.toInt - lo).toNat]? with
            | none =>
              have := Array.getElem?_eq_none_iff.mp hq
              omega
            | some o2 =>
              have hq2 : os.toList[(x.toInt - lo).toNat]? = some o2 := by rw [Array.getElem?_toList]; exact hq
              exact lv_tableIn hx hb hd c1 c2 hq (kc_up.at (List.all_eq_true.mp ho.2 o2 (List.mem_of_getElem? hq2))) (kc_J.tab (a := (1, n, d)) (x := x.toInt) ex hk hg hst' os.toList lo kt _ _ hq2 (by omega))
      · cases h
    · cases h
  · rename_i o ps
    split at h
    · rename_i n d K2
      split at h
      · rename_i ho
        rw [Bool.and_eq_true, Bool.and_eq_true] at ho
        cases h
        obtain ⟨v, st', rfl, hlt, ⟨x, rfl, ex⟩, hst'⟩ := kc_stk.uncons hst
        by_cases c1 : ∃ q ∈ ps.toList, q.1 = x.toInt
        · exact lv_lookup hx hb hd ho.2 rfl (kc_up.at (kc_lk_some ps.toList ho.1.2 c1)) (kc_J.lks (a := (1, n, d)) (x := x.toInt) ex hk hg hst' ps.toList (fun q h => k q (List.mem_append.mpr (Or.inl h))) c1)
        · have c2 : ∀ q ∈ ps.toList, q.1 ≠ x.toInt := fun q h e => c1 ⟨q, h, e⟩
          exact lv_lookup hx hb hd ho.2 (kc_lk_none ps.toList c2) (kc_up.at ho.1.1) (kc_J.lkn (a := (1, n, d)) (x := x.toInt) ex hst' ps.toList E rfl hk hg (fun q h => k q (List.mem_append.mpr (Or.inr h))) c2)
      · cases h
    · cases h
  · cases h
end KF
end
section
theorem kc_lcmp_rel {r : Nat} {x y : Int64} {u v w : Int} (ex : x.toInt = u) (ey : y.toInt = v) (e0 : w = 0) (h : kc_rel r (lg_cmp x y).toInt w) : kc_rel r u v := by
  subst ex; subst ey; subst e0
  have g1 : (1 : Int32).toInt = 1 := rfl
  have g2 : (0 : Int32).toInt = 0 := rfl
  have g3 : (-1 : Int32).toInt = -1 := rfl
  unfold lg_cmp at h
  split at h
  · rename_i c1
    have c2 := Int64.lt_iff_toInt_lt.mp c1
    rw [g1] at h
    unfold kc_rel at h ⊢
    split at h <;> omega
  · rename_i c1
    split at h
    · rename_i c2
      subst c2
      rw [g2] at h
      unfold kc_rel at h ⊢
      split at h <;> omega
    · rename_i c2
      have c3 : ¬ y.toInt < x.toInt := fun q => c1 (Int64.lt_iff_toInt_lt.mpr q)
      have c4 : x.toInt ≠ y.toInt := fun q => c2 (Int64.toInt_inj.mp q)
      rw [g3] at h
      unfold kc_rel at h ⊢
      split at h <;> omega
section KG
variable {p : Program} {l : Launch} {e : Env} {R : Room} {s : State} {m : MethodId} {args : Array Value} {below : List Frame} {meth : Method} {c : Code} {Q : State → Prop}
variable {cc : ByteArray} {nL : Nat} {D : va_G} {cl : List vw_C} {A : Nat → Prop} {H0 : Heap}
variable {nA : Nat} {ρ0 : Nat → Int} {nB : Nat} {β0 : Nat → Nat}
variable {E E' : kc_E} {L K K' : List kc_V} {Hs Hs' : List kc_G} {cs ss pc : Nat}
theorem kc_x3.ok {j : Instr} {succ : List kc_N} (h : kc_x3 j pc E K = some succ) (hx : p.tables.exec = Jvm.exec) (hb : c.code = cc) (hd : decode cc pc = .ok (.lcmp, 1)) (hd2 : decode cc (pc + 1) = .ok (j, 3))
    (k : ∀ q ∈ succ, kc_J p l e R s m args below meth c Q D cl A H0 nL nA ρ0 nB β0 q.1 (q.2.1, L, q.2.2, Hs, cs, ss)) : kc_J p l e R s m args below meth c Q D cl A H0 nL nA ρ0 nB β0 pc (E, L, K, Hs, cs, ss) := by
  intro ρ β ws tys H locs ls lv st hk hg
  have h0 : 0 < E.length ∧ ρ 0 = 0 := hk.2.1
  have hst : kc_stk ρ β Hs.length E.length K st := hk.2.2.2.2.1
  unfold kc_x3 at h
  split at h
  · split at h
    · rename_i q o n2 d2 n1 d1 K2
      split at h
      · rename_i ho
        cases h
        obtain ⟨v, st', rfl, hlt, ⟨x, rfl, ex⟩, hst'⟩ := kc_stk.uncons hst
        obtain ⟨v2, st2, rfl, hlt2, ⟨x2, rfl, ex2⟩, hst2⟩ := kc_stk.uncons hst'
        refine W.lcmp hx hb hd ?_
        exact kc_if0 (u := (lg_cmp x2 x).toInt) (v := 0) rfl rfl hx hb hd2 (kc_up.at ho) (fun hr => kc_J.sc (fun q h => k q (List.mem_append.mpr (Or.inl h))) hk hg (kc_lcmp_rel ex2 ex rfl hr) hst2) (fun hr => kc_J.sc (fun q h => k q (List.mem_append.mpr (Or.inr h))) hk hg (kc_lcmp_rel ex2 ex rfl hr) hst2)
      · cases h
    · cases h
  · cases h
/-- one of the numbers that an index may be -/
theorem kc_J.spl {i : kc_V} {z : Int} {ρ : Nat → Int} {β : Nat → Nat} {ws : va_W} {tys : List (ClassId × FieldType)} {H : Heap} {locs : List Loc} {ls : Array Slot} {lv : List (Nat × Value)} {st : List Value} (ez : z = ρ i.2.1 + i.2.2) (hk : kc_ok D cl A s H0 nL E L K Hs ρ β ws tys H locs ls lv st) (hg : kc_ag nA ρ0 nB β0 E.length Hs.length ρ β)
    (k : ∀ q ∈ kc_spl pc E i K, kc_J p l e R s m args below meth c Q D cl A H0 nL nA ρ0 nB β0 q.1 (q.2.1, L, q.2.2, Hs, cs, ss)) : W p l e R s m args below meth c H locs cs ss Q (F0 m pc ls st) := by
  have h1 := hk.1.at i
  have h0 := hk.2.1.2
  refine kc_J.s1 (r := 0) (a := i) (b := (1, 0, kc_lo E i + (((ρ i.2.1 + i.2.2 - kc_lo E i).toNat : Nat) : Int))) (fun q hq => k q (List.mem_flatMap.mpr ⟨(ρ i.2.1 + i.2.2 - kc_lo E i).toNat, List.mem_range.mpr (by omega), hq⟩)) hk hg (by decide) ?_ hk.2.2.2.2.1
  show ρ i.2.1 + i.2.2 = ρ 0 + (kc_lo E i + (((ρ i.2.1 + i.2.2 - kc_lo E i).toNat : Nat) : Int))
  omega
theorem kc_x4.ok {ins : Instr} {succ : List kc_N} (h : kc_x4 ins pc E K = some succ)
    (k : ∀ q ∈ succ, kc_J p l e R s m args below meth c Q D cl A H0 nL nA ρ0 nB β0 q.1 (q.2.1, L, q.2.2, Hs, cs, ss)) : kc_J p l e R s m args below meth c Q D cl A H0 nL nA ρ0 nB β0 pc (E, L, K, Hs, cs, ss) := by
  intro ρ β ws tys H locs ls lv st hk hg
  unfold kc_x4 at h
  split at h
  · split at h
    · cases h
    · cases h
      exact kc_J.spl rfl hk hg k
  · split at h
    · cases h
    · cases h
      exact kc_J.spl rfl hk hg k
  · cases h
end KG
/-- the cell that a value names -/
theorem kc_cell.ok {Hs : List kc_G} {E : kc_E} {n r : Nat} {d : Int} {g : kc_G} {ρ : Nat → Int} {β : Nat → Nat} {N : Nat} {v : Value} (h : kc_cell Hs E (3, n, d) = some (r, g)) (hE : kc_env ρ E) (hv : kc_v ρ β N (3, n, d) v) : v = .ref (β (r + 1)) ∧ Hs[r]? = some g := by
  have h1 := hE.at (3, n, d)
  unfold kc_cell at h
  split at h
  · rename_i hc
    cases hq : Hs[(kc_lo E (3, n, d) - 1).toNat]? with
    | none => rw [hq] at h; cases h
    | some g' =>
      rw [hq] at h
      cases h
      dsimp only at h1
      rcases hv with ⟨-, e⟩ | ⟨r', rfl, e1, e2, e⟩
      · dsimp only at e; omega
      · dsimp only at e
        have : (kc_lo E (3, n, d) - 1).toNat + 1 = r' := by omega
        rw [this]
        exact ⟨rfl, hq⟩
  · cases h
def kc_pl (ty : FieldType) : Bool := match ty with
  | .int => true | .boolean => true | .byte => true | .short => true | .char => true | .long => true | .object _ => true | .array _ => true
  | _ => false
/-- what the tables say of the classes -/
def kc_CL (cl : List vw_C) (fd : Nat → List (FieldType × Bool)) (Ts : List Jvm.Cond) : Prop := ∀ (ci : Nat) (q : vw_C), cl[ci]? = some q → (∀ w ∈ u_ws q.1 q.2.1 q.2.2, w ∈ Ts) ∧ (fd ci).length = q.2.2 ∧ (∀ k, k < q.2.2 → parseFieldDescriptor (q.2.1 k).2.2.1 = some ((fd ci).getD k (.int, false)).1) ∧ (∀ a, a < q.2.2 → ∀ b, b < q.2.2 → a ≠ b → (q.2.1 a).2.1 ≠ (q.2.1 b).2.1) ∧ (∀ k, k < q.2.2 → (q.2.1 k).1 = q.1) ∧ (∀ k, k < q.2.2 → (q.2.1 k).2.2.2 = ((fd ci).getD k (.int, false)).2) ∧ ∀ z ∈ fd ci, kc_pl z.1 = true
/-- .. and of a class's own links to fields -/
def kc_FL (cl : List vw_C) (own : String) (Ts : List Jvm.Cond) (fl : Nat → Option (Nat × Nat)) : Prop := ∀ (ix ci k : Nat), fl ix = some (ci, k) → ∃ z : vw_C, cl[ci]? = some z ∧ k < z.2.2 ∧ Jvm.Cond.fieldLink own ix (z.2.1 k).1 (z.2.1 k).2.1 (z.2.1 k).2.2.1 ∈ Ts
theorem kc_fit.ok {ρ : Nat → Int} {β : Nat → Nat} {N : Nat} {E : kc_E} {ty : FieldType} {a : kc_V} {v : Value} (h : kc_fit ty (kc_fv E a) = true) (hE : kc_env ρ E) (hv : kc_v ρ β N a v) : narrow ty v = v ∧ fits ty v = true := by
  have hb := hE.at a
  obtain ⟨t, n, d⟩ := a
  unfold kc_fit kc_fv at h
  dsimp only at h hb
  split at h
  · cases of_decide_eq_true h
    obtain ⟨x, rfl, -⟩ := hv
    exact ⟨rfl, rfl⟩
  · obtain ⟨rfl, h1, h2⟩ := of_decide_eq_true h
    obtain ⟨x, rfl, g1⟩ := hv
    dsimp only at g1
    have : x = 0 ∨ x = 1 := by
      rcases (show x.toInt = 0 ∨ x.toInt = 1 by omega) with q | q
      · exact Or.inl (Int32.toInt_inj.mp q)
      · exact Or.inr (Int32.toInt_inj.mp q)
    rcases this with rfl | rfl <;> exact ⟨rfl, rfl⟩
  · cases of_decide_eq_true h
    obtain ⟨x, rfl, -⟩ := hv
    exact ⟨rfl, rfl⟩
  · cases of_decide_eq_true h
    rcases hv with ⟨rfl, -⟩ | ⟨r, rfl, -⟩ <;> exact ⟨rfl, rfl⟩
  · cases of_decide_eq_true h
    rcases hv with ⟨rfl, -⟩ | ⟨r, rfl, -⟩ <;> exact ⟨rfl, rfl⟩
  · cases h
/-- the cells with one of them changed -/
theorem kc_C.set {ρ : Nat → Int} {β : Nat → Nat} {n : Nat} {tys : List (ClassId × FieldType)} {Hs : List kc_G} {ws : va_W} {r : Nat} {g : kc_G} {e' : va_E} (h : kc_C ρ β n tys Hs ws) (hg : kc_e ρ β Hs.length n tys g e') : kc_C ρ β n tys (Hs.set r g) (ws.set r (β (r + 1), e')) := by
  refine ⟨by rw [List.length_set, List.length_set]; exact h.1, fun k g1 hk => ?_⟩
  rw [List.length_set]
  by_cases e1 : k = r
  · subst e1
    rw [List.getElem?_set_self'] at hk ⊢
    cases hq : Hs[k]? with
    | none => rw [hq] at hk; cases hk
    | some g0 =>
      rw [hq] at hk
      cases hk
      obtain ⟨e0, w1, -⟩ := h.2 k g0 hq
      exact ⟨e', by rw [w1]; rfl, hg⟩
  · rw [List.getElem?_set_ne (Ne.symm e1)] at hk ⊢
    exact h.2 k g1 hk
section KH
variable {p : Program} {l : Launch} {e : Env} {R : Room} {s : State} {m : MethodId} {args : Array Value} {below : List Frame} {meth : Method} {c : Code} {Q : State → Prop}
variable {cc : ByteArray} {nL : Nat} {D : va_G} {cl : List vw_C} {A : Nat → Prop} {H0 : Heap}
variable {nA : Nat} {ρ0 : Nat → Int} {nB : Nat} {β0 : Nat → Nat}
variable {E E' : kc_E} {L K K' : List kc_V} {Hs Hs' : List kc_G} {cs ss pc : Nat} {fl : Nat → Option (Nat × Nat)} {fd : Nat → List (FieldType × Bool)} {Ts : List Jvm.Cond} {own : String} {ini : Bool} {oci : Nat}
set_option maxHeartbeats 4000000 in
theorem kc_get.ok {ix : Nat} (h : kc_get fl ix E K Hs = some K') (hx : p.tables.exec = Jvm.exec) (hb : c.code = cc) (hown : s.vm.findClass own = some m.cls) (hts : ∀ w ∈ Ts, w.before args s = true) (hCL : kc_CL cl fd Ts) (hFL : kc_FL cl own Ts fl) (hd : decode cc pc = .ok (.getfield ix, 3))
    (k : kc_J p l e R s m args below meth c Q D cl A H0 nL nA ρ0 nB β0 (pc + 3) (E, L, K', Hs, cs, ss)) : kc_J p l e R s m args below meth c Q D cl A H0 nL nA ρ0 nB β0 pc (E, L, K, Hs, cs, ss) := by
  intro ρ β ws tys H locs ls lv st hk hg
  have hE : kc_env ρ E := hk.1
  have hst : kc_stk ρ β Hs.length E.length K st := hk.2.2.2.2.1
  obtain ⟨hK, hPw, hD, hS, hC⟩ := hk.2.2.2.2.2
  unfold kc_get at h
  split at h
  · rename_i n d K2
    split at h
    · rename_i r ci fty len f0 fs vs ci' k' e1 e2
      split at h
      · rename_i a ha
        split at h
        · rename_i hc
          subst hc
          cases h
          obtain ⟨v, st', rfl, hlt, hv, hst'⟩ := kc_stk.uncons hst
          obtain ⟨rfl, hH⟩ := kc_cell.ok e1 hE hv
          obtain ⟨e0, w1, w3⟩ := hC.2 _ _ hH
          obtain ⟨fs1, rfl, w4, w5⟩ := w3
          obtain ⟨z, z1, z2, z3⟩ := hFL _ _ _ e2
          have hkl : k' < fs1.length := by rw [w4]; exact (List.getElem?_eq_some_iff.mp ha).1
          have hv1 : fs1[k']? = some fs1[k'] := List.getElem?_eq_getElem hkl
          obtain ⟨y1, y2⟩ := w5 k' a _ ha hv1
          exact va_get hx hb hts (hCL _ _ z1).1 hown hK hPw r w1 z1 k' z2 (hts _ z3) (fun _ h9 => h9) hv1 hd (kc_J.go k hk hg ⟨y1, y2, hst'⟩)
        · cases h
      · cases h
    · cases h
  · cases h
set_option maxHeartbeats 4000000 in
theorem kc_put.ok {ix : Nat} (h : kc_put fl fd ini oci ix E K Hs = some (K', Hs')) (hx : p.tables.exec = Jvm.exec) (hb : c.code = cc) (hown : s.vm.findClass own = some m.cls) (hts : ∀ w ∈ Ts, w.before args s = true) (hCL : kc_CL cl fd Ts) (hFL : kc_FL cl own Ts fl) (hini : ini = true → meth.name = "<init>") (hoci : ∀ z : vw_C, cl[oci]? = some z → z.1 = own) (hd : decode cc pc = .ok (.putfield ix, 3))
    (k : kc_J p l e R s m args below meth c Q D cl A H0 nL nA ρ0 nB β0 (pc + 3) (E, L, K', Hs', cs, ss)) : kc_J p l e R s m args below meth c Q D cl A H0 nL nA ρ0 nB β0 pc (E, L, K, Hs, cs, ss) := by
  intro ρ β ws tys H locs ls lv st hk hg
  obtain ⟨hE, h0, hL, hl, hst, hK, hPw, hD, hS, hC⟩ := hk
  dsimp only at hE h0 hL hl hst hC hg
  unfold kc_put at h
  split at h
  · rename_i a n d K2
    split at h
    · rename_i r ci fty len f0 fs vs ci' k' e1 e2
      split at h
      · rename_i z hz
        split at h
        · rename_i hc
          simp only [Bool.and_eq_true, decide_eq_true_eq] at hc
          obtain ⟨⟨⟨rfl, c4⟩, c1⟩, c5⟩ := hc
          cases h
          obtain ⟨va, st1, rfl, hlta, hva, hst1⟩ := kc_stk.uncons hst
          obtain ⟨v, st', rfl, hlt, hv, hst'⟩ := kc_stk.uncons hst1
          obtain ⟨rfl, hH⟩ := kc_cell.ok e1 hE hv
          obtain ⟨e0, w1, w3⟩ := hC.2 _ _ hH
          obtain ⟨fs1, rfl, w4, w5⟩ := w3
          obtain ⟨z', z1, z2, z3⟩ := hFL _ _ _ e2
          have hkl : k' < fs1.length := by rw [w4]; exact c1
          obtain ⟨y1, y2⟩ := kc_fit.ok c4 hE hva
          obtain ⟨q1, q0, q2, q3, q4, q5, -⟩ := hCL _ _ z1
          have hz2 : (fd ci).getD k' (.int, false) = z := by rw [List.getD_eq_getElem?_getD, hz]; rfl
          have q2k := q2 k' z2
          rw [hz2] at q2k
          have q5k := q5 k' z2
          rw [hz2] at q5k
          have kk : ∀ (H1 : Heap) (locs1 : List Loc), va_P D cl (ws.set r (β (r + 1), .inr (ci, fs1.set k' va))) H1 → va_D A (ws.set r (β (r + 1), .inr (ci, fs1.set k' va))) → va_S A H0 H1 locs1 → W p l e R s m args below meth c H1 locs1 cs ss Q (F0 m (pc + 3) ls st') := fun H1 locs1 u1 u2 u3 => by
            refine k ρ β _ tys H1 locs1 ls lv st' ⟨hE, h0, by rw [List.length_set]; exact hL, hl, by rw [List.length_set]; exact hst', hK, u1, u2, u3, hC.set ?_⟩ (by rw [List.length_set]; exact hg)
            refine ⟨fs1.set k' va, rfl, by rw [List.length_set]; dsimp only; rw [List.length_set]; exact w4, fun j a1 v1 ha1 hv1 => ?_⟩
            dsimp only at ha1
            by_cases ej : j = k'
            · subst ej
              rw [List.getElem?_set_self hkl] at hv1
              cases hv1
              rw [List.getElem?_set_self c1] at ha1
              cases ha1
              exact ⟨hlta, hva⟩
            · rw [List.getElem?_set_ne (Ne.symm ej)] at hv1 ha1
              exact w5 j a1 v1 ha1 hv1
          by_cases hfin : z.2 = true
          · rw [hfin] at c5
            simp only [Bool.not_true, Bool.false_or, Bool.and_eq_true, decide_eq_true_eq] at c5
            obtain ⟨c6, rfl⟩ := c5
            exact va_putF hx hb hts q1 (fun k => ((fd ci).getD k (.int, false)).1) q2 q3 hown hK hPw hD hS r w1 z1 k' z2 (hts _ z3) (fun _ h9 => h9) (q5k.trans hfin) (hini c6) ((q4 k' z2).trans (hoci z' z1)) (q2k) y1 y2 hkl hd kk
          · have hfin : z.2 = false := by simpa using hfin
            exact va_put hx hb hts q1 (fun k => ((fd ci).getD k (.int, false)).1) q2 q3 hown hK hPw hD hS r w1 z1 k' z2 (hts _ z3) (fun _ h9 => h9) (q5k.trans hfin) (q2k) y1 y2 hkl hd kk
        · cases h
      · cases h
    · cases h
  · cases h
end KH
end
section
theorem kc_sub.rf (f : kc_F) : kc_sub f f = true := decide_eq_true ⟨rfl, Int.le_refl _, Int.le_refl _⟩
theorem kc_join.l (f g : kc_F) : kc_sub f (kc_join f g) = true := by
  unfold kc_sub kc_join
  refine decide_eq_true ⟨rfl, ?_, ?_⟩
  · dsimp only
    split <;> omega
  · dsimp only
    split <;> omega
theorem kc_join.r {f g : kc_F} (h : g.1 = f.1) : kc_sub g (kc_join f g) = true := by
  unfold kc_sub kc_join
  refine decide_eq_true ⟨h, ?_, ?_⟩
  · dsimp only
    split <;> omega
  · dsimp only
    split <;> omega
theorem kc_sub.tr {f g h : kc_F} (h1 : kc_sub f g = true) (h2 : kc_sub g h = true) : kc_sub f h = true := by
  obtain ⟨a1, a2, a3⟩ := of_decide_eq_true h1
  obtain ⟨b1, b2, b3⟩ := of_decide_eq_true h2
  exact decide_eq_true ⟨a1.trans b1, by omega, by omega⟩
theorem kc_joins.base : ∀ (fs : List kc_F) (d : kc_F), kc_sub d (kc_joins d fs) = true
  | [], d => kc_sub.rf d
  | f :: fs, d => kc_sub.tr (kc_join.l d f) (kc_joins.base fs (kc_join d f))
theorem kc_joins.mem : ∀ (fs : List kc_F) (d f : kc_F), f ∈ fs → f.1 = d.1 → kc_sub f (kc_joins d fs) = true
  | [], _, _, h, _ => by cases h
  | g :: fs, d, f, h, ht => by
    rcases List.mem_cons.mp h with rfl | h
    · exact kc_sub.tr (kc_join.r ht) (kc_joins.base fs (kc_join d f))
    · exact kc_joins.mem fs (kc_join d g) f h ht
theorem kc_joins.ty (fs : List kc_F) (d : kc_F) : (kc_joins d fs).1 = d.1 := (of_decide_eq_true (kc_joins.base fs d)).1.symm
/-- what stands at any place is within all of them together -/
theorem kc_joins.at {β : Nat → Nat} {N j : Nat} {fs : List kc_F} {d : kc_F} {v : Value} (h : kc_t β N (fs.getD j d) v) (ht : (fs.getD j d).1 = d.1) : kc_t β N (kc_joins d fs) v := by
  rw [List.getD_eq_getElem?_getD] at h ht
  cases hq : fs[j]? with
  | none => rw [hq] at h; exact kc_sub.ok (kc_joins.base fs d) h
  | some f => rw [hq] at h ht; exact kc_sub.ok (kc_joins.mem fs d f (List.mem_of_getElem? hq) ht) h
def kc_ixn (E : kc_E) (i : kc_V) (x : Nat) : Prop := kc_lo E i ≤ (x : Int) ∧ (x : Int) ≤ kc_hi E i
theorem kc_ix.ok {E : kc_E} {i : kc_V} {N : Nat} {ρ : Nat → Int} {x : Int32} (h : kc_ix E i N = true) (hE : kc_env ρ E) (ex : x.toInt = ρ i.2.1 + i.2.2) : vp_in x N ∧ x.toNatClampNeg < N ∧ kc_ixn E i x.toNatClampNeg := by
  have h1 := hE.at i
  have h2 := of_decide_eq_true h
  have h3 : vp_in x N := vp_in_iff.mpr ⟨by omega, by omega⟩
  have h9 : (x.toNatClampNeg : Int) = x.toInt := Int32.cast_toNatClampNeg x (by
    rw [Int32.le_iff_toInt_le]
    exact (vp_in_iff.mp h3).1)
  exact ⟨h3, Nat.not_le.mp fun q => h3 (Or.inr q), by unfold kc_ixn; omega⟩
theorem kc_at.ok {β : Nat → Nat} {N x : Nat} {E : kc_E} {i : kc_V} {d : kc_F} {fs : List kc_F} {v : Value} (hi : kc_ixn E i x) (h : kc_t β N (fs.getD x d) v) (ht : (fs.getD x d).1 = d.1) : kc_t β N (kc_at E i d fs) v := by
  unfold kc_at
  unfold kc_ixn at hi
  split
  · rename_i hc
    have : (kc_lo E i).toNat = x := by omega
    rw [this]
    exact h
  · exact kc_joins.at h ht
/-- behind a write, every place is as the executor says -/
theorem kc_wr.ok {β : Nat → Nat} {N x len : Nat} {E : kc_E} {i : kc_V} {d f : kc_F} {fs : List kc_F} {V V' : Nat → Value} (hi : kc_ixn E i x) (h : ∀ j, j < len → kc_t β N (fs.getD j d) (V j)) (ht : ∀ j, j < len → (fs.getD j d).1 = d.1) (hf : f.1 = d.1) (hw : kc_t β N f (V' x)) (ho : ∀ j, j ≠ x → V' j = V j) : ∀ j, j < len → kc_t β N ((kc_wr E i d fs f).2.getD j (kc_wr E i d fs f).1) (V' j) := by
  intro j hj
  unfold kc_ixn at hi
  unfold kc_wr
  split
  · rename_i hc
    have hx : (kc_lo E i).toNat = x := by omega
    rw [hx]
    split
    · rename_i hl
      dsimp only
      by_cases e : j = x
      · subst e
        rw [List.getD_eq_getElem?_getD, List.getElem?_set_self hl]
        exact hw
      · rw [List.getD_eq_getElem?_getD, List.getElem?_set_ne (Ne.symm e), ← List.getD_eq_getElem?_getD, ho j e]
        exact h j hj
    · rename_i hl
      split
      · rename_i hs
        dsimp only
        by_cases e : j = x
        · subst e
          rw [List.getD_eq_getElem?_getD, List.getElem?_eq_none (by omega)]
          exact kc_sub.ok hs hw
        · rw [ho j e]
          exact h j hj
      · split
        · dsimp only
          have hlen : (fs ++ List.replicate (x - fs.length) d).length = x := by
            rw [List.length_append, List.length_replicate]
            omega
          by_cases e : j = x
          · subst e
            rw [List.getD_eq_getElem?_getD, List.getElem?_append_right (by omega), hlen, Nat.sub_self]
            exact hw
          · rw [ho j e]
            have hh := h j hj
            by_cases e1 : j < fs.length
            · rw [List.getD_eq_getElem?_getD, List.getElem?_append_left (by omega), List.getElem?_append_left e1, ← List.getD_eq_getElem?_getD]
              exact hh
            · rw [List.getD_eq_getElem?_getD, List.getElem?_eq_none (by omega)] at hh
              by_cases e2 : j < x
              · rw [List.getD_eq_getElem?_getD, List.getElem?_append_left (by omega), List.getElem?_append_right (by omega), List.getElem?_replicate, if_pos (by omega)]
                exact hh
              · rw [List.getD_eq_getElem?_getD, List.getElem?_eq_none (by rw [List.length_append, hlen]; simp; omega)]
                exact hh
        · dsimp only
          by_cases e : j = x
          · subst e
            rw [List.getD_eq_getElem?_getD, List.getElem?_eq_none (by omega)]
            exact kc_sub.ok (kc_join.r hf) hw
          · rw [ho j e]
            have hh := h j hj
            by_cases e1 : j < fs.length
            · rw [List.getD_eq_getElem?_getD, List.getElem?_eq_getElem e1] at hh ⊢
              exact hh
            · rw [List.getD_eq_getElem?_getD, List.getElem?_eq_none (by omega)] at hh ⊢
              exact kc_sub.ok (kc_join.l d f) hh
  · split
    · rename_i hs
      obtain ⟨h1, h2⟩ := hs
      subst h2
      dsimp only
      by_cases e : j = x
      · subst e
        exact kc_sub.ok h1 hw
      · rw [ho j e]
        exact h j hj
    · dsimp only
      by_cases e : j = x
      · subst e
        exact kc_sub.ok (kc_join.r (hf.trans (kc_joins.ty fs d).symm)) hw
      · rw [ho j e]
        exact kc_sub.ok (kc_join.l _ f) (kc_joins.at (h j hj) (ht j hj))
theorem kc_tyI {β : Nat → Nat} {N : Nat} {f : kc_F} {x : Int32} (h : kc_t β N f (.int x)) : f.1 = 1 := by
  obtain ⟨t, lo, hi⟩ := f
  unfold kc_t at h
  dsimp only at h ⊢
  split at h
  · rfl
  · obtain ⟨y, e, -⟩ := h; cases e
  · rcases h with ⟨e, -⟩ | ⟨r, e, -⟩ <;> cases e
  · exact absurd h id
theorem kc_tyL {β : Nat → Nat} {N : Nat} {f : kc_F} {x : Int64} (h : kc_t β N f (.long x)) : f.1 = 2 := by
  obtain ⟨t, lo, hi⟩ := f
  unfold kc_t at h
  dsimp only at h ⊢
  split at h
  · obtain ⟨y, e, -⟩ := h; cases e
  · rfl
  · rcases h with ⟨e, -⟩ | ⟨r, e, -⟩ <;> cases e
  · exact absurd h id
theorem kc_tyR {β : Nat → Nat} {N : Nat} {f : kc_F} {x : Option Nat} (h : kc_t β N f (va_rf x)) : f.1 = 3 := by
  obtain ⟨t, lo, hi⟩ := f
  unfold kc_t at h
  dsimp only at h ⊢
  split at h
  · obtain ⟨y, e, -⟩ := h; cases x <;> cases e
  · obtain ⟨y, e, -⟩ := h; cases x <;> cases e
  · rfl
  · exact absurd h id
theorem kc_narb {x : Int32} (h1 : -128 ≤ x.toInt) (h2 : x.toInt ≤ 127) : vp_nar .byte x = x := by
  apply Int32.toInt_inj.mp
  rw [vp_nar_byte, Int8.toInt_toInt32, Int32.toInt_toInt8, Int.bmod_eq_of_le (by omega) (by omega)]
theorem kc_nars {x : Int32} (h1 : -32768 ≤ x.toInt) (h2 : x.toInt ≤ 32767) : vp_nar .short x = x := by
  apply Int32.toInt_inj.mp
  rw [vp_nar_short, Int16.toInt_toInt32, Int32.toInt_toInt16, Int.bmod_eq_of_le (by omega) (by omega)]
theorem kc_narz {x : Int32} (h1 : 0 ≤ x.toInt) (h2 : x.toInt ≤ 1) : vp_nar .boolean x = x := by
  rcases (show x.toInt = 0 ∨ x.toInt = 1 by omega) with q | q
  · have : x = 0 := Int32.toInt_inj.mp q
    subst this
    rfl
  · have : x = 1 := Int32.toInt_inj.mp q
    subst this
    rfl
theorem kc_nat32 {n : Nat} (h : n ≤ 2147483647) : (Int32.ofNat n).toInt = (n : Int) := nI_toInt (n := n) (by omega)
section KI
variable {p : Program} {l : Launch} {e : Env} {R : Room} {s : State} {m : MethodId} {args : Array Value} {below : List Frame} {meth : Method} {c : Code} {Q : State → Prop}
variable {cc : ByteArray} {nL : Nat} {D : va_G} {cl : List vw_C} {A : Nat → Prop} {H0 : Heap}
variable {nA : Nat} {ρ0 : Nat → Int} {nB : Nat} {β0 : Nat → Nat}
variable {E E' : kc_E} {L K K' : List kc_V} {Hs Hs' : List kc_G} {cs ss pc : Nat}
/-- (of the script nothing is read here) -/
def kc_X (_ : State) (_ : Nat → Prop) (_ : Heap) (_ : Nat) (_ : Nat → Int) (_ : Nat → Nat) : Prop := True
set_option maxHeartbeats 4000000 in
theorem kc_ald.ok {ins : Instr} (h : kc_ald ins E K Hs = some (E', K')) (hx : p.tables.exec = Jvm.exec) (hb : c.code = cc) (hd : decode cc pc = .ok (ins, 1)) (hX : (∃ n d K2 i, K = i :: (5, n, d) :: K2) → kc_X s A H0 nA ρ0 β0)
    (k : kc_J p l e R s m args below meth c Q D cl A H0 nL nA ρ0 nB β0 (pc + 1) (E', L, K', Hs, cs, ss)) : kc_J p l e R s m args below meth c Q D cl A H0 nL nA ρ0 nB β0 pc (E, L, K, Hs, cs, ss) := by
  intro ρ β ws tys H locs ls lv st hk hg
  have hE : kc_env ρ E := hk.1
  have h0 := hk.2.1
  have hst : kc_stk ρ β Hs.length E.length K st := hk.2.2.2.2.1
  obtain ⟨hK, hPw, hD, hS, hC⟩ := hk.2.2.2.2.2
  unfold kc_ald at h
  split at h
  · rename_i ni di n d K2
    split at h
    · rename_i r kd ci ty len f0 fs vs e1
      split at h
      · rename_i hc
        simp only [Bool.and_eq_true] at hc
        obtain ⟨⟨c1, c2⟩, c3⟩ := hc
        have c3 := of_decide_eq_true c3
        cases h
        obtain ⟨vi, st1, rfl, hlti, ⟨x, rfl, exi⟩, hst1⟩ := kc_stk.uncons hst
        obtain ⟨v, st', rfl, hlt, hv, hst'⟩ := kc_stk.uncons hst1
        obtain ⟨rfl, hH⟩ := kc_cell.ok e1 hE hv
        obtain ⟨e0, w1, w3⟩ := hC.2 _ _ hH
        have go : ∀ v1 : Value, kc_t β Hs.length (kc_at E (1, ni, di) f0 fs) v1 → W p l e R s m args below meth c H locs cs ss Q (F0 m (pc + 1) ls (v1 :: st')) := fun v1 h9 => kc_J.res k hk hg hst' (kc_rd.ok hE h0 h9)
        obtain ⟨i1, i2, i3⟩ := kc_ix.ok c2 hE exi
        unfold kc_alk at c1
        split at c1
        · obtain ⟨rfl, rfl⟩ := of_decide_eq_true c1
          obtain ⟨cA, t0, h2, rfl, w4, w7⟩ := w3
          have w8 := w7 _ i2
          exact va_iald hx hb hK hPw r t0 w1 w4 i1 hd (go _ (kc_at.ok i3 w8 ((kc_tyI w8).trans c3.symm)))
        · obtain ⟨rfl, hty⟩ := of_decide_eq_true c1
          obtain ⟨cA, t0, h2, rfl, w4, w7⟩ := w3
          have w8 := w7 _ i2
          rcases hty with rfl | rfl
          · exact va_bald hx hb hK hPw r t0 w1 w4 i1 hd (go _ (kc_at.ok i3 w8 ((kc_tyI w8).trans c3.symm)))
          · exact va_zald hx hb hK hPw r t0 w1 w4 i1 hd (go _ (kc_at.ok i3 w8 ((kc_tyI w8).trans c3.symm)))
        · obtain ⟨rfl, rfl⟩ := of_decide_eq_true c1
          obtain ⟨cA, t0, h2, rfl, w4, w7⟩ := w3
          have w8 := w7 _ i2
          exact va_sald hx hb hK hPw r t0 w1 w4 i1 hd (go _ (kc_at.ok i3 w8 ((kc_tyI w8).trans c3.symm)))
        · cases of_decide_eq_true c1
          obtain ⟨cA, t0, h2, rfl, w4, w7⟩ := w3
          have w8 := w7 _ i2
          exact va_lald hx hb hK hPw r t0 w1 w4 i1 hd (go _ (kc_at.ok i3 w8 ((kc_tyL w8).trans c3.symm)))
        · obtain ⟨rfl, hty⟩ := of_decide_eq_true c1
          obtain ⟨cA, t0, h2, rfl, w4, w7⟩ := w3
          have w8 := w7 _ i2
          exact W.aald (v := va_rf (h2 x.toNatClampNeg)) (ty := ty) hx hb (hPw r _ w1) ((hK.2 t0 _ w4).1 len (fun j => va_rf (h2 j))) hty (fun q => by cases q) (by show ¬ (x < 0 ∨ (arrV _ _ _).slots.size ≤ _); rw [arrV_size]; exact i1) (by show (arrV _ _ _).slots[_]? = _; rw [arrV_read _ _ i2]) rfl rfl hd (go _ (kc_at.ok i3 w8 ((kc_tyR w8).trans c3.symm)))
        · cases c1
      · cases h
    · cases h
  · cases h
set_option maxHeartbeats 4000000 in
theorem kc_aln.ok (h : kc_aln E K Hs = some (E', K')) (hx : p.tables.exec = Jvm.exec) (hb : c.code = cc) (hd : decode cc pc = .ok (.arraylength, 1)) (hX : (∃ n d K2, K = (5, n, d) :: K2) → kc_X s A H0 nA ρ0 β0)
    (k : kc_J p l e R s m args below meth c Q D cl A H0 nL nA ρ0 nB β0 (pc + 1) (E', L, K', Hs, cs, ss)) : kc_J p l e R s m args below meth c Q D cl A H0 nL nA ρ0 nB β0 pc (E, L, K, Hs, cs, ss) := by
  intro ρ β ws tys H locs ls lv st hk hg
  have hE : kc_env ρ E := hk.1
  have h0 := hk.2.1
  have hst : kc_stk ρ β Hs.length E.length K st := hk.2.2.2.2.1
  obtain ⟨hK, hPw, hD, hS, hC⟩ := hk.2.2.2.2.2
  unfold kc_aln at h
  split at h
  · rename_i n d K2
    split at h
    · rename_i r kd ci ty len rst e1
      split at h
      · rename_i hc
        cases h
        obtain ⟨v, st', rfl, hlt, hv, hst'⟩ := kc_stk.uncons hst
        obtain ⟨rfl, hH⟩ := kc_cell.ok e1 hE hv
        obtain ⟨e0, w1, w3⟩ := hC.2 _ _ hH
        have go : W p l e R s m args below meth c H locs cs ss Q (F0 m (pc + 1) ls (.int (Int32.ofNat len) :: st')) := kc_J.res k hk hg hst' (kc_r.old hE h0.1 ⟨_, rfl, by dsimp only; rw [kc_nat32 (by omega)]; omega⟩)
        unfold kc_e at w3
        split at w3
        · exact absurd (by assumption) hc.1
        · obtain ⟨cA, t0, h2, rfl, w4, w7⟩ := w3
          exact va_alen hx hb hK hPw r t0 w1 w4 rfl hd go
        · obtain ⟨cA, t0, h2, rfl, w4, w7⟩ := w3
          exact va_alen hx hb hK hPw r t0 w1 w4 rfl hd go
        · obtain ⟨cA, t0, h2, rfl, w4, w7⟩ := w3
          exact va_alen hx hb hK hPw r t0 w1 w4 rfl hd go
        · exact absurd w3 id
      · cases h
    · cases h
  · cases h
end KI
end
section
theorem kc_cat.ok {ρ : Nat → Int} {β : Nat → Nat} {N n : Nat} : ∀ {K : List kc_V} {st : List Value}, kc_stk ρ β N n K st → (st.map fun v => v.category).sum = kc_cat K
  | [], [], _ => rfl
  | (t, b, d) :: K, v :: st, h => by
    have h1 := kc_cat.ok h.2.2
    unfold kc_cat at h1 ⊢
    rw [List.map_cons, List.sum_cons, List.map_cons, List.sum_cons, h1]
    by_cases e : t = 2
    · subst e
      rw [kc_cat2 h.2.1]
      rfl
    · rw [kc_cat1 h.2.1 e, if_neg e]
  | [], _ :: _, h => absurd h id
  | _ :: _, [], h => absurd h id
section KJ
variable {p : Program} {l : Launch} {e : Env} {R : Room} {s : State} {m : MethodId} {args : Array Value} {below : List Frame} {meth : Method} {c : Code} {Q : State → Prop}
variable {cc : ByteArray} {nL : Nat} {D : va_G} {cl : List vw_C} {A : Nat → Prop} {H0 : Heap}
variable {nA : Nat} {ρ0 : Nat → Int} {nB : Nat} {β0 : Nat → Nat}
variable {E E' : kc_E} {L K K' : List kc_V} {Hs Hs' : List kc_G} {cs ss pc : Nat}
theorem kc_upd_ne {f : Nat → Int32} {i j : Nat} {x : Int32} (h : j ≠ i) : upd f i x j = f j := pk_un h
theorem kc_upd_eq {f : Nat → Int32} {i : Nat} {x : Int32} : upd f i x i = x := pk_us
/-- a cell changed, all else as it is -/
theorem kc_J.st {ρ : Nat → Int} {β : Nat → Nat} {ws : va_W} {tys : List (ClassId × FieldType)} {H H1 : Heap} {locs locs1 : List Loc} {ls : Array Slot} {lv : List (Nat × Value)} {st st' : List Value} {r : Nat} {g : kc_G} {e' : va_E}
    (k : kc_J p l e R s m args below meth c Q D cl A H0 nL nA ρ0 nB β0 pc (E, L, K', Hs.set r g, cs, ss)) (hk : kc_ok D cl A s H0 nL E L K Hs ρ β ws tys H locs ls lv st) (hg : kc_ag nA ρ0 nB β0 E.length Hs.length ρ β) (hst' : kc_stk ρ β Hs.length E.length K' st')
    (u0 : kc_e ρ β Hs.length E.length tys g e') (u1 : va_P D cl (ws.set r (β (r + 1), e')) H1) (u2 : va_D A (ws.set r (β (r + 1), e'))) (u3 : va_S A H0 H1 locs1) : W p l e R s m args below meth c H1 locs1 cs ss Q (F0 m pc ls st') := by
  obtain ⟨hE, h0, hL, hl, hst, hK, hPw, hD, hS, hC⟩ := hk
  exact k ρ β _ tys H1 locs1 ls lv st' ⟨hE, h0, by dsimp only; rw [List.length_set]; exact hL, hl, by dsimp only; rw [List.length_set]; exact hst', hK, u1, u2, u3, hC.set u0⟩ (by dsimp only; rw [List.length_set]; exact hg)
set_option maxHeartbeats 4000000 in
theorem kc_ast.ok {ins : Instr} (h : kc_ast ins E K Hs = some (K', Hs')) (hx : p.tables.exec = Jvm.exec) (hb : c.code = cc) (hd : decode cc pc = .ok (ins, 1))
    (k : kc_J p l e R s m args below meth c Q D cl A H0 nL nA ρ0 nB β0 (pc + 1) (E, L, K', Hs', cs, ss)) : kc_J p l e R s m args below meth c Q D cl A H0 nL nA ρ0 nB β0 pc (E, L, K, Hs, cs, ss) := by
  intro ρ β ws tys H locs ls lv st hk hg
  have hE : kc_env ρ E := hk.1
  have hst : kc_stk ρ β Hs.length E.length K st := hk.2.2.2.2.1
  obtain ⟨hK, hPw, hD, hS, hC⟩ := hk.2.2.2.2.2
  unfold kc_ast at h
  split at h
  · rename_i a ni di n d K2
    split at h
    · rename_i r kd ci ty len f0 fs vs e1
      split at h
      · rename_i hc
        simp only [Bool.and_eq_true] at hc
        obtain ⟨⟨c1, c2⟩, c3⟩ := hc
        have c3 := of_decide_eq_true c3
        cases h
        obtain ⟨va, st0, rfl, hlta, hva, hst0⟩ := kc_stk.uncons hst
        obtain ⟨vi, st1, rfl, hlti, ⟨x, rfl, exi⟩, hst1⟩ := kc_stk.uncons hst0
        obtain ⟨v, st', rfl, hlt, hv, hst'⟩ := kc_stk.uncons hst1
        obtain ⟨rfl, hH⟩ := kc_cell.ok e1 hE hv
        obtain ⟨e0, w1, w3⟩ := hC.2 _ _ hH
        obtain ⟨i1, i2, i3⟩ := kc_ix.ok c2 hE exi
        have hba := hE.at a
        obtain ⟨at1, an, ad⟩ := a
        dsimp only at hba
        have ht : at1 ≠ 5 → kc_t β Hs.length (kc_fv E (at1, an, ad)) va := fun h5 => hva.write h5 rfl (by unfold kc_fv; dsimp only; omega) (by unfold kc_fv; dsimp only; omega)
        unfold kc_ask kc_fv at c1
        dsimp only at c1
        split at c1
        · obtain ⟨rfl, rfl, rfl⟩ := of_decide_eq_true c1
          obtain ⟨cA, t0, h2, rfl, w4, w7⟩ := w3
          obtain ⟨y, rfl, ey⟩ := hva
          exact va_iast hx hb hK hPw hD hS r t0 w1 w4 i1 hd (fun H1 locs1 u1 u2 u3 => kc_J.st k hk hg hst' ⟨cA, t0, _, rfl, w4, kc_wr.ok (V := fun j => .int (h2 j)) (V' := fun j => .int (upd h2 x.toNatClampNeg y j)) i3 w7 (fun j hj => (kc_tyI (w7 j hj)).trans c3.symm) c3.symm (by rw [kc_upd_eq]; exact ht (by decide)) (fun j hj => by rw [kc_upd_ne hj])⟩ u1 u2 u3)
        · obtain ⟨rfl, hty⟩ := of_decide_eq_true c1
          obtain ⟨cA, t0, h2, rfl, w4, w7⟩ := w3
          rcases hty with ⟨rfl, rfl, b1, b2⟩ | ⟨rfl, rfl, b1, b2⟩
          · obtain ⟨y, rfl, ey⟩ := hva
            dsimp only at ey
            have hy := kc_narb (x := y) (by omega) (by omega)
            exact va_bast hx hb hK hPw hD hS r t0 w1 w4 i1 hd (fun H1 locs1 u1 u2 u3 => kc_J.st k hk hg hst' ⟨cA, t0, _, rfl, w4, kc_wr.ok (V := fun j => .int (h2 j)) (V' := fun j => .int (upd h2 x.toNatClampNeg (vp_nar .byte y) j)) i3 w7 (fun j hj => (kc_tyI (w7 j hj)).trans c3.symm) c3.symm (by rw [kc_upd_eq, hy]; exact ht (by decide)) (fun j hj => by rw [kc_upd_ne hj])⟩ u1 u2 u3)
          · obtain ⟨y, rfl, ey⟩ := hva
            dsimp only at ey
            have hy := kc_narz (x := y) (by omega) (by omega)
            exact va_zast hx hb hK hPw hD hS r t0 w1 w4 i1 hd (fun H1 locs1 u1 u2 u3 => kc_J.st k hk hg hst' ⟨cA, t0, _, rfl, w4, kc_wr.ok (V := fun j => .int (h2 j)) (V' := fun j => .int (upd h2 x.toNatClampNeg (vp_nar .boolean y) j)) i3 w7 (fun j hj => (kc_tyI (w7 j hj)).trans c3.symm) c3.symm (by rw [kc_upd_eq, hy]; exact ht (by decide)) (fun j hj => by rw [kc_upd_ne hj])⟩ u1 u2 u3)
        · obtain ⟨rfl, rfl, rfl, b1, b2⟩ := of_decide_eq_true c1
          obtain ⟨cA, t0, h2, rfl, w4, w7⟩ := w3
          obtain ⟨y, rfl, ey⟩ := hva
          dsimp only at ey
          have hy := kc_nars (x := y) (by omega) (by omega)
          exact va_sast hx hb hK hPw hD hS r t0 w1 w4 i1 hd (fun H1 locs1 u1 u2 u3 => kc_J.st k hk hg hst' ⟨cA, t0, _, rfl, w4, kc_wr.ok (V := fun j => .int (h2 j)) (V' := fun j => .int (upd h2 x.toNatClampNeg (vp_nar .short y) j)) i3 w7 (fun j hj => (kc_tyI (w7 j hj)).trans c3.symm) c3.symm (by rw [kc_upd_eq, hy]; exact ht (by decide)) (fun j hj => by rw [kc_upd_ne hj])⟩ u1 u2 u3)
        · obtain ⟨rfl, rfl⟩ := of_decide_eq_true c1
          obtain ⟨cA, t0, h2, rfl, w4, w7⟩ := w3
          obtain ⟨y, rfl, ey⟩ := hva
          exact va_last hx hb hK hPw hD hS r t0 w1 w4 i1 hd (fun H1 locs1 u1 u2 u3 => kc_J.st k hk hg hst' ⟨cA, t0, _, rfl, w4, kc_wr.ok (V := fun j => .long (h2 j)) (V' := fun j => .long (vp_updL h2 x.toNatClampNeg y j)) i3 w7 (fun j hj => (kc_tyL (w7 j hj)).trans c3.symm) c3.symm (by rw [pk_uLs]; exact ht (by decide)) (fun j hj => by rw [pk_uLn hj])⟩ u1 u2 u3)
        · cases c1
      · cases h
    · cases h
  · cases h
set_option maxHeartbeats 4000000 in
theorem kc_aas.ok {cn : Nat → FieldType} (h : kc_aas cn E K Hs = some (K', Hs')) (hx : p.tables.exec = Jvm.exec) (hb : c.code = cc) (hcn : ∀ (ci : Nat) (z : vw_C), cl[ci]? = some z → cn ci = .object z.1) (hd : decode cc pc = .ok (.aastore, 1))
    (k : kc_J p l e R s m args below meth c Q D cl A H0 nL nA ρ0 nB β0 (pc + 1) (E, L, K', Hs', cs, ss)) : kc_J p l e R s m args below meth c Q D cl A H0 nL nA ρ0 nB β0 pc (E, L, K, Hs, cs, ss) := by
  intro ρ β ws tys H locs ls lv st hk hg
  have hE : kc_env ρ E := hk.1
  have hst : kc_stk ρ β Hs.length E.length K st := hk.2.2.2.2.1
  obtain ⟨hK, hPw, hD, hS, hC⟩ := hk.2.2.2.2.2
  unfold kc_aas at h
  split at h
  · rename_i na da ni di n d K2
    split at h
    · rename_i r ci ty len f0 fs vs r2 ca rst e1 e2
      split at h
      · rename_i hc
        simp only [Bool.and_eq_true] at hc
        obtain ⟨⟨c1, c2⟩, c3⟩ := hc
        have c1 := of_decide_eq_true c1
        have c3 := of_decide_eq_true c3
        cases h
        obtain ⟨va, st0, rfl, hlta, hva, hst0⟩ := kc_stk.uncons hst
        obtain ⟨vi, st1, rfl, hlti, ⟨x, rfl, exi⟩, hst1⟩ := kc_stk.uncons hst0
        obtain ⟨v, st', rfl, hlt, hv, hst'⟩ := kc_stk.uncons hst1
        obtain ⟨rfl, hH⟩ := kc_cell.ok e1 hE hv
        obtain ⟨e0, w1, w3⟩ := hC.2 _ _ hH
        obtain ⟨i1, i2, i3⟩ := kc_ix.ok c2 hE exi
        have hba := hE.at (3, na, da)
        dsimp only at hba
        have ht : kc_t β Hs.length (kc_fv E (3, na, da)) va := hva.write (show (3 : Nat) ≠ 5 by decide) rfl (by unfold kc_fv; dsimp only; omega) (by unfold kc_fv; dsimp only; omega)
        obtain ⟨rfl, hH2⟩ := kc_cell.ok e2 hE hva
        obtain ⟨e3, v1, v3⟩ := hC.2 _ _ hH2
        obtain ⟨fs2, rfl, -⟩ := v3
        have hz0 : ∃ z : vw_C, cl[ca]? = some z ∧ _ := hPw _ _ v1
        obtain ⟨z, hz, -⟩ := hz0
        have hcz := hcn _ _ hz
        obtain ⟨cA, t0, h2, rfl, w4, w7⟩ := w3
        dsimp only at w4
        rw [c1, hcz] at w4
        refine va_astq hx hb hK hPw hD hS r t0 r2 ca w1 w4 v1 hz i1 hd (fun H1 locs1 u1 u2 u3 => ?_)
        refine kc_J.st k hk hg hst' ⟨cA, t0, _, rfl, by dsimp only; rw [c1, hcz]; exact w4, kc_wr.ok (V := fun j => va_rf (h2 j)) (V' := fun j => va_rf (va_up h2 x.toNatClampNeg (some (β (r2 + 1))) j)) i3 w7 (fun j hj => (kc_tyR (w7 j hj)).trans c3.symm) c3.symm (by rw [va_up_self]; exact ht) (fun j hj => by rw [va_up_ne _ _ hj])⟩ u1 u2 u3
      · cases h
    · cases h
  · cases h
set_option maxHeartbeats 4000000 in
theorem kc_acp.ok {own : String} {ix : Nat} (h : kc_acp E K Hs = some (K', Hs')) (hx : p.tables.exec = Jvm.exec) (hb : c.code = cc) (hml : c.maxLocals = nL) (hown : s.vm.findClass own = some m.cls) (hlink : (Cond.methodLink own ix arraycopyName).before args s = true) (hnat : (Cond.native arraycopyName).before args s = true) (hstat : (Cond.static arraycopyName).before args s = true) (hini : (Cond.initialized "java/lang/System").before args s = true)
    (hframes : 1 ≤ R.frames) (hlocals : 8 + (nativeFrameWords "java/lang/System" "arraycopy" 5 + 11) ≤ R.locals) (hd : decode cc pc = .ok (.invokestatic ix, 3))
    (k : kc_J p l e R s m args below meth c Q D cl A H0 nL nA ρ0 nB β0 (pc + 3) (E, L, K', Hs', cs, ss)) : kc_J p l e R s m args below meth c Q D cl A H0 nL nA ρ0 nB β0 pc (E, L, K, Hs, cs, ss) := by
  intro ρ β ws tys H locs ls lv st hk hg
  have hE : kc_env ρ E := hk.1
  have hl : lv_has ls nL lv := hk.2.2.2.1
  have hst : kc_stk ρ β Hs.length E.length K st := hk.2.2.2.2.1
  obtain ⟨hK, hPw, hD, hS, hC⟩ := hk.2.2.2.2.2
  unfold kc_acp at h
  split at h
  · rename_i nl dl nq dq nd dd np dp ns ds K2
    split at h
    · rename_i r1 ci1 len f0 fs vs1 r ci len' f0' fs' vs' e1 e2
      split at h
      · rename_i hc
        obtain ⟨c1, c2, c3, c4, c5, c6, c7, c8⟩ := hc
        cases h
        obtain ⟨v1, st1, rfl, -, ⟨xl, rfl, exl⟩, hst1⟩ := kc_stk.uncons hst
        obtain ⟨v2, st2, rfl, -, ⟨xq, rfl, exq⟩, hst2⟩ := kc_stk.uncons hst1
        obtain ⟨v3, st3, rfl, -, hv3, hst3⟩ := kc_stk.uncons hst2
        obtain ⟨v4, st4, rfl, -, ⟨xp, rfl, exp⟩, hst4⟩ := kc_stk.uncons hst3
        obtain ⟨v5, st5, rfl, -, hv5, hst5⟩ := kc_stk.uncons hst4
        obtain ⟨rfl, hH1⟩ := kc_cell.ok e1 hE hv5
        obtain ⟨rfl, hH2⟩ := kc_cell.ok e2 hE hv3
        obtain ⟨e3, w1, cA, t0, h1, rfl, w4, w7⟩ := hC.2 _ _ hH1
        obtain ⟨e4, w1', cA', t0', h2, rfl, w4', w7'⟩ := hC.2 _ _ hH2
        have b1 := hE.at (1, nl, dl)
        have b2 := hE.at (1, nq, dq)
        have b3 := hE.at (1, np, dp)
        dsimp only at b1 b2 b3 exl exq exp w1 w1' w7 w7'
        have nn : ∀ z : Int32, 0 ≤ z.toInt → ¬ z < 0 ∧ (z.toNatClampNeg : Int) = z.toInt := fun z hz => ⟨fun q => by
          have := Int32.lt_iff_toInt_lt.mp q
          have h9 : (0 : Int32).toInt = 0 := rfl
          omega, Int32.cast_toNatClampNeg z (by rw [Int32.le_iff_toInt_le]; exact hz)⟩
        obtain ⟨l1, l2⟩ := nn xl (by omega)
        obtain ⟨q1, q2⟩ := nn xq (by omega)
        obtain ⟨p1, p2⟩ := nn xp (by omega)
        refine va_copyi hx hb (hml.trans hl.1.symm) hown hlink hnat hstat hini hK hPw hD hS r1 r t0 t0' w1 w1' w4 w4' rfl p1 q1 l1 (by omega) (by omega) (fun _ _ => rfl) hframes (by rw [kc_cat.ok hst5]; omega) hd (fun H1 locs1 u1 u2 u3 => ?_)
        refine kc_J.st k hk hg hst5 ?_ u1 u2 u3
        have hcp : ∀ j, j < len' → kc_t β Hs.length (fs'.getD j f0') (.int (va_cpy h1 h2 xp.toNatClampNeg xq.toNatClampNeg xl.toNatClampNeg j)) ∨ kc_t β Hs.length (kc_joins f0 fs) (.int (va_cpy h1 h2 xp.toNatClampNeg xq.toNatClampNeg xl.toNatClampNeg j)) := fun j hj => by
          by_cases hin : xq.toNatClampNeg ≤ j ∧ j < xq.toNatClampNeg + xl.toNatClampNeg
          · rw [pk_cpy_in hin.1 hin.2]
            have h9 := w7 (xp.toNatClampNeg + (j - xq.toNatClampNeg)) (by omega)
            exact Or.inr (kc_joins.at h9 ((kc_tyI h9).trans c1.symm))
          · rw [pk_cpy_out (by omega)]
            exact Or.inl (w7' j hj)
        split
        · rename_i hs
          obtain ⟨s1, s2⟩ := hs
          subst s2
          refine ⟨cA', t0', _, rfl, w4', fun j hj => ?_⟩
          rcases hcp j hj with h9 | h9
          · exact h9
          · exact kc_sub.ok s1 h9
        · refine ⟨cA', t0', _, rfl, w4', fun j hj => ?_⟩
          dsimp only
          rcases hcp j hj with h9 | h9
          · exact kc_sub.ok (kc_join.l _ _) (kc_joins.at h9 ((kc_tyI h9).trans c2.symm))
          · exact kc_sub.ok (kc_join.r (by rw [kc_joins.ty, kc_joins.ty, c1, c2])) h9
      · cases h
    · cases h
  · cases h
end KJ
end
section
theorem va_AOA.moved {ty : FieldType} {u U : State} (hvm : u.vm.Alike U.vm) (h : va_AOA ty u) : va_AOA ty U := by
  unfold va_AOA Cond.before Cond.holds at h ⊢
  simp only [Cond.value, beq_iff_eq] at h ⊢
  cases hc : u.vm.findClass (FieldType.array ty).toString with
  | none => simp [hc] at h
  | some comp =>
    have f1 : U.vm.findClass (FieldType.array ty).toString = some comp := by rw [hvm.findClass]; exact hc
    simp only [hc, Option.bind_some, Option.bind_eq_some_iff, Option.map_eq_some_iff] at h
    obtain ⟨c, hi, k, hk, hb⟩ := h
    obtain ⟨k', hk', he⟩ := hvm.2.2 _ _ hk
    have e1 := va_idx_bare U.vm comp
    have e2 := va_idx_bare u.vm comp
    have e3 : U.vm.bare = u.vm.bare := by first | exact hvm.bare_eq | exact hvm.bare_eq.symm
    rw [e3] at e1
    have hi2 := e1.symm.trans (e2.trans hi)
    rw [f1, Option.bind_some]
    refine (congrArg (fun o : Option Nat => o.bind _) hi2).trans ?_
    rw [Option.bind_some, hk', Option.map_some]
    have hkk : k'.kind = k.kind := by rw [he]
    rw [hkk, hvm.findClass]
    exact congrArg some hb
theorem kc_up_lt {β : Nat → Nat} {N q k : Nat} (h : k ≤ N) : va_up β (N + 1) q k = β k := va_up_ne _ _ (by omega)
/-- the cells with a new one -/
theorem kc_C.push {ρ : Nat → Int} {β : Nat → Nat} {n q : Nat} {tys tys' : List (ClassId × FieldType)} {Hs : List kc_G} {ws : va_W} {g : kc_G} {e' : va_E} (h : kc_C ρ β n tys Hs ws) (ht : ∀ (k : Nat) (z : ClassId × FieldType), tys[k]? = some z → tys'[k]? = some z) (hg : kc_e ρ (va_up β (Hs.length + 1) q) (Hs.length + 1) n tys' g e') : kc_C ρ (va_up β (Hs.length + 1) q) n tys' (Hs ++ [g]) (ws ++ [(q, e')]) := by
  refine ⟨by simp [h.1], fun k g1 hk => ?_⟩
  rw [List.length_append, List.length_singleton]
  by_cases hl : k < Hs.length
  · rw [List.getElem?_append_left hl] at hk
    obtain ⟨e0, w1, w2⟩ := h.2 k g1 hk
    refine ⟨e0, ?_, w2.ext (fun _ _ => rfl) (fun j hj => kc_up_lt hj) (Nat.le_succ _) (Nat.le_refl _) ht⟩
    rw [List.getElem?_append_left (by rw [h.1]; exact hl), kc_up_lt (by omega)]
    exact w1
  · rw [List.getElem?_append_right (by omega)] at hk
    have h0 : k - Hs.length < 1 := (List.getElem?_eq_some_iff.mp hk).1
    have e0 : k = Hs.length := by omega
    subst e0
    rw [Nat.sub_self] at hk
    cases hk
    refine ⟨e', ?_, hg⟩
    rw [List.getElem?_append_right (by rw [h.1]; exact Nat.le_refl _), h.1, Nat.sub_self, va_up_self]
    rfl
/-- .. with more -/
theorem kc_C.tys {ρ : Nat → Int} {β : Nat → Nat} {n : Nat} {tys tys' : List (ClassId × FieldType)} {Hs : List kc_G} {ws : va_W} (h : kc_C ρ β n tys Hs ws) (ht : ∀ (k : Nat) (z : ClassId × FieldType), tys[k]? = some z → tys'[k]? = some z) : kc_C ρ β n tys' Hs ws := ⟨h.1, fun k g hk => by
  obtain ⟨e, e1, e2⟩ := h.2 k g hk
  exact ⟨e, e1, e2.ext (fun _ _ => rfl) (fun _ _ => rfl) (Nat.le_refl _) (Nat.le_refl _) ht⟩⟩
theorem kc_tys_app {tys t2 : List (ClassId × FieldType)} (k : Nat) (z : ClassId × FieldType) (h : tys[k]? = some z) : (tys ++ t2)[k]? = some z := by
  rw [List.getElem?_append_left (List.getElem?_eq_some_iff.mp h).1]
  exact h
theorem kc_dft.ok {ρ : Nat → Int} {β : Nat → Nat} {N : Nat} {ty : FieldType} (h : kc_pl ty = true) (h0 : ρ 0 = 0) : (kc_dft ty).2.1 = 0 ∧ kc_v ρ β N (kc_dft ty) (defaultValue ty) := by
  unfold kc_pl at h
  split at h
  · exact ⟨rfl, 0, rfl, by show (0 : Int) = ρ 0 + 0; omega⟩
  · exact ⟨rfl, 0, rfl, by show (0 : Int) = ρ 0 + 0; omega⟩
  · exact ⟨rfl, 0, rfl, by show (0 : Int) = ρ 0 + 0; omega⟩
  · exact ⟨rfl, 0, rfl, by show (0 : Int) = ρ 0 + 0; omega⟩
  · exact ⟨rfl, 0, rfl, by show (0 : Int) = ρ 0 + 0; omega⟩
  · exact ⟨rfl, 0, rfl, by show (0 : Int) = ρ 0 + 0; omega⟩
  · exact ⟨rfl, Or.inl ⟨rfl, by show ρ 0 + 0 = 0; omega⟩⟩
  · exact ⟨rfl, Or.inl ⟨rfl, by show ρ 0 + 0 = 0; omega⟩⟩
  · cases h
/-- a class's own links to classes of which it makes objects -/
def kc_NL (cl : List vw_C) (own : String) (Ts : List Jvm.Cond) (nw : Nat → Option Nat) : Prop := ∀ (ix ci : Nat), nw ix = some ci → ∃ z : vw_C, cl[ci]? = some z ∧ Jvm.Cond.classLink own ix z.1 ∈ Ts ∧ Jvm.Cond.instantiable z.1 z.2.2 ∈ Ts ∧ Jvm.Cond.initialized z.1 ∈ Ts
section KK
variable {p : Program} {l : Launch} {e : Env} {R : Room} {s : State} {m : MethodId} {args : Array Value} {below : List Frame} {meth : Method} {c : Code} {Q : State → Prop}
variable {cc : ByteArray} {nL : Nat} {D : va_G} {cl : List vw_C} {A : Nat → Prop} {H0 : Heap}
variable {nA : Nat} {ρ0 : Nat → Int} {nB : Nat} {β0 : Nat → Nat}
variable {E E' : kc_E} {L K K' : List kc_V} {Hs Hs' : List kc_G} {cs ss cs' ss' pc : Nat} {fd : Nat → List (FieldType × Bool)} {Ts : List Jvm.Cond} {own : String} {RC RS : Nat}
/-- the executor's state with a new cell -/
theorem kc_J.cell {ρ : Nat → Int} {β : Nat → Nat} {ws : va_W} {tys tys' : List (ClassId × FieldType)} {H H1 : Heap} {locs locs1 : List Loc} {ls : Array Slot} {lv : List (Nat × Value)} {st st' : List Value} {q : Nat} {g : kc_G} {e' : va_E}
    (k : kc_J p l e R s m args below meth c Q D cl A H0 nL nA ρ0 nB β0 pc (E, L, (3, 0, ((Hs.length + 1 : Nat) : Int)) :: K', Hs ++ [g], cs, ss)) (hk : kc_ok D cl A s H0 nL E L K Hs ρ β ws tys H locs ls lv st) (hg : kc_ag nA ρ0 nB β0 E.length Hs.length ρ β) (hst' : kc_stk ρ β Hs.length E.length K' st')
    (hK1 : va_K D cl tys' s) (u1 : va_P D cl (ws ++ [(q, e')]) H1) (u2 : va_D A (ws ++ [(q, e')])) (u3 : va_S A H0 H1 locs1) (ht : ∀ (k : Nat) (z : ClassId × FieldType), tys[k]? = some z → tys'[k]? = some z)
    (hne : kc_e ρ (va_up β (Hs.length + 1) q) (Hs.length + 1) E.length tys' g e') : W p l e R s m args below meth c H1 locs1 cs ss Q (F0 m pc ls (.ref q :: st')) := by
  obtain ⟨hE, h0, hL, hl, hst, hK, hPw, hD, hS, hC⟩ := hk
  have hlen : (Hs ++ [g]).length = Hs.length + 1 := by simp
  refine k ρ (va_up β (Hs.length + 1) q) _ tys' H1 locs1 ls lv (.ref q :: st') ⟨hE, h0, ?_, hl, ?_, hK1, u1, u2, u3, hC.push ht hne⟩ ?_
  · dsimp only
    rw [hlen]
    exact hL.ext (fun _ _ => rfl) (fun j hj => kc_up_lt hj) (Nat.le_succ _) (Nat.le_refl _)
  · dsimp only
    rw [hlen]
    refine ⟨h0.1, Or.inr ⟨Hs.length + 1, by rw [va_up_self], by omega, Nat.le_refl _, ?_⟩, kc_stk.ext (fun _ _ => rfl) (fun j hj => kc_up_lt hj) (Nat.le_succ _) (Nat.le_refl _) hst'⟩
    dsimp only
    omega
  · dsimp only
    rw [hlen]
    exact hg.ext (fun _ _ => rfl) (fun j hj => kc_up_lt hj) (Nat.le_refl _) (Nat.le_succ _)
set_option maxHeartbeats 4000000 in
theorem kc_new.ok {nw : Nat → Option Nat} {ix : Nat} (h : kc_new nw fd RC RS ix E K Hs cs ss = some (K', Hs', cs', ss')) (hx : p.tables.exec = Jvm.exec) (hb : c.code = cc) (hown : s.vm.findClass own = some m.cls) (hts : ∀ w ∈ Ts, w.before args s = true) (hCL : kc_CL cl fd Ts) (hNL : kc_NL cl own Ts nw) (hRC : RC ≤ R.cells) (hRS : RS ≤ R.slots) (hA : ∀ q, H0.size ≤ q → A q) (hd : decode cc pc = .ok (.new ix, 3))
    (k : kc_J p l e R s m args below meth c Q D cl A H0 nL nA ρ0 nB β0 (pc + 3) (E, L, K', Hs', cs', ss')) : kc_J p l e R s m args below meth c Q D cl A H0 nL nA ρ0 nB β0 pc (E, L, K, Hs, cs, ss) := by
  intro ρ β ws tys H locs ls lv st hk hg
  show W p l e R s m args below meth c H locs cs ss Q (F0 m pc ls st)
  have h0 : 0 < E.length ∧ ρ 0 = 0 := hk.2.1
  have hst : kc_stk ρ β Hs.length E.length K st := hk.2.2.2.2.1
  obtain ⟨hK, hPw, hD, hS, hC⟩ := hk.2.2.2.2.2
  unfold kc_new at h
  split at h
  · rename_i ci e1
    split at h
    · rename_i hc
      obtain ⟨c3, c4⟩ := hc
      cases h
      obtain ⟨z, hz, z2, z3, z4⟩ := hNL _ _ e1
      obtain ⟨q1, q0, q2, q3, q4, q5, q6⟩ := hCL _ _ hz
      rw [q0] at c4 k
      refine va_new (fs := (List.range z.2.2).map (fun j => defaultValue ((fd ci).getD j (.int, false)).1)) hx hb hts q1 (fun j => ((fd ci).getD j (.int, false)).1) q2 hown (hts _ z2) (hts _ z3) (hts _ z4) hK hPw hD hS hA hz (fun j hj => ?_) (by omega) (by omega) hd (fun q H1 u1 u2 u3 => ?_)
      · simp [vp_V, hj]
      · refine kc_J.cell k hk hg hst hK u1 u2 u3 (fun _ _ h => h) ⟨_, rfl, by simp [q0], fun j a v ha hv => ?_⟩
        dsimp only at ha
        rw [List.getElem?_map] at ha
        cases hf : (fd ci)[j]? with
        | none => rw [hf] at ha; cases ha
        | some y =>
          rw [hf] at ha
          cases ha
          have hj : j < z.2.2 := by rw [← q0]; exact (List.getElem?_eq_some_iff.mp hf).1
          have hv1 : v = defaultValue y.1 := by
            rw [List.getElem?_map, List.getElem?_range hj] at hv
            have := Option.some.inj hv
            rw [← this]
            show defaultValue ((fd ci).getD j (.int, false)).1 = _
            rw [List.getD_eq_getElem?_getD, hf]
            rfl
          subst hv1
          obtain ⟨d1, d2⟩ := kc_dft.ok (β := va_up β (Hs.length + 1) q) (N := Hs.length + 1) (q6 y (List.mem_of_getElem? hf)) h0.2
          exact ⟨by rw [d1]; exact h0.1, d2⟩
    · cases h
  · cases h
theorem kc_i32nn {x : Int32} {z : Int} (h : x.toInt = z) (h1 : 0 ≤ z) : ¬ x < 0 ∧ x.toNatClampNeg = z.toNat := by
  have h9 : (x.toNatClampNeg : Int) = x.toInt := Int32.cast_toNatClampNeg x (by rw [Int32.le_iff_toInt_le]; show (0 : Int) ≤ _; omega)
  refine ⟨fun q => ?_, by omega⟩
  have := Int32.lt_iff_toInt_lt.mp q
  have h8 : (0 : Int32).toInt = 0 := rfl
  omega
theorem kc_t0 {β : Nat → Nat} {N : Nat} : kc_t β N (1, 0, 0) (.int 0) := ⟨0, rfl, Int.le_refl _, Int.le_refl _⟩
theorem kc_t0l {β : Nat → Nat} {N : Nat} : kc_t β N (2, 0, 0) (.long 0) := ⟨0, rfl, Int.le_refl _, Int.le_refl _⟩
theorem kc_t0r {β : Nat → Nat} {N : Nat} : kc_t β N (3, 0, 0) (va_rf none) := Or.inl ⟨rfl, Int.le_refl _, Int.le_refl _⟩
set_option maxHeartbeats 4000000 in
theorem kc_nar.ok {t0 : ArrayType} (h : kc_nar RC RS t0 E K Hs cs ss = some (K', Hs', cs', ss')) (hx : p.tables.exec = Jvm.exec) (hb : c.code = cc) (hts : ∀ w ∈ Ts, w.before args s = true) (hAC : ∀ ty : FieldType, ty = .int ∨ ty = .byte ∨ ty = .short ∨ ty = .boolean ∨ ty = .long → Jvm.Cond.arrayClass ty ∈ Ts) (hRC : RC ≤ R.cells) (hRS : RS ≤ R.slots) (hA : ∀ q, H0.size ≤ q → A q) (hd : decode cc pc = .ok (.newarray t0, 2))
    (k : kc_J p l e R s m args below meth c Q D cl A H0 nL nA ρ0 nB β0 (pc + 2) (E, L, K', Hs', cs', ss')) : kc_J p l e R s m args below meth c Q D cl A H0 nL nA ρ0 nB β0 pc (E, L, K, Hs, cs, ss) := by
  intro ρ β ws tys H locs ls lv st hk hg
  show W p l e R s m args below meth c H locs cs ss Q (F0 m pc ls st)
  have hE : kc_env ρ E := hk.1
  have hst : kc_stk ρ β Hs.length E.length K st := hk.2.2.2.2.1
  obtain ⟨hK, hPw, hD, hS, hC⟩ := hk.2.2.2.2.2
  unfold kc_nar at h
  split at h
  · rename_i n d K2
    split at h
    · rename_i hc
      obtain ⟨c1, c2, c3, c4, c5⟩ := hc
      obtain ⟨v, st', rfl, hlt, ⟨x, rfl, ex⟩, hst'⟩ := kc_stk.uncons hst
      have hbn := hE.at (1, n, d)
      dsimp only at hbn ex
      obtain ⟨x1, x2⟩ := kc_i32nn (x := x) (z := kc_lo E (1, n, d)) (by omega) c2
      split at h
      · cases h
        exact va_newa (atype := .int) (ty := .int) (a0 := ((kc_lo E (1, n, d)).toNat, .inl (fun _ => 0))) hx hb (hts _ (hAC .int (by simp))) rfl hK hPw hD hS hA (fun _ => rfl) x1 x2 (by show _ * 4 ≤ _; omega) (by omega) (by omega) hd (fun q cA H1 v1 u1 u2 u3 => kc_J.cell k hk hg hst' v1 u1 u2 u3 kc_tys_app ⟨cA, tys.length, _, rfl, by simp, fun j _ => kc_t0⟩)
      · cases h
        exact va_newa (atype := .byte) (ty := .byte) (a0 := ((kc_lo E (1, n, d)).toNat, .inl (fun _ => 0))) hx hb (hts _ (hAC .byte (by simp))) rfl hK hPw hD hS hA (fun _ => rfl) x1 x2 (by show _ * 1 ≤ _; omega) (by omega) (by omega) hd (fun q cA H1 v1 u1 u2 u3 => kc_J.cell k hk hg hst' v1 u1 u2 u3 kc_tys_app ⟨cA, tys.length, _, rfl, by simp, fun j _ => kc_t0⟩)
      · cases h
        exact va_newa (atype := .short) (ty := .short) (a0 := ((kc_lo E (1, n, d)).toNat, .inl (fun _ => 0))) hx hb (hts _ (hAC .short (by simp))) rfl hK hPw hD hS hA (fun _ => rfl) x1 x2 (by show _ * 2 ≤ _; omega) (by omega) (by omega) hd (fun q cA H1 v1 u1 u2 u3 => kc_J.cell k hk hg hst' v1 u1 u2 u3 kc_tys_app ⟨cA, tys.length, _, rfl, by simp, fun j _ => kc_t0⟩)
      · cases h
        exact va_newa (atype := .boolean) (ty := .boolean) (a0 := ((kc_lo E (1, n, d)).toNat, .inl (fun _ => 0))) hx hb (hts _ (hAC .boolean (by simp))) rfl hK hPw hD hS hA (fun _ => rfl) x1 x2 (by show _ * 1 ≤ _; omega) (by omega) (by omega) hd (fun q cA H1 v1 u1 u2 u3 => kc_J.cell k hk hg hst' v1 u1 u2 u3 kc_tys_app ⟨cA, tys.length, _, rfl, by simp, fun j _ => kc_t0⟩)
      · cases h
        exact va_newa (atype := .long) (ty := .long) (a0 := ((kc_lo E (1, n, d)).toNat, .inr (.inl (fun _ => 0)))) hx hb (hts _ (hAC .long (by simp))) rfl hK hPw hD hS hA (fun _ => rfl) x1 x2 (by show _ * 8 ≤ _; omega) (by omega) (by omega) hd (fun q cA H1 v1 u1 u2 u3 => kc_J.cell k hk hg hst' v1 u1 u2 u3 kc_tys_app ⟨cA, tys.length, _, rfl, by simp, fun j _ => kc_t0l⟩)
      · cases h
    · cases h
  · cases h
/-- a class's own links to components of arrays -/
def kc_AL (own : String) (s : State) (Ts : List Jvm.Cond) (aw : Nat → Option FieldType) : Prop := ∀ (ix : Nat) (ty : FieldType), aw ix = some ty → ∃ C : String, ty = .object C ∧ Jvm.Cond.classLink own ix C ∈ Ts ∧ va_AO C s
set_option maxHeartbeats 4000000 in
theorem kc_ana.ok {aw : Nat → Option FieldType} {ix : Nat} (h : kc_ana aw RC RS ix E K Hs cs ss = some (K', Hs', cs', ss')) (hx : p.tables.exec = Jvm.exec) (hb : c.code = cc) (hown : s.vm.findClass own = some m.cls) (hts : ∀ w ∈ Ts, w.before args s = true) (hAL : kc_AL own s Ts aw) (hRC : RC ≤ R.cells) (hRS : RS ≤ R.slots) (hA : ∀ q, H0.size ≤ q → A q) (hd : decode cc pc = .ok (.anewarray ix, 3))
    (k : kc_J p l e R s m args below meth c Q D cl A H0 nL nA ρ0 nB β0 (pc + 3) (E, L, K', Hs', cs', ss')) : kc_J p l e R s m args below meth c Q D cl A H0 nL nA ρ0 nB β0 pc (E, L, K, Hs, cs, ss) := by
  intro ρ β ws tys H locs ls lv st hk hg
  show W p l e R s m args below meth c H locs cs ss Q (F0 m pc ls st)
  have hE : kc_env ρ E := hk.1
  have hst : kc_stk ρ β Hs.length E.length K st := hk.2.2.2.2.1
  obtain ⟨hK, hPw, hD, hS, hC⟩ := hk.2.2.2.2.2
  unfold kc_ana at h
  split at h
  · rename_i n d K2 ty e1
    split at h
    · rename_i hc
      obtain ⟨c1, c2, c3, c4, c5⟩ := hc
      cases h
      obtain ⟨v, st', rfl, hlt, ⟨x, rfl, ex⟩, hst'⟩ := kc_stk.uncons hst
      have hbn := hE.at (1, n, d)
      dsimp only at hbn ex
      obtain ⟨x1, x2⟩ := kc_i32nn (x := x) (z := kc_lo E (1, n, d)) (by omega) c2
      obtain ⟨C, rfl, y1, y2⟩ := hAL _ _ e1
      exact va_newq hx hb hown (hts _ y1) y2 hK hPw hD hS hA x1 x2 (by omega) (by omega) (by omega) hd (fun q cA H1 v1 u1 u2 u3 => kc_J.cell k hk hg hst' v1 u1 u2 u3 kc_tys_app ⟨cA, tys.length, _, rfl, by simp, fun j _ => kc_t0r⟩)
    · cases h
  · cases h
/-- a class's own constants -/
def kc_KL (own : String) (Ts : List Jvm.Cond) (kw : Nat → Option (Nat × Int)) : Prop := (∀ (ix : Nat) (v : Int), kw ix = some (1, v) → ∃ x : Int32, x.toInt = v ∧ Jvm.Cond.constant own ix x ∈ Ts) ∧ ∀ (ix : Nat) (v : Int), kw ix = some (2, v) → ∃ x : Int64, x.toInt = v ∧ Jvm.Cond.constantLong own ix x ∈ Ts
theorem kc_ldc.ok {kw : Nat → Option (Nat × Int)} {t ix n : Nat} {i : Instr} (h : kc_ldc kw t ix K = some K') (hi : t = 1 ∧ i = .ldc ix ∧ n = 2 ∨ t = 1 ∧ i = .ldc_w ix ∧ n = 3 ∨ t = 2 ∧ i = .ldc2_w ix ∧ n = 3) (hx : p.tables.exec = Jvm.exec) (hb : c.code = cc) (hown : s.vm.findClass own = some m.cls) (hts : ∀ w ∈ Ts, w.before args s = true) (hKL : kc_KL own Ts kw) (hd : decode cc pc = .ok (i, n))
    (k : kc_J p l e R s m args below meth c Q D cl A H0 nL nA ρ0 nB β0 (pc + n) (E, L, K', Hs, cs, ss)) : kc_J p l e R s m args below meth c Q D cl A H0 nL nA ρ0 nB β0 pc (E, L, K, Hs, cs, ss) := by
  intro ρ β ws tys H locs ls lv st hk hg
  show W p l e R s m args below meth c H locs cs ss Q (F0 m pc ls st)
  have h0 : 0 < E.length ∧ ρ 0 = 0 := hk.2.1
  have hst : kc_stk ρ β Hs.length E.length K st := hk.2.2.2.2.1
  unfold kc_ldc at h
  split at h
  · rename_i t' v e1
    split at h
    · rename_i e2
      subst e2
      cases h
      rcases hi with ⟨rfl, rfl, rfl⟩ | ⟨rfl, rfl, rfl⟩ | ⟨rfl, rfl, rfl⟩
      · obtain ⟨x, rfl, hw⟩ := hKL.1 _ _ e1
        exact lv_ldc hx hb hown (hts _ hw) hd (kc_J.res k hk hg hst (kc_r.old hk.1 h0.1 ⟨x, rfl, by dsimp only; omega⟩))
      · obtain ⟨x, rfl, hw⟩ := hKL.1 _ _ e1
        exact lv_ldcw hx hb hown (hts _ hw) hd (kc_J.res k hk hg hst (kc_r.old hk.1 h0.1 ⟨x, rfl, by dsimp only; omega⟩))
      · obtain ⟨x, rfl, hw⟩ := hKL.2 _ _ e1
        exact lv_ldc2 hx hb hown (hts _ hw) hd (kc_J.res k hk hg hst (kc_r.old hk.1 h0.1 ⟨x, rfl, by dsimp only; omega⟩))
    · cases h
  · cases h
end KK
end
section
/-- a class's own links to arrays of arrays of ints -/
def kc_ML (own : String) (s : State) (Ts : List Jvm.Cond) (mw : Nat → Bool) : Prop := ∀ ix : Nat, mw ix = true → Jvm.Cond.classLink own ix ("[" ++ (FieldType.array .int).toString) ∈ Ts ∧ va_AOA .int s
theorem kc_arrI {args : Array Value} {s : State} (h : (Cond.arrayClass .int).before args s = true) : ∃ cy : ClassId, s.vm.findClass (FieldType.array .int).toString = some cy ∧ ArrOfT s cy .int ∧ va_RA s cy .int := by
  obtain ⟨cy, k, comp, h1, h2, h3⟩ := Cond.arrayClass_spec h
  exact ⟨cy, h1, fun n z => ⟨fun k h => (by cases h), k, h2, comp, h3⟩, h1⟩
section KL
variable {p : Program} {l : Launch} {e : Env} {R : Room} {s : State} {m : MethodId} {args : Array Value} {below : List Frame} {meth : Method} {c : Code} {Q : State → Prop}
variable {cc : ByteArray} {nL : Nat} {D : va_G} {cl : List vw_C} {A : Nat → Prop} {H0 : Heap}
variable {nA : Nat} {ρ0 : Nat → Int} {nB : Nat} {β0 : Nat → Nat}
variable {E E' : kc_E} {L K K' : List kc_V} {Hs Hs' : List kc_G} {cs ss cs' ss' pc : Nat} {Ts : List Jvm.Cond} {own : String} {RC RS : Nat}
/-- the cells with an array of arrays -/
theorem kc_C.rows {ρ : Nat → Int} {β β' : Nat → Nat} {n q N1 N2 : Nat} {r : Nat → Nat} {tys tys' : List (ClassId × FieldType)} {Hs : List kc_G} {ws : va_W} {cA cy : ClassId} {tA ty : Nat} (h : kc_C ρ β n tys Hs ws) (ht : ∀ (k : Nat) (z : ClassId × FieldType), tys[k]? = some z → tys'[k]? = some z)
    (b0 : ∀ k, k ≤ Hs.length → β' k = β k) (b1 : β' (Hs.length + 1) = q) (b2 : ∀ j, j < N1 → β' (Hs.length + 2 + j) = r j) (t1 : tys'[tA]? = some (cA, .array .int)) (t2 : tys'[ty]? = some (cy, .int)) :
    kc_C ρ β' n tys' (Hs ++ [(3, 0, .array .int, N1, (3, 0, 0), (List.range N1).map (fun j => (3, ((Hs.length + 2 + j : Nat) : Int), ((Hs.length + 2 + j : Nat) : Int))), [])] ++ List.replicate N1 (1, 0, .int, N2, (1, 0, 0), [], []))
      (ws ++ [(q, .inl (cA, N1, .inr (.inr (.inr (.inr (fun i => if i < N1 then some (r i) else none))))))] ++ (List.range N1).map (fun j => (r j, .inl (cy, N2, .inl (fun _ => 0))))) := by
  have hlen : (Hs ++ [((3, 0, .array .int, N1, (3, 0, 0), (List.range N1).map (fun j => (3, ((Hs.length + 2 + j : Nat) : Int), ((Hs.length + 2 + j : Nat) : Int))), []) : kc_G)] ++ List.replicate N1 ((1, 0, .int, N2, (1, 0, 0), [], []) : kc_G)).length = Hs.length + 1 + N1 := by simp; omega
  refine ⟨by simp [h.1], fun k g hk => ?_⟩
  rw [hlen]
  by_cases h1 : k < Hs.length
  · rw [List.getElem?_append_left (by simp; omega), List.getElem?_append_left h1] at hk
    obtain ⟨e0, w1, w2⟩ := h.2 k g hk
    refine ⟨e0, ?_, w2.ext (fun _ _ => rfl) b0 (by omega) (Nat.le_refl _) ht⟩
    rw [List.getElem?_append_left (by simp [h.1]; omega), List.getElem?_append_left (by rw [h.1]; exact h1), b0 _ (by omega)]
    exact w1
  · by_cases h2 : k = Hs.length
    · subst h2
      rw [List.getElem?_append_left (by simp), List.getElem?_append_right (Nat.le_refl _), Nat.sub_self] at hk
      cases hk
      refine ⟨_, ?_, cA, tA, fun i => if i < N1 then some (r i) else none, rfl, t1, fun j hj => ?_⟩
      · rw [List.getElem?_append_left (by simp [h.1]), List.getElem?_append_right (by rw [h.1]; exact Nat.le_refl _), h.1, Nat.sub_self, b1]
        rfl
      · dsimp only at hj ⊢
        rw [List.getD_eq_getElem?_getD, List.getElem?_map, List.getElem?_range hj, if_pos hj]
        refine Or.inr ⟨Hs.length + 2 + j, by rw [b2 j hj]; rfl, by omega, by omega, Int.le_refl _, Int.le_refl _⟩
    · have hk2 : k - (Hs.length + 1) < N1 := by
        have h3 := (List.getElem?_eq_some_iff.mp hk).1
        rw [hlen] at h3
        omega
      rw [List.getElem?_append_right (by simp; omega)] at hk
      have h4 : (Hs ++ [((3, 0, .array .int, N1, (3, 0, 0), (List.range N1).map (fun j => (3, ((Hs.length + 2 + j : Nat) : Int), ((Hs.length + 2 + j : Nat) : Int))), []) : kc_G)]).length = Hs.length + 1 := by simp
      rw [h4, List.getElem?_replicate, if_pos hk2] at hk
      cases hk
      refine ⟨_, ?_, cy, ty, fun _ => 0, rfl, t2, fun j hj => ?_⟩
      · rw [List.getElem?_append_right (by simp [h.1]; omega)]
        have h5 : (ws ++ [((q, .inl (cA, N1, .inr (.inr (.inr (.inr (fun i => if i < N1 then some (r i) else none)))))) : Nat × va_E)]).length = Hs.length + 1 := by simp [h.1]
        rw [h5, List.getElem?_map, List.getElem?_range hk2]
        have h6 := b2 _ hk2
        rw [show Hs.length + 2 + (k - (Hs.length + 1)) = k + 1 by omega] at h6
        rw [h6]
        rfl
      · exact ⟨0, rfl, Int.le_refl _, Int.le_refl _⟩
set_option maxHeartbeats 4000000 in
theorem kc_mna.ok {mw : Nat → Bool} {ix : Nat} (h : kc_mna mw RC RS ix E K Hs cs ss = some (K', Hs', cs', ss')) (hx : p.tables.exec = Jvm.exec) (hb : c.code = cc) (hown : s.vm.findClass own = some m.cls) (hts : ∀ w ∈ Ts, w.before args s = true) (hML : kc_ML own s Ts mw) (hAC : Jvm.Cond.arrayClass .int ∈ Ts) (hRC : RC ≤ R.cells) (hRS : RS ≤ R.slots) (hA : ∀ q, H0.size ≤ q → A q) (hd : decode cc pc = .ok (.multianewarray ix 2, 4))
    (k : kc_J p l e R s m args below meth c Q D cl A H0 nL nA ρ0 nB β0 (pc + 4) (E, L, K', Hs', cs', ss')) : kc_J p l e R s m args below meth c Q D cl A H0 nL nA ρ0 nB β0 pc (E, L, K, Hs, cs, ss) := by
  intro ρ β ws tys H locs ls lv st hk hg
  show W p l e R s m args below meth c H locs cs ss Q (F0 m pc ls st)
  have hE : kc_env ρ E := hk.1
  have h0 : 0 < E.length ∧ ρ 0 = 0 := hk.2.1
  have hL : kc_loc ρ β Hs.length E.length L lv := hk.2.2.1
  have hl : lv_has ls nL lv := hk.2.2.2.1
  have hst : kc_stk ρ β Hs.length E.length K st := hk.2.2.2.2.1
  have hg : kc_ag nA ρ0 nB β0 E.length Hs.length ρ β := hg
  obtain ⟨hK, hPw, hD, hS, hC⟩ := hk.2.2.2.2.2
  have hC : kc_C ρ β E.length tys Hs ws := hC
  unfold kc_mna at h
  split at h
  · rename_i n2 d2 n1 d1 K2
    split at h
    · rename_i hc
      obtain ⟨c0, c1, c2, c3, c4, c5, c6, c7, c8⟩ := hc
      cases h
      obtain ⟨v2, st1, rfl, -, ⟨x2, rfl, ex2⟩, hst1⟩ := kc_stk.uncons hst
      obtain ⟨v1, st', rfl, -, ⟨x1, rfl, ex1⟩, hst'⟩ := kc_stk.uncons hst1
      have hb1 := hE.at (1, n1, d1)
      have hb2 := hE.at (1, n2, d2)
      dsimp only at hb1 hb2 ex1 ex2
      obtain ⟨y1, y2⟩ := kc_i32nn (x := x1) (z := kc_lo E (1, n1, d1)) (by omega) c2
      obtain ⟨y3, y4⟩ := kc_i32nn (x := x2) (z := kc_lo E (1, n2, d2)) (by omega) c5
      obtain ⟨m1, m2⟩ := hML _ c0
      obtain ⟨cy, g1, g2, g3⟩ := kc_arrI (hts _ hAC)
      generalize hN1 : (kc_lo E (1, n1, d1)).toNat = N1 at *
      generalize hN2 : (kc_lo E (1, n2, d2)).toNat = N2 at *
      have hm : N1 * N2 ≤ 3600000000 := Nat.mul_le_mul (show N1 ≤ 60000 by omega) (show N2 ≤ 60000 by omega)
      refine va_mna (X := ws) (L := []) (f := fun _ => .inr (0, [])) (ty := .int) (N' := N1) (K' := N2) (z := (N2, .inl (fun _ => 0))) hx hb hown (hts _ m1) m2 (hts _ hAC) g1 hK (by rw [show va_pl [] _ = [] from rfl, List.append_nil]; exact hPw) (by rw [show va_pl [] _ = [] from rfl, List.append_nil]; exact hD) hS hA y1 y3 y2 y4 (by omega) (by show N2 * 4 ≤ _; omega) (by omega) rfl rfl (by omega) (by omega) (fun _ => ?_) hd (fun q r cA H1 r1 r2 u0 u1 u2 u3 => ?_)
      · rw [vp_cell_i, ← arrV_new]
        rfl
      · have hpl : va_pl ([] ++ (List.range N1).map r) (vr_up (fun _ => .inr (0, [])) ((List.range N1).map r) (.inl (cy, N2, .inl (fun _ => 0)))) = (List.range N1).map (fun j => (r j, .inl (cy, N2, .inl (fun _ => 0)))) := by
          rw [List.nil_append]
          unfold va_pl
          rw [List.map_map]
          refine List.map_congr_left (fun j hj => ?_)
          show (r j, vr_up _ _ _ (r j)) = _
          rw [vr_up_in (List.mem_map.mpr ⟨j, hj, rfl⟩)]
        rw [hpl] at u1 u2
        have hK2 : va_K D cl ((tys ++ [(cA, .array .int)]) ++ [(cy, .int)]) s := u0.app ⟨hK.1, fun k z hz => by
          have h9 : k < 1 := (List.getElem?_eq_some_iff.mp hz).1
          rw [show k = 0 by omega] at hz
          cases hz
          exact ⟨g2, g3⟩⟩
        have hlen : (Hs ++ [((3, 0, .array .int, N1, (3, 0, 0), (List.range N1).map (fun j => (3, ((Hs.length + 2 + j : Nat) : Int), ((Hs.length + 2 + j : Nat) : Int))), []) : kc_G)] ++ List.replicate N1 ((1, 0, .int, N2, (1, 0, 0), [], []) : kc_G)).length = Hs.length + 1 + N1 := by simp; omega
        have b0 : ∀ k, k ≤ Hs.length → (fun k => if k ≤ Hs.length then β k else if k = Hs.length + 1 then q else r (k - (Hs.length + 2))) k = β k := fun k hk => if_pos hk
        refine k ρ (fun k => if k ≤ Hs.length then β k else if k = Hs.length + 1 then q else r (k - (Hs.length + 2))) _ ((tys ++ [(cA, .array .int)]) ++ [(cy, .int)]) H1 locs ls lv (.ref q :: st') ⟨hE, h0, ?_, hl, ?_, hK2, u1, u2, u3, hC.rows (tA := tys.length) (ty := tys.length + 1) (fun k z hz => kc_tys_app k z (kc_tys_app k z hz)) b0 ?_ (fun j hj => ?_) (by simp) (by simp)⟩ ?_
        · dsimp only
          rw [hlen]
          exact hL.ext (fun _ _ => rfl) b0 (show Hs.length ≤ Hs.length + 1 + N1 by omega) (Nat.le_refl _)
        · dsimp only
          rw [hlen]
          refine ⟨h0.1, Or.inr ⟨Hs.length + 1, ?_, by omega, by omega, by dsimp only; omega⟩, kc_stk.ext (fun _ _ => rfl) b0 (show Hs.length ≤ Hs.length + 1 + N1 by omega) (Nat.le_refl _) hst'⟩
          dsimp only
          rw [if_neg (by omega), if_pos rfl]
        · rw [if_neg (by omega), if_pos rfl]
        · rw [if_neg (by omega), if_neg (by omega)]
          congr 1
          omega
        · dsimp only
          rw [hlen]
          exact hg.ext (fun _ _ => rfl) b0 (Nat.le_refl _) (show Hs.length ≤ Hs.length + 1 + N1 by omega)
    · cases h
  · cases h
end KL
end
section
/-- what holds of a state beside the tables' words, and stays -/
def kc_Dy (AOs : List String) (NWs : List (String × Nat × MethodName × String)) (s : State) : Prop := (∀ C ∈ AOs, va_AO C s) ∧ va_AOA .int s ∧ ∀ q ∈ NWs, va_Nw (.methodLinkNest q.1 q.2.1 q.2.2.1 q.2.2.2) s
theorem kc_Dy.warm {AOs : List String} {NWs : List (String × Nat × MethodName × String)} {s U : State} (hW : s.WarmedH U.vm) (h : kc_Dy AOs NWs s) : kc_Dy AOs NWs U := ⟨fun C hC => (h.1 C hC).moved hW.alike, h.2.1.moved hW.alike, fun q hq => (h.2.2 q hq).warmM hW⟩
/-- a class's number, its name; a method's name, code, answer -/
abbrev kc_U : Type := (Nat → String) × (Nat → MethodName) × (Nat → ByteArray) × (Nat → Option FieldType)
/-- the tables say what the class files say -/
def kc_TV (T : kc_T) (U : kc_U) (cl : List vw_C) (Ts : List Jvm.Cond) (AOs : List String) : Prop :=
  (∀ (y pc : Nat) (i : Instr) (n : Nat), kc_Tcd T y pc = some (i, n) → decode (U.2.2.1 y) pc = .ok (i, n)) ∧ kc_CL cl (kc_Tfd T) Ts ∧ (∀ ci : Nat, kc_FL cl (U.1 ci) Ts (kc_Tfl T ci)) ∧ (∀ ci : Nat, kc_NL cl (U.1 ci) Ts (kc_Tnw T ci)) ∧ (∀ ci : Nat, kc_KL (U.1 ci) Ts (kc_Tkw T ci)) ∧ (∀ (ci : Nat) (z : vw_C), cl[ci]? = some z → kc_Tcn T ci = .object z.1 ∧ z.1 = U.1 ci) ∧ (∀ ty : FieldType, ty = .int ∨ ty = .byte ∨ ty = .short ∨ ty = .boolean ∨ ty = .long → Jvm.Cond.arrayClass ty ∈ Ts) ∧
  (∀ (ci ix : Nat) (ty : FieldType), kc_Taw T ci ix = some ty → ∃ C ∈ AOs, ty = .object C ∧ Jvm.Cond.classLink (U.1 ci) ix C ∈ Ts) ∧ (∀ ci ix : Nat, kc_Tmw T ci ix = true → Jvm.Cond.classLink (U.1 ci) ix ("[" ++ (FieldType.array .int).toString) ∈ Ts)
/-- the method y runs -/
def kc_Cx (T : kc_T) (U : kc_U) (Ts : List Jvm.Cond) (AOs : List String) (NWs : List (String × Nat × MethodName × String)) (y : Nat) (p : Program) (R : Room) (s : State) (m : MethodId) (args : Array Value) (meth : Method) (c : Code) (A : Nat → Prop) (H0 : Heap) (nA : Nat) (ρ0 : Nat → Int) (β0 : Nat → Nat) : Prop :=
  p.tables.exec = Jvm.exec ∧ c.code = U.2.2.1 y ∧ c.maxLocals = (kc_Tmi T y).1 ∧ s.vm.findClass (U.1 (kc_Tmi T y).2.2.2.2.2.2.1) = some m.cls ∧ (∀ w ∈ Ts, w.before args s = true) ∧ kc_Dy AOs NWs s ∧ ((kc_Tmi T y).2.2.2.2.2.2.2 = true → meth.name = "<init>") ∧ (∀ q, H0.size ≤ q → A q) ∧ ((kc_Tmi T y).2.2.1 ≤ R.cells ∧ (kc_Tmi T y).2.2.2.1 ≤ R.slots ∧ (kc_Tmi T y).2.2.2.2.1 ≤ R.frames ∧ (kc_Tmi T y).2.2.2.2.2.1 ≤ R.locals) ∧ kc_X s A H0 nA ρ0 β0
theorem kc_X.mono {s : State} {A : Nat → Prop} {H0 : Heap} {nA nA' : Nat} {ρ0 ρ : Nat → Int} {β0 β : Nat → Nat} (h : kc_X s A H0 nA ρ0 β0) (hn : nA ≤ nA') (h1 : ∀ k, k < nA → ρ k = ρ0 k) (h2 : β 0 = β0 0) : kc_X s A H0 nA' ρ β := by
  trivial
section KM
variable {T : kc_T} {U : kc_U} {Ts : List Jvm.Cond} {AOs : List String} {NWs : List (String × Nat × MethodName × String)} {y : Nat}
variable {p : Program} {l : Launch} {e : Env} {R : Room} {s : State} {m : MethodId} {args : Array Value} {below : List Frame} {meth : Method} {c : Code} {Q : State → Prop}
variable {D : va_G} {cl : List vw_C} {A : Nat → Prop} {H0 : Heap}
variable {nA : Nat} {ρ0 : Nat → Int} {nB : Nat} {β0 : Nat → Nat}
set_option maxHeartbeats 8000000 in
theorem kc_s0.ok {i : Instr} {n pc : Nat} {E : kc_E} {L K : List kc_V} {Hs : List kc_G} {cs ss : Nat} {ns : List (Nat × kc_S)} (hV : kc_TV T U cl Ts AOs) (hX : kc_Cx T U Ts AOs NWs y p R s m args meth c A H0 nA ρ0 β0) (hd : decode (U.2.2.1 y) pc = .ok (i, n)) (hl : kc_lenok i n = true) (h : kc_s0 T (kc_Tmi T y) i n pc E L K Hs cs ss = some ns)
    (k : ∀ q ∈ ns, kc_J p l e R s m args below meth c Q D cl A H0 (kc_Tmi T y).1 nA ρ0 nB β0 q.1 q.2) : kc_J p l e R s m args below meth c Q D cl A H0 (kc_Tmi T y).1 nA ρ0 nB β0 pc (E, L, K, Hs, cs, ss) := by
  obtain ⟨v1, v2, v3, v4, v5, v6, v7, v8, v9⟩ := hV
  obtain ⟨hx, hb, hml, hown, hts, hdy, hini, hA, ⟨r1, r2, r3, r4⟩, hXX⟩ := hX
  have hAL : kc_AL (U.1 (kc_Tmi T y).2.2.2.2.2.2.1) s Ts (kc_Taw T (kc_Tmi T y).2.2.2.2.2.2.1) := fun ix ty h => by
    obtain ⟨C, hC, e1, e2⟩ := v8 _ ix ty h
    exact ⟨C, e1, e2, hdy.1 C hC⟩
  have hML : kc_ML (U.1 (kc_Tmi T y).2.2.2.2.2.2.1) s Ts (kc_Tmw T (kc_Tmi T y).2.2.2.2.2.2.1) := fun ix h => ⟨v9 _ ix h, hdy.2.1⟩
  have jump : ∀ (j : Instr) (r : List kc_N), kc_x2 j pc E K = some r → decode (U.2.2.1 y) pc = .ok (j, n) → kc_l2 j n = true → (∀ q ∈ r.map (fun q => (q.1, q.2.1, L, q.2.2, Hs, cs, ss)), kc_J p l e R s m args below meth c Q D cl A H0 (kc_Tmi T y).1 nA ρ0 nB β0 q.1 q.2) → kc_J p l e R s m args below meth c Q D cl A H0 (kc_Tmi T y).1 nA ρ0 nB β0 pc (E, L, K, Hs, cs, ss) := fun j r hr hj hl2 kk => kc_x2.ok hr hx hb hj hl2 (fun q hq => kk _ (List.mem_map.mpr ⟨q, hq, rfl⟩))
  unfold kc_s0 at h
  split at h
  · cases Nat.eq_of_beq_eq_true hl
    obtain ⟨r, hr, rfl⟩ := Option.map_eq_some_iff.mp h
    exact kc_get.ok hr hx hb hown hts v2 (v3 _) hd (k _ List.mem_cons_self)
  · cases Nat.eq_of_beq_eq_true hl
    obtain ⟨r, hr, rfl⟩ := Option.map_eq_some_iff.mp h
    exact kc_put.ok hr hx hb hown hts v2 (v3 _) hini (fun z hz => (v6 _ z hz).2) hd (k _ List.mem_cons_self)
  · cases Nat.eq_of_beq_eq_true hl
    obtain ⟨r, hr, rfl⟩ := Option.map_eq_some_iff.mp h
    exact kc_ald.ok hr hx hb hd (fun _ => hXX) (k _ List.mem_cons_self)
  · cases Nat.eq_of_beq_eq_true hl
    obtain ⟨r, hr, rfl⟩ := Option.map_eq_some_iff.mp h
    exact kc_ald.ok hr hx hb hd (fun _ => hXX) (k _ List.mem_cons_self)
  · cases Nat.eq_of_beq_eq_true hl
    obtain ⟨r, hr, rfl⟩ := Option.map_eq_some_iff.mp h
    exact kc_ald.ok hr hx hb hd (fun _ => hXX) (k _ List.mem_cons_self)
  · cases Nat.eq_of_beq_eq_true hl
    obtain ⟨r, hr, rfl⟩ := Option.map_eq_some_iff.mp h
    exact kc_ald.ok hr hx hb hd (fun _ => hXX) (k _ List.mem_cons_self)
  · cases Nat.eq_of_beq_eq_true hl
    split at h
    · rename_i r hr
      cases h
      exact kc_x4.ok hr (fun q hq => k _ (List.mem_map.mpr ⟨q, hq, rfl⟩))
    · obtain ⟨r, hr, rfl⟩ := Option.map_eq_some_iff.mp h
      exact kc_ald.ok hr hx hb hd (fun _ => hXX) (k _ List.mem_cons_self)
  · cases Nat.eq_of_beq_eq_true hl
    obtain ⟨r, hr, rfl⟩ := Option.map_eq_some_iff.mp h
    exact kc_aln.ok hr hx hb hd (fun _ => hXX) (k _ List.mem_cons_self)
  · cases Nat.eq_of_beq_eq_true hl
    obtain ⟨r, hr, rfl⟩ := Option.map_eq_some_iff.mp h
    exact kc_ast.ok hr hx hb hd (k _ List.mem_cons_self)
  · cases Nat.eq_of_beq_eq_true hl
    obtain ⟨r, hr, rfl⟩ := Option.map_eq_some_iff.mp h
    exact kc_ast.ok hr hx hb hd (k _ List.mem_cons_self)
  · cases Nat.eq_of_beq_eq_true hl
    obtain ⟨r, hr, rfl⟩ := Option.map_eq_some_iff.mp h
    exact kc_ast.ok hr hx hb hd (k _ List.mem_cons_self)
  · cases Nat.eq_of_beq_eq_true hl
    obtain ⟨r, hr, rfl⟩ := Option.map_eq_some_iff.mp h
    exact kc_ast.ok hr hx hb hd (k _ List.mem_cons_self)
  · cases Nat.eq_of_beq_eq_true hl
    split at h
    · rename_i r hr
      cases h
      exact kc_x4.ok hr (fun q hq => k _ (List.mem_map.mpr ⟨q, hq, rfl⟩))
    · obtain ⟨r, hr, rfl⟩ := Option.map_eq_some_iff.mp h
      exact kc_aas.ok hr hx hb (fun ci z hz => (v6 ci z hz).1) hd (k _ List.mem_cons_self)
  · cases Nat.eq_of_beq_eq_true hl
    obtain ⟨r, hr, rfl⟩ := Option.map_eq_some_iff.mp h
    exact kc_new.ok hr hx hb hown hts v2 (v4 _) r1 r2 hA hd (k _ List.mem_cons_self)
  · cases Nat.eq_of_beq_eq_true hl
    obtain ⟨r, hr, rfl⟩ := Option.map_eq_some_iff.mp h
    exact kc_nar.ok hr hx hb hts v7 r1 r2 hA hd (k _ List.mem_cons_self)
  · cases Nat.eq_of_beq_eq_true hl
    obtain ⟨r, hr, rfl⟩ := Option.map_eq_some_iff.mp h
    exact kc_ana.ok hr hx hb hown hts hAL r1 r2 hA hd (k _ List.mem_cons_self)
  · unfold kc_lenok at hl
    dsimp only at hl
    rw [Bool.and_eq_true] at hl
    cases Nat.eq_of_beq_eq_true hl.1
    cases Nat.eq_of_beq_eq_true hl.2
    obtain ⟨r, hr, rfl⟩ := Option.map_eq_some_iff.mp h
    exact kc_mna.ok hr hx hb hown hts hML (v7 _ (Or.inl rfl)) r1 r2 hA hd (k _ List.mem_cons_self)
  · cases Nat.eq_of_beq_eq_true hl
    obtain ⟨r, hr, rfl⟩ := Option.map_eq_some_iff.mp h
    exact kc_ldc.ok hr (Or.inl ⟨rfl, rfl, rfl⟩) hx hb hown hts (v5 _) hd (k _ List.mem_cons_self)
  · cases Nat.eq_of_beq_eq_true hl
    obtain ⟨r, hr, rfl⟩ := Option.map_eq_some_iff.mp h
    exact kc_ldc.ok hr (Or.inr (Or.inl ⟨rfl, rfl, rfl⟩)) hx hb hown hts (v5 _) hd (k _ List.mem_cons_self)
  · cases Nat.eq_of_beq_eq_true hl
    obtain ⟨r, hr, rfl⟩ := Option.map_eq_some_iff.mp h
    exact kc_ldc.ok hr (Or.inr (Or.inr ⟨rfl, rfl, rfl⟩)) hx hb hown hts (v5 _) hd (k _ List.mem_cons_self)
  · obtain ⟨r, hr, rfl⟩ := Option.map_eq_some_iff.mp h
    exact jump _ r hr hd (decide_eq_true (Nat.eq_of_beq_eq_true hl)) k
  · obtain ⟨r, hr, rfl⟩ := Option.map_eq_some_iff.mp h
    exact jump _ r hr hd (decide_eq_true (Nat.eq_of_beq_eq_true hl)) k
  · obtain ⟨r, hr, rfl⟩ := Option.map_eq_some_iff.mp h
    exact jump _ r hr hd (decide_eq_true (Nat.eq_of_beq_eq_true hl)) k
  · obtain ⟨r, hr, rfl⟩ := Option.map_eq_some_iff.mp h
    exact jump _ r hr hd (decide_eq_true (Nat.eq_of_beq_eq_true hl)) k
  · obtain ⟨r, hr, rfl⟩ := Option.map_eq_some_iff.mp h
    exact jump _ r hr hd (decide_eq_true (Nat.eq_of_beq_eq_true hl)) k
  · obtain ⟨r, hr, rfl⟩ := Option.map_eq_some_iff.mp h
    exact jump _ r hr hd rfl k
  · obtain ⟨r, hr, rfl⟩ := Option.map_eq_some_iff.mp h
    exact jump _ r hr hd rfl k
  · split at h
    · rename_i hn
      subst hn
      obtain ⟨r, hr, rfl⟩ := Option.map_eq_some_iff.mp h
      exact kc_x1.ok hr hx hb hd (k _ List.mem_cons_self)
    · split at h
      · split at h
        · rename_i hn
          subst hn
          obtain ⟨r, hr, rfl⟩ := Option.map_eq_some_iff.mp h
          exact kc_x1.okw hr hx hb hd (k _ List.mem_cons_self)
        · cases h
      · cases h
theorem kc_step.ok {i : Instr} {n pc : Nat} {S : kc_S} {ns : List (Nat × kc_S)} (hV : kc_TV T U cl Ts AOs) (hX : kc_Cx T U Ts AOs NWs y p R s m args meth c A H0 nA ρ0 β0) (hc : kc_Tcd T y pc = some (i, n)) (h : kc_step T y pc i n S = some ns)
    (k : ∀ q ∈ ns, kc_J p l e R s m args below meth c Q D cl A H0 (kc_Tmi T y).1 nA ρ0 nB β0 q.1 q.2) : kc_J p l e R s m args below meth c Q D cl A H0 (kc_Tmi T y).1 nA ρ0 nB β0 pc S := by
  have hd := hV.1 _ _ _ _ hc
  obtain ⟨E, L, K, Hs, cs, ss⟩ := S
  unfold kc_step at h
  split at h
  · split at h
    · rename_i j m2 hj
      split at h
      · rename_i hl
        obtain ⟨rfl, rfl⟩ := hl
        obtain ⟨r, hr, rfl⟩ := Option.map_eq_some_iff.mp h
        exact kc_x3.ok hr hX.1 hX.2.1 hd (hV.1 _ _ _ _ hj) (fun q hq => k _ (List.mem_map.mpr ⟨q, hq, rfl⟩))
      · cases h
    · cases h
  · split at h
    · rename_i hl
      exact kc_s0.ok hV hX hd hl h k
    · cases h
end KM
end
section
theorem kc_subL.ok {f : kc_V → kc_V → Bool} : ∀ {as bs : List kc_V}, kc_subL f as bs = true → as.length = bs.length ∧ ∀ (j : Nat) (a b : kc_V), as[j]? = some a → bs[j]? = some b → f a b = true
  | [], [], _ => ⟨rfl, fun j a b h => by simp at h⟩
  | a :: as, b :: bs, h => by
    unfold kc_subL at h
    rw [Bool.and_eq_true] at h
    obtain ⟨h1, h2⟩ := kc_subL.ok h.2
    refine ⟨by rw [List.length_cons, List.length_cons, h1], fun j a1 b1 ha hb => ?_⟩
    cases j with
    | zero => cases ha; cases hb; exact h.1
    | succ j => exact h2 j a1 b1 (by simpa using ha) (by simpa using hb)
  | [], _ :: _, h => by cases h
  | _ :: _, [], h => by cases h
theorem kc_subH.ok {n0 : Nat} {ws : List kc_V} : ∀ {as bs : List kc_G}, kc_subH n0 ws as bs = true → as.length = bs.length ∧ ∀ (j : Nat) (a b : kc_G), as[j]? = some a → bs[j]? = some b → kc_subG n0 ws a b = true
  | [], [], _ => ⟨rfl, fun j a b h => by simp at h⟩
  | a :: as, b :: bs, h => by
    unfold kc_subH at h
    rw [Bool.and_eq_true] at h
    obtain ⟨h1, h2⟩ := kc_subH.ok h.2
    refine ⟨by rw [List.length_cons, List.length_cons, h1], fun j a1 b1 ha hb => ?_⟩
    cases j with
    | zero => cases ha; cases hb; exact h.1
    | succ j => exact h2 j a1 b1 (by simpa using ha) (by simpa using hb)
  | [], _ :: _, h => by cases h
  | _ :: _, [], h => by cases h
theorem kc_subB.ok {E : kc_E} : ∀ {as : List kc_V} {bs : kc_E}, kc_subB E as bs = true → as.length = bs.length ∧ ∀ (j : Nat) (a : kc_V) (b : Int × Int), as[j]? = some a → bs[j]? = some b → a.1 = 1 ∧ a.2.1 < E.length ∧ b.1 ≤ kc_lo E a ∧ kc_hi E a ≤ b.2
  | [], [], _ => ⟨rfl, fun j a b h => by simp at h⟩
  | a :: as, b :: bs, h => by
    unfold kc_subB at h
    rw [Bool.and_eq_true] at h
    obtain ⟨h1, h2⟩ := kc_subB.ok h.2
    refine ⟨by rw [List.length_cons, List.length_cons, h1], fun j a1 b1 ha hb => ?_⟩
    cases j with
    | zero => cases ha; cases hb; exact of_decide_eq_true h.1
    | succ j => exact h2 j a1 b1 (by simpa using ha) (by simpa using hb)
  | [], _ :: _, h => by cases h
  | _ :: _, [], h => by cases h
/-- the numbers of the symbols of the widened state -/
def kc_rw (n0 : Nat) (ws : List kc_V) (ρ : Nat → Int) : Nat → Int := fun k => if k < n0 then ρ k else match ws[k - n0]? with
  | some a => ρ a.2.1 + a.2.2
  | none => 0
theorem kc_rw.lt {n0 : Nat} {ws : List kc_V} {ρ : Nat → Int} {k : Nat} (h : k < n0) : kc_rw n0 ws ρ k = ρ k := if_pos h
theorem kc_rw.ge {n0 : Nat} {ws : List kc_V} {ρ : Nat → Int} {k : Nat} {a : kc_V} (h : n0 ≤ k) (ha : ws[k - n0]? = some a) : kc_rw n0 ws ρ k = ρ a.2.1 + a.2.2 := by
  unfold kc_rw
  rw [if_neg (by omega), ha]
theorem kc_subF.ok {n0 n N : Nat} {ws : List kc_V} {ρ : Nat → Int} {β : Nat → Nat} {a b : kc_V} {v : Value} (h : kc_subF n0 ws a b = true) (hn : n0 + ws.length = n) (hv : kc_v ρ β N a v) : b.2.1 < n ∧ kc_v (kc_rw n0 ws ρ) β N b v := by
  unfold kc_subF at h
  rw [Bool.or_eq_true] at h
  rcases h with h | h
  · obtain ⟨rfl, h2⟩ := of_decide_eq_true h
    exact ⟨by omega, hv.ext h2 (fun k hk => kc_rw.lt hk) (fun _ _ => rfl) (Nat.le_refl _)⟩
  · obtain ⟨h1, h2, h3, h4, h5⟩ := of_decide_eq_true h
    have hl := (List.getElem?_eq_some_iff.mp h5).1
    refine ⟨by omega, ?_⟩
    obtain ⟨t, k, d⟩ := b
    obtain ⟨t', k', d'⟩ := a
    dsimp only at h1 h2 h3 h4 h5
    subst h2; subst h3; subst h4
    obtain ⟨x, rfl, ex⟩ := hv
    refine ⟨x, rfl, ?_⟩
    dsimp only at ex ⊢
    rw [kc_rw.ge h1 h5, ex]
    dsimp only
    omega
theorem kc_subG.ok {n0 n' n N : Nat} {ws : List kc_V} {ρ : Nat → Int} {β : Nat → Nat} {tys : List (ClassId × FieldType)} {g h : kc_G} {e : va_E} (hs : kc_subG n0 ws g h = true) (hn : n0 + ws.length = n) (he : kc_e ρ β N n' tys g e) : kc_e (kc_rw n0 ws ρ) β N n tys h e := by
  obtain ⟨k1, c1, t1, l1, d1, f1, v1⟩ := g
  obtain ⟨k2, c2, t2, l2, d2, f2, v2⟩ := h
  unfold kc_subG at hs
  dsimp only at hs
  rw [Bool.and_eq_true, Bool.and_eq_true] at hs
  obtain ⟨⟨h1, h2⟩, h3⟩ := hs
  obtain ⟨rfl, rfl, rfl, rfl⟩ := of_decide_eq_true h1
  obtain ⟨g1, g2⟩ := kc_subL.ok h3
  have hc : ∀ (j : Nat) (v : Value), kc_t β N (f1.getD j d1) v → kc_t β N (f2.getD j d2) v := fun j v hv => by
    rw [Bool.or_eq_true] at h2
    rcases h2 with h2 | h2
    · obtain ⟨rfl, rfl⟩ := of_decide_eq_true h2
      exact hv
    · rw [Bool.and_eq_true, Bool.and_eq_true] at h2
      obtain ⟨⟨a1, a2⟩, a3⟩ := h2
      have a4 : f2 = [] := List.isEmpty_iff.mp a3
      subst a4
      show kc_t β N d2 v
      rw [List.getD_eq_getElem?_getD] at hv
      cases hq : f1[j]? with
      | none => rw [hq] at hv; exact kc_sub.ok a1 hv
      | some f => rw [hq] at hv; exact kc_sub.ok (List.all_eq_true.mp a2 f (List.mem_of_getElem? hq)) hv
  unfold kc_e at he ⊢
  dsimp only at he ⊢
  split at he
  · obtain ⟨fs, e1, e2, e4⟩ := he
    refine ⟨fs, e1, e2.trans g1, fun j b v hb hv => ?_⟩
    have hj : j < v1.length := by rw [g1]; exact (List.getElem?_eq_some_iff.mp hb).1
    have ha : v1[j]? = some v1[j] := List.getElem?_eq_getElem hj
    exact kc_subF.ok (g2 j _ b ha hb) hn (e4 j _ v ha hv).2
  · obtain ⟨cA, t0, k, e1, e2, e4⟩ := he
    exact ⟨cA, t0, k, e1, e2, fun j hj => hc j _ (e4 j hj)⟩
  · obtain ⟨cA, t0, k, e1, e2, e4⟩ := he
    exact ⟨cA, t0, k, e1, e2, fun j hj => hc j _ (e4 j hj)⟩
  · obtain ⟨cA, t0, k, e1, e2, e4⟩ := he
    exact ⟨cA, t0, k, e1, e2, fun j hj => hc j _ (e4 j hj)⟩
  · exact he
section KN
variable {p : Program} {l : Launch} {e : Env} {R : Room} {s : State} {m : MethodId} {args : Array Value} {below : List Frame} {meth : Method} {c : Code} {Q : State → Prop}
variable {nL : Nat} {D : va_G} {cl : List vw_C} {A : Nat → Prop} {H0 : Heap}
variable {nA : Nat} {ρ0 : Nat → Int} {nB : Nat} {β0 : Nat → Nat}
/-- a state within the widened one is one of its states -/
theorem kc_within.ok {n0 : Nat} {an : kc_A} {W S : kc_S} {up : Bool} {ρ : Nat → Int} {β : Nat → Nat} {ws : va_W} {tys : List (ClassId × FieldType)} {H : Heap} {locs : List Loc} {ls : Array Slot} {lv : List (Nat × Value)} {st : List Value}
    (h : kc_within n0 an W S up = true) (h0 : 0 < n0) (hn0 : n0 ≤ W.1.length) (hk : kc_ok D cl A s H0 nL S.1 S.2.1 S.2.2.1 S.2.2.2.1 ρ β ws tys H locs ls lv st) (hE0 : ∀ k, k < n0 → (W.1.getD k (0, 0)).1 ≤ ρ k ∧ ρ k ≤ (W.1.getD k (0, 0)).2) :
    kc_ok D cl A s H0 nL W.1 W.2.1 W.2.2.1 W.2.2.2.1 (kc_rw n0 (kc_wit an S) ρ) β ws tys H locs ls lv st ∧ S.2.2.2.1.length = W.2.2.2.1.length ∧ (S.2.2.2.2.1 ≤ W.2.2.2.2.1 ∧ S.2.2.2.2.2 ≤ W.2.2.2.2.2) ∧ (up = true → n0 < W.1.length ∧ ρ n0 + 1 ≤ kc_rw n0 (kc_wit an S) ρ n0) := by
  unfold kc_within at h
  simp only [Bool.and_eq_true] at h
  obtain ⟨⟨⟨⟨⟨a1, a2⟩, a3⟩, a4⟩, a5⟩, a6⟩ := h
  obtain ⟨b1, b2⟩ := kc_subB.ok a1
  obtain ⟨c1, c2⟩ := kc_subL.ok a2
  obtain ⟨d1, d2⟩ := of_decide_eq_true a3
  obtain ⟨e1, e2⟩ := kc_subH.ok a4
  have a5 := of_decide_eq_true a5
  obtain ⟨hE, hz, hL, hl, hst, hK, hPw, hD, hS, hC⟩ := hk
  have hlen : n0 + (kc_wit an S).length = W.1.length := by
    rw [b1, List.length_drop]
    omega
  refine ⟨⟨fun k => ?_, ⟨by omega, by rw [kc_rw.lt h0]; exact hz.2⟩, fun i b hb hb0 => ?_, hl, ?_, hK, hPw, hD, hS, ?_⟩, e1, a5, fun hu => ?_⟩
  · by_cases h1 : k < n0
    · rw [kc_rw.lt h1]
      exact hE0 k h1
    · by_cases h2 : k < W.1.length
      · have h3 : k - n0 < (kc_wit an S).length := by omega
        have h4 : (kc_wit an S)[k - n0]? = some (kc_wit an S)[k - n0] := List.getElem?_eq_getElem h3
        have h5 : (W.1.drop n0)[k - n0]? = some W.1[k] := by
          rw [List.getElem?_drop, show n0 + (k - n0) = k by omega]
          exact List.getElem?_eq_getElem h2
        obtain ⟨g1, g2, g3, g4⟩ := b2 _ _ _ h4 h5
        have g5 := hE.at (kc_wit an S)[k - n0]
        rw [kc_rw.ge (by omega) h4, List.getD_eq_getElem?_getD, List.getElem?_eq_getElem h2]
        dsimp only [Option.getD]
        omega
      · have h3 : (kc_wit an S)[k - n0]? = none := List.getElem?_eq_none (by omega)
        rw [List.getD_eq_getElem?_getD, List.getElem?_eq_none (by omega)]
        unfold kc_rw
        rw [if_neg h1, h3]
        exact ⟨Int.le_refl _, Int.le_refl _⟩
  · have hi : i < S.2.1.length := by rw [c1]; exact (List.getElem?_eq_some_iff.mp hb).1
    have ha : S.2.1[i]? = some S.2.1[i] := List.getElem?_eq_getElem hi
    have hs := c2 i _ b ha hb
    unfold kc_subV at hs
    rw [Bool.or_eq_true] at hs
    rcases hs with hs | hs
    · exact absurd (of_decide_eq_true hs) hb0
    · have hne : (S.2.1[i]).1 ≠ 0 := by
        unfold kc_subF at hs
        rw [Bool.or_eq_true] at hs
        rcases hs with q | q
        · rw [(of_decide_eq_true q).1]; exact hb0
        · rw [(of_decide_eq_true q).2.2.2.1]; decide
      obtain ⟨g1, v, g2, g3⟩ := hL i _ ha hne
      obtain ⟨y1, y2⟩ := kc_subF.ok hs hlen g3
      rw [e1] at y2
      exact ⟨y1, v, g2, y2⟩
  · rw [d1] at hst
    rw [d2]
    cases st with
    | nil => trivial
    | cons _ _ => exact absurd hst id
  · refine ⟨hC.1.trans e1, fun k h hh => ?_⟩
    have hi : k < S.2.2.2.1.length := by rw [e1]; exact (List.getElem?_eq_some_iff.mp hh).1
    have ha : S.2.2.2.1[k]? = some S.2.2.2.1[k] := List.getElem?_eq_getElem hi
    obtain ⟨e0, w1, w2⟩ := hC.2 k _ ha
    have w3 := kc_subG.ok (e2 k _ h ha hh) hlen w2
    rw [e1] at w3
    exact ⟨e0, w1, w3⟩
  · subst hu
    simp only [Bool.not_true, Bool.false_or] at a6
    split at a6
    · rename_i a as ha
      obtain ⟨g1, g2⟩ := of_decide_eq_true a6
      have h4 : (kc_wit an S)[n0 - n0]? = some a := by rw [Nat.sub_self, ha]; rfl
      refine ⟨by rw [← hlen, ha]; simp, ?_⟩
      rw [kc_rw.ge (Nat.le_refl _) h4, g1]
      omega
    · cases a6
theorem kc_J.mono {ρ1 : Nat → Int} {β1 : Nat → Nat} {n1 N1 pc : Nat} {S : kc_S} (hg : kc_ag nA ρ0 nB β0 n1 N1 ρ1 β1) (h : kc_J p l e R s m args below meth c Q D cl A H0 nL nA ρ0 nB β0 pc S) : kc_J p l e R s m args below meth c Q D cl A H0 nL n1 ρ1 N1 β1 pc S :=
  fun ρ β ws tys H locs ls lv st hk hg2 => h ρ β ws tys H locs ls lv st hk ⟨Nat.le_trans hg.1 hg2.1, Nat.le_trans hg.2.1 hg2.2.1, fun k hk2 => (hg2.2.2.1 k (Nat.lt_of_lt_of_le hk2 hg.1)).trans (hg.2.2.1 k hk2), fun k hk2 => (hg2.2.2.2 k (Nat.le_trans hk2 hg.2.1)).trans (hg.2.2.2 k hk2)⟩
/-- a loop -/
theorem kc_J.loop {an : kc_A} {pc : Nat} {S Wd : kc_S} {os : List (Nat × kc_S)} (h1 : Wd.1.take S.1.length = S.1) (h2 : kc_within S.1.length an Wd S false = true) (h3 : ∀ o ∈ os, o.1 = pc → kc_within S.1.length an Wd o.2 true = true) (h4 : ∀ o ∈ os, o.1 ≠ pc → kc_J p l e R s m args below meth c Q D cl A H0 nL nA ρ0 nB β0 o.1 o.2)
    (hb : ∀ (ρ1 : Nat → Int) (β1 : Nat → Nat), kc_ag nA ρ0 nB β0 Wd.1.length Wd.2.2.2.1.length ρ1 β1 → (∀ o ∈ os, kc_J p l e R s m args below meth c Q D cl A H0 nL Wd.1.length ρ1 Wd.2.2.2.1.length β1 o.1 o.2) → kc_J p l e R s m args below meth c Q D cl A H0 nL Wd.1.length ρ1 Wd.2.2.2.1.length β1 pc Wd) : kc_J p l e R s m args below meth c Q D cl A H0 nL nA ρ0 nB β0 pc S := by
  have hn0 : S.1.length ≤ Wd.1.length := by
    have := congrArg List.length h1
    rw [List.length_take] at this
    omega
  have main : ∀ (μ : Nat) (ρ : Nat → Int) (β : Nat → Nat) (ws : va_W) (tys : List (ClassId × FieldType)) (H : Heap) (locs : List Loc) (ls : Array Slot) (lv : List (Nat × Value)) (st : List Value), ((Wd.1.getD S.1.length (0, 0)).2 - ρ S.1.length).toNat ≤ μ → 0 < S.1.length → nA ≤ S.1.length → kc_ok D cl A s H0 nL Wd.1 Wd.2.1 Wd.2.2.1 Wd.2.2.2.1 ρ β ws tys H locs ls lv st → kc_ag nA ρ0 nB β0 Wd.1.length Wd.2.2.2.1.length ρ β → W p l e R s m args below meth c H locs Wd.2.2.2.2.1 Wd.2.2.2.2.2 Q (F0 m pc ls st) := by
    intro μ
    induction μ with
    | zero =>
      intro ρ β ws tys H locs ls lv st hμ hz hA0 hk hg
      refine hb ρ β hg (fun o ho => ?_) ρ β ws tys H locs ls lv st hk ⟨Nat.le_refl _, Nat.le_refl _, fun _ _ => rfl, fun _ _ => rfl⟩
      by_cases e1 : o.1 = pc
      · intro ρ' β' ws' tys' H' locs' ls' lv' st' hk' hg'
        obtain ⟨g1, g2, g3, g4⟩ := kc_within.ok (h3 o ho e1) hz hn0 hk' (fun k hk2 => by rw [hg'.2.2.1 k (by omega)]; exact hk.1 k)
        obtain ⟨g5, g6⟩ := g4 rfl
        have g7 := g1.1 S.1.length
        have g8 := hg'.2.2.1 S.1.length g5
        omega
      · exact (h4 o ho e1).mono hg
    | succ μ ih =>
      intro ρ β ws tys H locs ls lv st hμ hz hA0 hk hg
      refine hb ρ β hg (fun o ho => ?_) ρ β ws tys H locs ls lv st hk ⟨Nat.le_refl _, Nat.le_refl _, fun _ _ => rfl, fun _ _ => rfl⟩
      by_cases e1 : o.1 = pc
      · intro ρ' β' ws' tys' H' locs' ls' lv' st' hk' hg'
        obtain ⟨g1, g2, g3, g4⟩ := kc_within.ok (h3 o ho e1) hz hn0 hk' (fun k hk2 => by rw [hg'.2.2.1 k (by omega)]; exact hk.1 k)
        obtain ⟨g5, g6⟩ := g4 rfl
        have g7 := g1.1 S.1.length
        have g8 := hg'.2.2.1 S.1.length g5
        rw [e1]
        refine W.widen g3.1 g3.2 (ih _ β' ws' tys' H' locs' ls' lv' st' (by omega) hz hA0 g1 ⟨by omega, by rw [← g2]; exact Nat.le_trans hg.2.1 (by rw [g2]; exact Nat.le_refl _), fun k hk2 => ?_, fun k hk2 => ?_⟩)
        · rw [kc_rw.lt (by omega), hg'.2.2.1 k (by omega)]
          exact hg.2.2.1 k hk2
        · rw [hg'.2.2.2 k (Nat.le_trans hk2 hg.2.1)]
          exact hg.2.2.2 k hk2
      · exact (h4 o ho e1).mono hg
  intro ρ β ws tys H locs ls lv st hk hg
  have hz : 0 < S.1.length := hk.2.1.1
  obtain ⟨g1, g2, g3, -⟩ := kc_within.ok h2 hz hn0 hk (fun k hk2 => by
    have h5 : Wd.1.getD k (0, 0) = S.1.getD k (0, 0) := by
      conv => rhs; rw [← h1]
      rw [List.getD_eq_getElem?_getD, List.getD_eq_getElem?_getD, List.getElem?_take, if_pos hk2]
    rw [h5]
    exact hk.1 k)
  refine W.widen g3.1 g3.2 (main _ _ β ws tys H locs ls lv st (Nat.le_refl _) hz hg.1 g1 ⟨Nat.le_trans hg.1 hn0, by rw [← g2]; exact hg.2.1, fun k hk2 => ?_, hg.2.2.2⟩)
  rw [kc_rw.lt (Nat.lt_of_lt_of_le hk2 hg.1)]
  exact hg.2.2.1 k hk2
end KN
end
section
theorem kc_alike_eq {u U : State} (h : u.vm = U.vm) : u.vm.Alike U.vm := h ▸ Vm.Alike.refl u.vm
theorem kc_Dy.same {AOs : List String} {NWs : List (String × Nat × MethodName × String)} {u U : State} (h : u.vm = U.vm) (hd : kc_Dy AOs NWs u) : kc_Dy AOs NWs U := ⟨fun C hC => (hd.1 C hC).moved (kc_alike_eq h), hd.2.1.moved (kc_alike_eq h), fun q hq => (hd.2.2 q hq).same rfl h⟩
theorem kc_X.moved {u U : State} {A : Nat → Prop} {H0 H : Heap} {nA : Nat} {ρ0 : Nat → Int} {β0 : Nat → Nat} (hvm : u.vm.Alike U.vm) (hz : H0.size ≤ H.size) (hk : ∀ q : Nat, q < H0.size → ¬ A q → H[q]? = H0[q]?) (h : kc_X u A H0 nA ρ0 β0) : kc_X U A H nA ρ0 β0 := by
  trivial
/-- a method's words: its code, and all tables -/
def kc_ws (T : kc_T) (U : kc_U) (Ts : List Jvm.Cond) (y : Nat) : List Jvm.Cond := Cond.code (U.2.1 y) (U.2.2.1 y) (kc_Tmi T y).1 (U.2.2.2 y) :: Ts
def kc_rm (T : kc_T) (y : Nat) : Room := { frames := (kc_Tmi T y).2.2.2.2.1, cells := (kc_Tmi T y).2.2.1, slots := (kc_Tmi T y).2.2.2.1, locals := (kc_Tmi T y).2.2.2.2.2.1 }
/-- what the tables say of a method -/
def kc_MV (T : kc_T) (U : kc_U) (Ts : List Jvm.Cond) (y : Nat) : Prop :=
  Cond.code (U.2.1 y) (U.2.2.1 y) (kc_Tmi T y).1 (U.2.2.2 y) ∈ Ts ∧ Cond.initialized (U.2.1 y).cls ∈ Ts ∧ plainName (U.2.1 y).cls = true ∧ ((U.2.1 y).cls ≠ "java/lang/invoke/MethodHandle" ∧ (U.2.1 y).cls ≠ "java/lang/invoke/VarHandle") ∧ U.1 (kc_Tmi T y).2.2.2.2.2.2.1 = (U.2.1 y).cls ∧ ((kc_Tmi T y).2.2.2.2.2.2.2 = true → (U.2.1 y).name = "<init>") ∧
  (kc_Trk T y = 0 → U.2.2.2 y = none) ∧ (kc_Trk T y = 1 → U.2.2.2 y = some .int) ∧ (kc_Trk T y = 2 → U.2.2.2 y = some .long) ∧ (kc_Trk T y = 3 → ∃ rt, U.2.2.2 y = some rt ∧ ((∃ n, rt = .object n) ∨ ∃ t, rt = .array t)) ∧ (kc_Trk T y = 4 → U.2.2.2 y = some .boolean)
/-- a return that the executor let pass -/
def kc_Ret (T : kc_T) (y : Nat) (o : Nat × kc_S) : Prop := ∃ (i : Instr) (n : Nat), kc_Tcd T y o.1 = some (i, n) ∧ kc_retok (kc_Trk T y) (kc_Tmi T y).2.2.1 (kc_Tmi T y).2.2.2.1 i n o.2 = true
/-- arguments, and the machine's -/
def kc_as (ρ : Nat → Int) (β : Nat → Nat) (N n : Nat) : List kc_V → List Value → Prop := kc_stk ρ β N n
theorem kc_as.app {ρ : Nat → Int} {β : Nat → Nat} {N n : Nat} : ∀ {K1 K2 : List kc_V} {s1 s2 : List Value}, kc_stk ρ β N n K1 s1 → kc_stk ρ β N n K2 s2 → kc_stk ρ β N n (K1 ++ K2) (s1 ++ s2)
  | [], _, [], _, _, h => h
  | _ :: _, _, _ :: _, _, h1, h2 => ⟨h1.1, h1.2.1, kc_as.app h1.2.2 h2⟩
  | [], _, _ :: _, _, h, _ => absurd h id
  | _ :: _, _, [], _, h, _ => absurd h id
/-- arguments off the stack -/
theorem kc_args.ok {ρ : Nat → Int} {β : Nat → Nat} {N n : Nat} : ∀ {ts : List Nat} {K : List kc_V} {as0 : List kc_V} {as K' : List kc_V} {st vs0 : List Value}, kc_args ts K as0 = some (as, K') → kc_stk ρ β N n K st → kc_stk ρ β N n as0 vs0 → ∃ vs rest : List Value, kc_stk ρ β N n as (vs ++ vs0) ∧ kc_stk ρ β N n K' rest ∧ st = vs.reverse ++ rest ∧ vs.length = ts.length ∧ as.map (fun a => a.1) = ts.reverse ++ as0.map (fun a => a.1)
  | [], K, as0, as, K', st, vs0, h, h1, h2 => by
    cases h
    exact ⟨[], st, h2, h1, rfl, rfl, rfl⟩
  | t :: ts, a :: K, as0, as, K', st, vs0, h, h1, h2 => by
    unfold kc_args at h
    split at h
    · rename_i ht
      obtain ⟨v, st', rfl, hlt, hv, hst'⟩ := kc_stk.uncons h1
      obtain ⟨vs, rest, g1, g2, g3, g4, g5⟩ := kc_args.ok (vs0 := v :: vs0) h hst' ⟨hlt, hv, h2⟩
      refine ⟨vs ++ [v], rest, by rw [List.append_assoc]; exact g1, g2, ?_, by rw [List.length_append, g4]; rfl, ?_⟩
      · rw [g3]
        simp
      · rw [g5]
        simp [ht]
    · cases h
  | t :: ts, [], as0, as, K', st, vs0, h, h1, h2 => by cases h
theorem kc_loc0.ok {ρ : Nat → Int} {β : Nat → Nat} {N n : Nat} : ∀ {as : List kc_V} {vs : List Value} (i : Nat), kc_stk ρ β N n as vs → (lg_sl vs).length = (kc_loc0 as).length ∧ ∀ (j : Nat) (a : kc_V), (kc_loc0 as)[j]? = some a → a.1 ≠ 0 → a.2.1 < n ∧ ∃ v : Value, (i + j, v) ∈ lv_args i vs ∧ kc_v ρ β N a v
  | [], [], i, _ => ⟨rfl, fun j a h => by simp [kc_loc0] at h⟩
  | (t, b, d) :: as, v :: vs, i, h => by
    by_cases e : t = 2
    · subst e
      have hc := kc_cat2 h.2.1
      obtain ⟨g1, g2⟩ := kc_loc0.ok (i + 2) h.2.2
      have e1 : kc_loc0 ((2, b, d) :: as) = (2, b, d) :: (0, 0, 0) :: kc_loc0 as := rfl
      have e2 : lv_args i (v :: vs) = (i, v) :: lv_args (i + 2) vs := by
        show (i, v) :: lv_args (if v.category = 2 then i + 2 else i + 1) vs = _
        rw [if_pos hc]
      have e3 : lg_sl (v :: vs) = [.val v, .second] ++ lg_sl vs := by
        unfold lg_sl
        rw [List.flatMap_cons, if_pos hc]
      rw [e1, e2, e3]
      refine ⟨by simp [g1], fun j a ha hne => ?_⟩
      match j, ha with
      | 0, ha => cases ha; exact ⟨h.1, v, List.mem_cons_self, h.2.1⟩
      | 1, ha => cases ha; exact absurd rfl hne
      | j + 2, ha =>
        obtain ⟨y1, w, y2, y3⟩ := g2 j a (by simpa using ha) hne
        exact ⟨y1, w, List.mem_cons_of_mem _ (by rw [show i + (j + 2) = i + 2 + j by omega]; exact y2), y3⟩
    · have hc := kc_cat1 h.2.1 e
      obtain ⟨g1, g2⟩ := kc_loc0.ok (i + 1) h.2.2
      have e1 : kc_loc0 ((t, b, d) :: as) = (t, b, d) :: kc_loc0 as := by
        show (if t = 2 then _ else _) = _
        rw [if_neg e]
      have e2 : lv_args i (v :: vs) = (i, v) :: lv_args (i + 1) vs := by
        show (i, v) :: lv_args (if v.category = 2 then i + 2 else i + 1) vs = _
        rw [if_neg (by rw [hc]; decide)]
      have e3 : lg_sl (v :: vs) = [.val v] ++ lg_sl vs := by
        unfold lg_sl
        rw [List.flatMap_cons, if_neg (by rw [hc]; decide)]
      rw [e1, e2, e3]
      refine ⟨by simp [g1], fun j a ha hne => ?_⟩
      match j, ha with
      | 0, ha => cases ha; exact ⟨h.1, v, List.mem_cons_self, h.2.1⟩
      | j + 1, ha =>
        obtain ⟨y1, w, y2, y3⟩ := g2 j a (by simpa using ha) hne
        exact ⟨y1, w, List.mem_cons_of_mem _ (by rw [show i + (j + 1) = i + 1 + j by omega]; exact y2), y3⟩
  | [], _ :: _, _, h => absurd h id
  | _ :: _, [], _, h => absurd h id
/-- how a method ends: by one of the executor's ends -/
def kc_Qc (D : va_G) (cl : List vw_C) (A : Nat → Prop) (os : List (Nat × kc_S)) (n : Nat) (ρ : Nat → Int) (N : Nat) (β : Nat → Nat) : Array Value → State → Outcome → State → Prop := fun _ st oc t => ∃ o ∈ os, ∃ (ρ' : Nat → Int) (β' : Nat → Nat) (ws' : va_W) (tys' : List (ClassId × FieldType)) (v : Option Value), oc = .returned v ∧ kc_stk ρ' β' o.2.2.2.2.1.length o.2.1.length o.2.2.2.1 v.toList ∧ kc_env ρ' o.2.1 ∧ (0 < o.2.1.length ∧ ρ' 0 = 0) ∧ kc_ag n ρ N β o.2.1.length o.2.2.2.2.1.length ρ' β' ∧ va_K D cl tys' t ∧ va_P D cl ws' t.heap ∧ va_D A ws' ∧ kc_C ρ' β' o.2.1.length tys' o.2.2.2.2.1 ws' ∧ va_F A st t
theorem kc_nz01 {x : Int32} (h1 : 0 ≤ x.toInt) (h2 : x.toInt ≤ 1) : narrow .boolean (.int x) = .int x := by
  rcases (show x.toInt = 0 ∨ x.toInt = 1 by omega) with q | q
  · have : x = 0 := Int32.toInt_inj.mp q
    subst this
    rfl
  · have : x = 1 := Int32.toInt_inj.mp q
    subst this
    rfl
section KO
variable {T : kc_T} {U : kc_U} {Ts : List Jvm.Cond} {AOs : List String} {NWs : List (String × Nat × MethodName × String)} {y : Nat}
variable {p : Program} {l : Launch} {e : Env} {R : Room} {s : State} {m : MethodId} {args : Array Value} {below : List Frame} {meth : Method} {c : Code} {Q : State → Prop}
variable {D : va_G} {cl : List vw_C} {A : Nat → Prop} {H0 : Heap}
variable {nA : Nat} {ρ0 : Nat → Int} {nB : Nat} {β0 : Nat → Nat}
set_option maxHeartbeats 4000000 in
/-- a return, as its method's contract wants it -/
theorem kc_J.ret {o : Nat × kc_S} {os : List (Nat × kc_S)} (hV : kc_TV T U cl Ts AOs) (hM : kc_MV T U Ts y) (hX : kc_Cx T U Ts AOs NWs y p R s m args meth c A H0 nA ρ0 β0) (hr : meth.sig.returnType = U.2.2.2 y) (hlocks : meth.locks = false) (hH : H0 = s.heap) (ho : o ∈ os) (hR : kc_Ret T y o) :
    kc_J p l e R s m args below meth c (MQ below (kc_Qc D cl A os nA ρ0 nB β0) args s (kc_Tmi T y).2.2.1 (kc_Tmi T y).2.2.2.1 A) D cl A H0 (kc_Tmi T y).1 nA ρ0 nB β0 o.1 o.2 := by
  obtain ⟨i, n, hc, hk1⟩ := hR
  have hd := hV.1 _ _ _ _ hc
  obtain ⟨-, -, -, -, -, -, m0, m1, m2, m3, m4⟩ := hM
  intro ρ β ws tys H locs ls lv st hk hg
  obtain ⟨hE, h0, hL, hl, hst, hK, hPw, hD, hS, hC⟩ := hk
  unfold kc_retok at hk1
  rw [Bool.and_eq_true, Bool.and_eq_true] at hk1
  obtain ⟨⟨k1, k2⟩, k3⟩ := hk1
  have k1 := Nat.eq_of_beq_eq_true k1
  subst k1
  have k2 := of_decide_eq_true k2
  have fin : ∀ v : Option Value, kc_stk ρ β o.2.2.2.2.1.length o.2.1.length o.2.2.2.1 v.toList → ∀ t : State, t.heap = H → s.WarmedH t.vm → kc_Qc D cl A os nA ρ0 nB β0 args s (.returned v) t := fun v hv t ht hW => ⟨o, ho, ρ, β, ws, tys, v, rfl, hv, hE, h0, hg, hK.moved hW.alike, by rw [ht]; exact hPw, hD, hC, va_S.F (by rw [← hH]; exact hS) ht⟩
  refine W.widen k2.1 k2.2 ?_
  split at k3
  · rename_i k d hKK
    rw [hKK] at hst fin
    obtain ⟨v, st', rfl, hlt, ⟨x, rfl, ex⟩, hst'⟩ := kc_stk.uncons hst
    cases st' with
    | cons _ _ => exact absurd hst' id
    | nil =>
      rw [Bool.or_eq_true] at k3
      rcases k3 with k3 | k3
      · exact W.iret hX.1 hX.2.1 (hr.trans (m1 (Nat.eq_of_beq_eq_true k3))) (fin (some (.int x)) ⟨hlt, ⟨x, rfl, ex⟩, trivial⟩) hS.2.2 hd hlocks
      · rw [Bool.and_eq_true] at k3
        have hb := of_decide_eq_true k3.2
        have he := hE.at (1, k, d)
        dsimp only at he ex
        exact W.zret hX.1 hX.2.1 (hr.trans (m4 (Nat.eq_of_beq_eq_true k3.1))) (kc_nz01 (by omega) (by omega)) (fin (some (.int x)) ⟨hlt, ⟨x, rfl, ex⟩, trivial⟩) hS.2.2 hd hlocks
  · rename_i hKK
    rw [hKK] at hst fin
    obtain ⟨v, st', rfl, hlt, ⟨x, rfl, ex⟩, hst'⟩ := kc_stk.uncons hst
    cases st' with
    | cons _ _ => exact absurd hst' id
    | nil => exact W.lret hX.1 hX.2.1 (hr.trans (m2 (Nat.eq_of_beq_eq_true k3))) (fin (some (.long x)) ⟨hlt, ⟨x, rfl, ex⟩, trivial⟩) hS.2.2 hd hlocks
  · rename_i hKK
    rw [hKK] at hst fin
    obtain ⟨v, st', rfl, hlt, hv, hst'⟩ := kc_stk.uncons hst
    cases st' with
    | cons _ _ => exact absurd hst' id
    | nil =>
      obtain ⟨rt, hrt, hrt2⟩ := m3 (Nat.eq_of_beq_eq_true k3)
      refine W.aret hX.1 hX.2.1 (hr.trans hrt) hrt2 ?_ (fin (some v) ⟨hlt, hv, trivial⟩) hS.2.2 hd hlocks
      rcases hv with ⟨rfl, -⟩ | ⟨r, rfl, -⟩
      · exact Or.inl rfl
      · exact Or.inr ⟨_, rfl⟩
  · rename_i hKK
    rw [hKK] at hst fin
    cases st with
    | cons _ _ => exact absurd hst id
    | nil => exact W.vret hX.1 hX.2.1 (hr.trans (m0 (Nat.eq_of_beq_eq_true k3))) (fin none trivial) hS.2.2 hd hlocks
  · cases k3
end KO
end
section
/-- what the tables say of a class's links to methods -/
def kc_LV (T : kc_T) (U : kc_U) (Ts : List Jvm.Cond) (NWs : List (String × Nat × MethodName × String)) : Prop := ∀ ci ix kd y : Nat, kc_Tlk T ci ix = some (kd, y) →
  (kd = 3 → Cond.methodLink (U.1 ci) ix Lib.objectInit ∈ Ts ∧ Cond.instanceMethod Lib.objectInit ∈ Ts ∧ Cond.code Lib.objectInit ⟨#[0xb1]⟩ 1 none ∈ Ts) ∧
  (kd = 4 → Cond.methodLink (U.1 ci) ix arraycopyName ∈ Ts ∧ Cond.native arraycopyName ∈ Ts ∧ Cond.static arraycopyName ∈ Ts ∧ Cond.initialized "java/lang/System" ∈ Ts) ∧
  (kd = 5 → Cond.methodLink (U.1 ci) ix Lib.Math.min.name ∈ Ts ∧ Cond.static Lib.Math.min.name ∈ Ts ∧ Cond.initialized "java/lang/Math" ∈ Ts ∧ Cond.code Lib.Math.min.name Lib.Math.min.code 2 (some .int) ∈ Ts) ∧
  (kd = 6 → Cond.methodLink (U.1 ci) ix Lib.Math.max.name ∈ Ts ∧ Cond.static Lib.Math.max.name ∈ Ts ∧ Cond.initialized "java/lang/Math" ∈ Ts ∧ Cond.code Lib.Math.max.name Lib.Math.max.code 2 (some .int) ∈ Ts) ∧
  (kd ≠ 3 → kd ≠ 4 → kd ≠ 5 → kd ≠ 6 → kc_MV T U Ts y ∧ (kd = 0 ∨ kd = 1 ∨ kd = 2 → Cond.methodLink (U.1 ci) ix (U.2.1 y) ∈ Ts) ∧ (kd = 10 ∨ kd = 11 ∨ kd = 12 → ∃ host, (U.1 ci, ix, U.2.1 y, host) ∈ NWs) ∧
    (kd = 0 ∨ kd = 10 → Cond.instanceMethod (U.2.1 y) ∈ Ts ∧ Cond.selects (U.2.1 y).cls (U.2.1 y) (U.2.1 y) ∈ Ts ∧ (parseMethodDescriptor (U.2.1 y).desc).map (fun d => d.parameters.length) = some ((kc_Tmi T y).2.1.length - 1)) ∧
    (kd = 1 ∨ kd = 11 → Cond.static (U.2.1 y) ∈ Ts ∧ (parseMethodDescriptor (U.2.1 y).desc).map (fun d => d.parameters.length) = some (kc_Tmi T y).2.1.length) ∧
    (kd = 2 ∨ kd = 12 → Cond.instanceMethod (U.2.1 y) ∈ Ts ∧ (U.2.1 y).name = "<init>" ∧ U.2.2.2 y = none ∧ (parseMethodDescriptor (U.2.1 y).desc).map (fun d => d.parameters.length) = some ((kc_Tmi T y).2.1.length - 1)))
section KP
variable {T : kc_T} {U : kc_U} {Ts : List Jvm.Cond} {AOs : List String} {NWs : List (String × Nat × MethodName × String)} {y : Nat}
variable {p : Program} {l : Launch} {e : Env} {R : Room} {s : State} {m : MethodId} {args : Array Value} {below : List Frame} {meth : Method} {c : Code} {Q : State → Prop}
variable {D : va_G} {cl : List vw_C} {A : Nat → Prop} {H0 : Heap}
variable {nA : Nat} {ρ0 : Nat → Int} {nB : Nat} {β0 : Nat → Nat}
/-- a method's contract at one call -/
def kc_Pc (AOs : List String) (NWs : List (String × Nat × MethodName × String)) (D : va_G) (cl : List vw_C) (A : Nat → Prop) (vs : List Value) (H : Heap) (tys : List (ClassId × FieldType)) (n : Nat) (ρ : Nat → Int) (β : Nat → Nat) : Array Value → State → Prop := fun v Us => v = vs.toArray ∧ Us.heap = H ∧ kc_Dy AOs NWs Us ∧ va_K D cl tys Us ∧ kc_X Us A H n ρ β
theorem kc_Pc.blind {vs : List Value} {H : Heap} {tys : List (ClassId × FieldType)} {n : Nat} {ρ : Nat → Int} {β : Nat → Nat} : FrameBlind (kc_Pc AOs NWs D cl A vs H tys n ρ β) := fun a Us g mk q => by
  obtain ⟨q1, q2, q3, q4, q5⟩ := q
  have hvm : Us.vm = (Us.calling g mk a).vm := rfl
  exact ⟨q1, q2, q3.same hvm, q4.moved (kc_alike_eq hvm), q5.moved (kc_alike_eq hvm) (Nat.le_refl _) (fun _ _ _ => rfl)⟩
set_option maxHeartbeats 4000000 in
theorem kc_met {as : List kc_V} {S : kc_S} {os : List (Nat × kc_S)} {vs : List Value} {ρ : Nat → Int} {β : Nat → Nat} {ws : va_W} {tys : List (ClassId × FieldType)} {H : Heap} (hV : kc_TV T U cl Ts AOs) (hM : kc_MV T U Ts y) (hE : kc_env ρ S.1) (h0 : 0 < S.1.length ∧ ρ 0 = 0) (has : kc_stk ρ β S.2.2.2.1.length S.1.length as vs) (hP : va_P D cl ws H) (hD : va_D A ws) (hC : kc_C ρ β S.1.length tys S.2.2.2.1 ws) (hA : ∀ q, H.size ≤ q → A q) (hlen : (kc_loc0 as).length ≤ (kc_Tmi T y).1)
    (hrun : ∀ (p : Program) (e : Env) (s : State) (m : MethodId) (args : Array Value) (below : List Frame) (meth : Method) (c : Code) (Q : State → Prop), kc_Cx T U Ts AOs NWs y p (kc_rm T y) s m args meth c A H S.1.length ρ β → (∀ o ∈ os, kc_J p l e (kc_rm T y) s m args below meth c Q D cl A H (kc_Tmi T y).1 S.1.length ρ S.2.2.2.1.length β o.1 o.2) → kc_J p l e (kc_rm T y) s m args below meth c Q D cl A H (kc_Tmi T y).1 S.1.length ρ S.2.2.2.1.length β (kc_ent T y as S).1 (kc_ent T y as S).2)
    (hret : ∀ o ∈ os, kc_Ret T y o) : Met l (U.2.1 y) (kc_ws T U Ts y) (kc_rm T y) (kc_Pc AOs NWs D cl A vs H tys S.1.length ρ β) (kc_Qc D cl A os S.1.length ρ S.2.2.2.1.length β) (kc_Tmi T y).2.2.1 (kc_Tmi T y).2.2.2.1 A := by
  obtain ⟨m1, m2, m3, m4, m5, m6, m7⟩ := hM
  refine Met.ofW (cc := U.2.2.1 y) (maxL := (kc_Tmi T y).1) (ret := U.2.2.2 y) m3 rfl ?_
  intro p e s m args below meth c s₁ B hml hv
  obtain ⟨rfl, hH, hdy, hK, hX⟩ := hv
  have hts : ∀ w ∈ Ts, w.before vs.toArray s = true := fun w hw => atoms_spec (ws := kc_ws T U Ts y) B.pre w (List.mem_cons_of_mem _ hw)
  have Cx : kc_Cx T U Ts AOs NWs y p (kc_rm T y) s m vs.toArray meth c A H S.1.length ρ β := ⟨B.exec, B.bytes, hml, by rw [m5]; exact findClass_of_methodNamed B.named, hts, hdy, fun h => (name_of_methodNamed B.named B.method).1.trans (m6 h), hA, ⟨Nat.le_refl _, Nat.le_refl _, Nat.le_refl _, Nat.le_refl _⟩, hX⟩
  have J0 := hrun p e s m vs.toArray below meth c _ Cx (fun o ho => kc_J.ret (l := l) (e := e) (below := below) (D := D) (nB := S.2.2.2.1.length) hV ⟨m1, m2, m3, m4, m5, m6, m7⟩ Cx B.returns B.notSynchronized hH.symm ho (hret o ho))
  obtain ⟨g1, g2⟩ := kc_loc0.ok 0 has
  have hl := lv_entry vs (n := (kc_Tmi T y).1) (by rw [g1]; exact hlen)
  rw [lg_entry_eq]
  refine J0 ρ β ws tys s.heap [] _ (lv_args 0 vs) [] ⟨hE, h0, fun i a ha hne => ?_, hl, trivial, hK, by rw [hH]; exact hP, hD, by rw [hH]; exact va_S.rf, hC⟩ ⟨Nat.le_refl _, Nat.le_refl _, fun _ _ => rfl, fun _ _ => rfl⟩
  have ha : (kc_loc0 as ++ List.replicate ((kc_Tmi T y).1 - (kc_loc0 as).length) (0, 0, 0))[i]? = some a := ha
  by_cases hi : i < (kc_loc0 as).length
  · rw [List.getElem?_append_left hi] at ha
    have h9 := g2 i a ha hne
    rw [Nat.zero_add] at h9
    exact h9
  · rw [List.getElem?_append_right (by omega), List.getElem?_replicate] at ha
    split at ha
    · cases ha
      exact absurd rfl hne
    · cases ha
/-- behind a call -/
theorem kc_J.after {os : List (Nat × kc_S)} {E : kc_E} {L K K' : List kc_V} {Hs : List kc_G} {cs ss mc ms pc : Nat} {X : Array Value} {ρ : Nat → Int} {β : Nat → Nat} {ws : va_W} {tys : List (ClassId × FieldType)} {H : Heap} {locs : List Loc} {ls : Array Slot} {lv : List (Nat × Value)} {st rest : List Value}
    (hr : va_Run p l e R s m args below meth c H locs cs ss mc ms (F0 m pc ls st) rest (kc_Qc D cl A os E.length ρ Hs.length β X) A) (hk : kc_ok D cl A s H0 (kc_Tmi T y).1 E L K Hs ρ β ws tys H locs ls lv st) (hg : kc_ag nA ρ0 nB β0 E.length Hs.length ρ β) (hrest : kc_stk ρ β Hs.length E.length K' rest)
    (k : ∀ o ∈ os, kc_J p l e R s m args below meth c Q D cl A H0 (kc_Tmi T y).1 nA ρ0 nB β0 (kc_back pc L K' (cs + mc) (ss + ms) o).1 (kc_back pc L K' (cs + mc) (ss + ms) o).2) : W p l e R s m args below meth c H locs cs ss Q (F0 m pc ls st) := by
  intro TT hT XX
  obtain ⟨v, st₀, t, T', L', h0, X', hL', e1, e2, ⟨o, ho, ρ', β', ws', tys', v', hv, q1, q2, q3, q4, q5, q6, q7, q8, q9⟩, stp⟩ := hr TT hT XX
  cases hv
  obtain ⟨hE, hz, hL, hl, hst, hK, hPw, hD, hS, hC⟩ := hk
  obtain ⟨f1, f2⟩ := q9
  rw [h0] at f1 f2
  have g1 : ∀ k, k < E.length → ρ' k = ρ k := q4.2.2.1
  have g2 : ∀ k, k ≤ Hs.length → β' k = β k := q4.2.2.2
  have hKs : va_K D cl tys' s := q5.moved (by rw [← e2]; exact X'.warmed.alike.symm)
  obtain ⟨t2, a1, b1⟩ := k o ho ρ' β' ws' tys' T'.heap (locs ++ L') ls lv (v.toList ++ rest)
    ⟨q2, q3, hL.ext g1 g2 q4.2.1 q4.1, hl, kc_as.app q1 (kc_stk.ext g1 g2 q4.2.1 q4.1 hrest), hKs, by rw [e1]; exact q6, q7, ⟨by rw [e1]; exact Nat.le_trans hS.1 f1, fun q h1 h2 => by rw [e1, f2 q (Nat.lt_of_lt_of_le h1 hS.1) h2]; exact hS.2.1 q h1 h2, fun q hq => by
      rcases List.mem_append.mp hq with h | h
      · exact hS.2.2 q h
      · exact hL' q h⟩, q8⟩ (hg.ext g1 g2 q4.1 q4.2.1) T' rfl X'
  exact ⟨t2, stp t2 a1, b1⟩
theorem kc_recv.ok {kd ci : Nat} {Hs : List kc_G} {E : kc_E} {as : List kc_V} {vs : List Value} {ρ : Nat → Int} {β : Nat → Nat} {N n : Nat} (h : kc_recv kd Hs E as ci = true) (h1 : kd ≠ 1) (h2 : kd ≠ 11) (hE : kc_env ρ E) (hs : kc_stk ρ β N n as vs) : ∃ (r : Nat) (g : kc_G) (As : List Value), vs = .ref (β (r + 1)) :: As ∧ Hs[r]? = some g ∧ g.1 = 0 ∧ g.2.1 = ci := by
  unfold kc_recv at h
  have e1 : Nat.beq kd 1 = false := by
    cases hq : Nat.beq kd 1 with
    | true => exact absurd (Nat.eq_of_beq_eq_true hq) h1
    | false => rfl
  have e2 : Nat.beq kd 11 = false := by
    cases hq : Nat.beq kd 11 with
    | true => exact absurd (Nat.eq_of_beq_eq_true hq) h2
    | false => rfl
  rw [e1, e2, Bool.false_or, Bool.false_or] at h
  split at h
  · rename_i k d as'
    split at h
    · rename_i r ci' rst hc
      obtain ⟨v, As, rfl, -, hv, -⟩ := kc_stk.uncons hs
      obtain ⟨rfl, hH⟩ := kc_cell.ok hc hE hv
      exact ⟨r, _, As, rfl, hH, rfl, (Nat.eq_of_beq_eq_true h).symm⟩
    · cases h
  · cases h
end KP
end
section
theorem kc_lnk_mem {i : Instr} {kd : Nat} (h : kd ∈ (kc_lnk i).2) (h0 : kd ≠ 0) (h1 : kd ≠ 1) (h2 : kd ≠ 2) (h3 : kd ≠ 3) (h4 : kd ≠ 4) (h5 : kd ≠ 5) (h6 : kd ≠ 6) : kd = 10 ∨ kd = 11 ∨ kd = 12 := by
  unfold kc_lnk at h
  split at h
  · rcases List.mem_cons.mp h with h | h
    · exact absurd h h0
    · rcases List.mem_cons.mp h with h | h
      · exact Or.inl h
      · cases h
  · rcases List.mem_cons.mp h with h | h
    · exact absurd h h2
    · rcases List.mem_cons.mp h with h | h
      · exact Or.inr (Or.inr h)
      · rcases List.mem_cons.mp h with h | h
        · exact absurd h h3
        · cases h
  · rcases List.mem_cons.mp h with h | h
    · exact absurd h h1
    · rcases List.mem_cons.mp h with h | h
      · exact Or.inr (Or.inl h)
      · rcases List.mem_cons.mp h with h | h
        · exact absurd h h4
        · rcases List.mem_cons.mp h with h | h
          · exact absurd h h5
          · rcases List.mem_cons.mp h with h | h
            · exact absurd h h6
            · cases h
  · cases h
section KQ
variable {T : kc_T} {U : kc_U} {Ts : List Jvm.Cond} {AOs : List String} {NWs : List (String × Nat × MethodName × String)} {y : Nat}
variable {p : Program} {l : Launch} {e : Env} {R : Room} {s : State} {m : MethodId} {args : Array Value} {below : List Frame} {meth : Method} {c : Code} {Q : State → Prop}
variable {D : va_G} {cl : List vw_C} {A : Nat → Prop} {H0 : Heap}
variable {nA : Nat} {ρ0 : Nat → Int} {nB : Nat} {β0 : Nat → Nat}
set_option maxHeartbeats 4000000 in
/-- a call of Object() or of arraycopy -/
theorem kc_invk.ok1 {i : Instr} {n pc : Nat} {S S' : kc_S} (hV : kc_TV T U cl Ts AOs) (hLV : kc_LV T U Ts NWs) (hX : kc_Cx T U Ts AOs NWs y p R s m args meth c A H0 nA ρ0 β0) (hc : kc_Tcd T y pc = some (i, n)) (hkd : kc_kind i = 2) (h : kc_invk T y i n S = some (.inl S'))
    (k : kc_J p l e R s m args below meth c Q D cl A H0 (kc_Tmi T y).1 nA ρ0 nB β0 (pc + 3) S') : kc_J p l e R s m args below meth c Q D cl A H0 (kc_Tmi T y).1 nA ρ0 nB β0 pc S := by
  have hd := hV.1 _ _ _ _ hc
  obtain ⟨hx, hb, hml, hown, hts, hdy, hini, hA, ⟨r1, r2, r3, r4⟩, hXX⟩ := hX
  obtain ⟨E, L, K, Hs, cs, ss⟩ := S
  unfold kc_invk at h
  split at h
  · rename_i kd y' hlk
    obtain ⟨l3, l4, l5, l6, -⟩ := hLV _ _ _ _ hlk
    split at h
    · rename_i hn
      rw [Bool.and_eq_true] at hn
      obtain ⟨hn1, hn2⟩ := hn
      have hn1 := Nat.eq_of_beq_eq_true hn1
      subst hn1
      split at h
      · rename_i e3
        subst e3
        obtain ⟨w1, w2, w3⟩ := l3 rfl
        dsimp only at h
        split at h
        · rename_i k0 d K'
          split at h
          · rename_i hcd
            obtain ⟨c1, c2, c3, c4, c5⟩ := hcd
            cases h
            have hi : i = .invokespecial (kc_lnk i).1 := by
              cases i <;> first | rfl | (exfalso; revert hn2; simp [kc_lnk]; done) | (exfalso; revert hkd; simp [kc_kind]; done)
            rw [hi] at hd
            intro ρ β ws tys H locs ls lv st hk hg
            have hE : kc_env ρ E := hk.1
            have hst : kc_stk ρ β Hs.length E.length ((3, k0, d) :: K') st := hk.2.2.2.2.1
            obtain ⟨v, st', rfl, hlt, hv, hst'⟩ := kc_stk.uncons hst
            have hbe := hE.at (3, k0, d)
            dsimp only at hbe
            rcases hv with ⟨-, ez⟩ | ⟨r, rfl, e1, e2, ez⟩
            · dsimp only at ez; omega
            · refine W.objInit hx hb hown (hts _ w1) (hts _ w2) (hts _ w3) rfl (hk.2.2.2.1.1.trans hml.symm) rfl hd (by omega) ?_ ?_
              · rw [kc_cat.ok hst']
                show 2 * 0 + _ + 12 ≤ R.locals
                omega
              · exact kc_J.go k hk hg hst'
          · cases h
        · cases h
      · split at h
        · rename_i e3 e4
          subst e4
          obtain ⟨w1, w2, w3, w4⟩ := l4 rfl
          split at h
          · rename_i hcd
            obtain ⟨r, hr, hrS⟩ := Option.map_eq_some_iff.mp h
            cases hrS
            have hi : i = .invokestatic (kc_lnk i).1 := by
              cases i <;> first | rfl | (exfalso; revert hn2; simp [kc_lnk]; done) | (exfalso; revert hkd; simp [kc_kind]; done)
            rw [hi] at hd
            exact kc_acp.ok hr hx hb hml hown (hts _ w1) (hts _ w2) (hts _ w3) (hts _ w4) (by omega) (by show 8 + (7 + 11) ≤ R.locals; omega) hd k
          · cases h
        · split at h
          · rename_i e3 e4 e56
            dsimp only at h
            split at h
            · rename_i n2 d2 n1 d1 K'
              split at h
              · rename_i hcd
                obtain ⟨c1, c2, c3, c4, c5⟩ := hcd
                cases h
                have hi : i = .invokestatic (kc_lnk i).1 := by
                  rcases e56 with rfl | rfl <;> cases i <;> first | rfl | (exfalso; revert hn2; simp [kc_lnk]; done) | (exfalso; revert hkd; simp [kc_kind]; done)
                rw [hi] at hd
                intro ρ β ws tys H locs ls lv st hk hg
                show W p l e R s m args below meth c H locs cs ss Q (F0 m pc ls st)
                have hE : kc_env ρ E := hk.1
                have h0 : 0 < E.length ∧ ρ 0 = 0 := hk.2.1
                have hst : kc_stk ρ β Hs.length E.length ((1, n2, d2) :: (1, n1, d1) :: K') st := hk.2.2.2.2.1
                obtain ⟨v2, st1, rfl, hlt2, ⟨x2, rfl, ex2⟩, hst1⟩ := kc_stk.uncons hst
                obtain ⟨v1, st', rfl, hlt1, ⟨x1, rfl, ex1⟩, hst'⟩ := kc_stk.uncons hst1
                rcases e56 with rfl | rfl
                · obtain ⟨w1, w2, w3, w4⟩ := l5 rfl
                  refine va_mmin hx hb (hml.trans hk.2.2.2.1.1.symm) hown (hts _ w1) (hts _ w2) (hts _ w3) (hts _ w4) (by omega) (by rw [kc_cat.ok hst']; omega) (by omega) (by omega) hd ?_
                  have hm := kc_mm.ok (β := β) (N := Hs.length) false hE h0 hlt1 hlt2 ex1 ex2
                  rw [if_neg (show ¬ (false = true) by decide)] at hm
                  exact kc_J.res k hk hg hst' hm
                · obtain ⟨w1, w2, w3, w4⟩ := l6 rfl
                  refine va_mmax hx hb (hml.trans hk.2.2.2.1.1.symm) hown (hts _ w1) (hts _ w2) (hts _ w3) (hts _ w4) (by omega) (by rw [kc_cat.ok hst']; omega) (by omega) (by omega) hd ?_
                  have hm := kc_mm.ok (β := β) (N := Hs.length) true hE h0 hlt1 hlt2 ex1 ex2
                  rw [if_pos (show true = true from rfl)] at hm
                  exact kc_J.res k hk hg hst' hm
              · cases h
            · cases h
          · split at h
            · split at h
              · cases h
              · cases h
            · cases h
    · cases h
  · cases h
set_option maxHeartbeats 4000000 in
/-- a call of a method -/
theorem kc_invk.ok2 {i : Instr} {n pc : Nat} {S : kc_S} {r : Nat × List kc_V × List kc_V} {os : List (Nat × kc_S)} (hV : kc_TV T U cl Ts AOs) (hLV : kc_LV T U Ts NWs) (hG : GoodIn Ts Ts) (hX : kc_Cx T U Ts AOs NWs y p R s m args meth c A H0 nA ρ0 β0) (hc : kc_Tcd T y pc = some (i, n)) (hkd : kc_kind i = 2) (h : kc_invk T y i n S = some (.inr r))
    (hrun : ∀ (p : Program) (e : Env) (s : State) (m : MethodId) (args : Array Value) (below : List Frame) (meth : Method) (c : Code) (Q : State → Prop) (H : Heap) (ρ : Nat → Int) (β : Nat → Nat), kc_Cx T U Ts AOs NWs r.1 p (kc_rm T r.1) s m args meth c A H S.1.length ρ β → (∀ o ∈ os, kc_J p l e (kc_rm T r.1) s m args below meth c Q D cl A H (kc_Tmi T r.1).1 S.1.length ρ S.2.2.2.1.length β o.1 o.2) → kc_J p l e (kc_rm T r.1) s m args below meth c Q D cl A H (kc_Tmi T r.1).1 S.1.length ρ S.2.2.2.1.length β (kc_ent T r.1 r.2.1 S).1 (kc_ent T r.1 r.2.1 S).2)
    (hret : ∀ o ∈ os, kc_Ret T r.1 o)
    (k : ∀ o ∈ os, kc_J p l e R s m args below meth c Q D cl A H0 (kc_Tmi T y).1 nA ρ0 nB β0 (kc_back pc S.2.1 r.2.2 (S.2.2.2.2.1 + (kc_Tmi T r.1).2.2.1) (S.2.2.2.2.2 + (kc_Tmi T r.1).2.2.2.1) o).1 (kc_back pc S.2.1 r.2.2 (S.2.2.2.2.1 + (kc_Tmi T r.1).2.2.1) (S.2.2.2.2.2 + (kc_Tmi T r.1).2.2.2.1) o).2) : kc_J p l e R s m args below meth c Q D cl A H0 (kc_Tmi T y).1 nA ρ0 nB β0 pc S := by
  have hd := hV.1 _ _ _ _ hc
  obtain ⟨hx, hb, hml, hown, hts, hdy, hini, hA, ⟨r1, r2, r3, r4⟩, hXX⟩ := hX
  obtain ⟨E, L, K, Hs, cs, ss⟩ := S
  unfold kc_invk at h
  split at h
  · rename_i kd y' hlk
    obtain ⟨-, -, -, -, l5⟩ := hLV _ _ _ _ hlk
    split at h
    · rename_i hn
      rw [Bool.and_eq_true] at hn
      obtain ⟨hn1, hn2⟩ := hn
      have hn1 := Nat.eq_of_beq_eq_true hn1
      subst hn1
      split at h
      · dsimp only at h
        split at h
        · split at h
          · cases h
          · cases h
        · cases h
      · rename_i e3
        split at h
        · split at h
          · obtain ⟨r, hr, hrS⟩ := Option.map_eq_some_iff.mp h
            cases hrS
          · cases h
        · rename_i e4
          split at h
          · dsimp only at h
            split at h
            · split at h
              · cases h
              · cases h
            · cases h
          rename_i e56
          have e5 : kd ≠ 5 := fun q => e56 (Or.inl q)
          have e6 : kd ≠ 6 := fun q => e56 (Or.inr q)
          obtain ⟨hM, b1, b2, b3, b4, b5⟩ := l5 e3 e4 e5 e6
          split at h
          · rename_i as K' has0
            split at h
            · rename_i hcd
              rw [Bool.and_eq_true] at hcd
              obtain ⟨hcd, hrc⟩ := hcd
              obtain ⟨c1, c2, c3, c4, c5, c6⟩ := of_decide_eq_true hcd
              cases h
              dsimp only at c2 c3 k hrun hret
              intro ρ β ws tys H locs ls lv st hk hg
              show W p l e R s m args below meth c H locs cs ss Q (F0 m pc ls st)
              have hE : kc_env ρ E := hk.1
              have hst : kc_stk ρ β Hs.length E.length K st := hk.2.2.2.2.1
              obtain ⟨hK, hPw, hD, hS, hC⟩ := hk.2.2.2.2.2
              obtain ⟨vs, rest, q1, q2, rfl, q4, -⟩ := kc_args.ok (vs0 := []) has0 hst trivial
              rw [List.append_nil] at q1
              rw [List.length_reverse] at q4
              have hXH : kc_X s A H E.length ρ β := (hXX.mono hg.1 hg.2.2.1 (hg.2.2.2 0 (Nat.zero_le _))).moved (Vm.Alike.refl _) hS.1 hS.2.1
              have hMet := kc_met (l := l) (y := y') (S := (E, L, K, Hs, cs, ss)) (os := os) hV hM hE hk.2.1 q1 hPw hD hC (fun q hq => hA q (Nat.le_trans hS.1 hq)) c6 (fun p e s m args below meth c Q hCx ho => hrun p e s m args below meth c Q H ρ β hCx ho) hret
              have hGw : GoodIn Ts (kc_ws T U Ts y') := fun w hw => by
                rcases List.mem_cons.mp hw with rfl | hw
                · exact hG _ hM.1
                · exact hG _ hw
              have hRR : (kc_rm T y').frames + 1 ≤ R.frames ∧ 8 + ((kc_Tmi T y').1 + 11) + (kc_rm T y').locals ≤ R.locals := ⟨Nat.le_trans c4 r3, by show 8 + ((kc_Tmi T y').1 + 11) + (kc_Tmi T y').2.2.2.2.2.1 ≤ R.locals; omega⟩
              have hcf : CallFix p m c (U.2.2.1 y) (kc_Tmi T y).1 s args Ts (U.1 (kc_Tmi T y).2.2.2.2.2.2.1) := ⟨hx, hb, hml, hown, hts⟩
              have hPre : ∀ Us : State, Us.heap = H → s.WarmedH Us.vm → kc_Pc AOs NWs D cl A vs H tys E.length ρ β vs.toArray Us := fun Us h1 h2 => ⟨rfl, h1, hdy.warm h2, hK.moved h2.alike, hXH.moved h2.alike (Nat.le_refl _) (fun _ _ _ => rfl)⟩
              have hroom : 2 * (F0 m pc ls (vs.reverse ++ rest)).monitorRoom + (rest.map fun v => v.category).sum ≤ 8 := by
                rw [kc_cat.ok q2]
                show 2 * 0 + kc_cat K' ≤ 8
                omega
              have hcells : cs + (kc_Tmi T y').2.2.1 ≤ R.cells ∧ ss + (kc_Tmi T y').2.2.2.1 ≤ R.slots := ⟨Nat.le_trans c2 r1, Nat.le_trans c3 r2⟩
              have hls : (F0 m pc ls (vs.reverse ++ rest)).locals.size = (kc_Tmi T y).1 := hk.2.2.2.1.1
              have hInit := hts _ hM.2.1
              have hobj : kd ≠ 1 → kd ≠ 11 → ∃ (b : Nat) (As : List Value), vs = .ref b :: As ∧ As.length = (kc_Tmi T y').2.1.length - 1 ∧ ∃ cellB : Cell, H[b]? = some cellB ∧ cellB.vm.isStatics = false ∧ s.vm.findClass (U.2.1 y').cls = some cellB.cls := fun n1 n11 => by
                obtain ⟨rr, g, As, rfl, g1, g2, g3⟩ := kc_recv.ok hrc n1 n11 hE q1
                obtain ⟨e0, w1, w2⟩ := hC.2 _ _ g1
                unfold kc_e at w2
                rw [g2] at w2
                obtain ⟨fs, rfl, -⟩ := w2
                have hz0 : ∃ z : vw_C, cl[g.2.1]? = some z ∧ _ := hPw _ _ w1
                obtain ⟨z, hz, -⟩ := hz0
                have hrv := va_recv hK hPw hz w1
                have hzn := (hV.2.2.2.2.2.1 _ z hz).2
                rw [g3, hM.2.2.2.2.1] at hzn
                rw [hzn] at hrv
                refine ⟨_, As, rfl, ?_, hrv⟩
                rw [← q4]
                rfl
              have hend : ∀ X : Array Value, va_Run p l e R s m args below meth c H locs cs ss (kc_Tmi T y').2.2.1 (kc_Tmi T y').2.2.2.1 (F0 m pc ls (vs.reverse ++ rest)) rest (kc_Qc D cl A os E.length ρ Hs.length β X) A → W p l e R s m args below meth c H locs cs ss Q (F0 m pc ls (vs.reverse ++ rest)) := fun X hr => kc_J.after hr hk hg q2 k
              by_cases k0 : kd = 0
              · subst k0
                have hi : i = .invokevirtual (kc_lnk i).1 := by
                  cases i <;> first | rfl | (exfalso; revert hn2; simp [kc_lnk]; done) | (exfalso; revert hkd; simp [kc_kind]; done)
                rw [hi] at hd
                obtain ⟨b, As, rfl, hAs, hcell⟩ := hobj (by decide) (by decide)
                obtain ⟨s1, s2, s3⟩ := b3 (Or.inl rfl)
                exact hend _ (va_runV (rest := rest) hcf hMet ⟨callB_of _ hts hGw rfl rfl rfl hInit (hts _ (b1 (Or.inl rfl))) ⟨hM.2.2.2.1.1, hM.2.2.2.1.2, s3⟩ hRR, hts _ s1, hts _ s2⟩ ⟨kc_Pc.blind, hcell, hPre⟩ rfl hAs hls (by simp) hroom hd hcells)
              · by_cases k1 : kd = 1
                · subst k1
                  have hi : i = .invokestatic (kc_lnk i).1 := by
                    cases i <;> first | rfl | (exfalso; revert hn2; simp [kc_lnk]; done) | (exfalso; revert hkd; simp [kc_kind]; done)
                  rw [hi] at hd
                  obtain ⟨s1, s3⟩ := b4 (Or.inl rfl)
                  exact hend _ (va_runS (rest := rest) hcf hMet ⟨callB_of _ hts hGw rfl rfl rfl hInit (hts _ (b1 (Or.inr (Or.inl rfl)))) ⟨hM.2.2.2.1.1, hM.2.2.2.1.2, s3⟩ hRR, hts _ s1⟩ ⟨kc_Pc.blind, hPre⟩ rfl q4 hls rfl hroom hd hcells)
                · by_cases k2 : kd = 2
                  · subst k2
                    have hi : i = .invokespecial (kc_lnk i).1 := by
                      cases i <;> first | rfl | (exfalso; revert hn2; simp [kc_lnk]; done) | (exfalso; revert hkd; simp [kc_kind]; done)
                    rw [hi] at hd
                    obtain ⟨b, As, rfl, hAs, hcell⟩ := hobj (by decide) (by decide)
                    obtain ⟨s1, s2, s4, s3⟩ := b5 (Or.inl rfl)
                    have hGw2 := hGw
                    unfold kc_ws at hGw2 hMet
                    rw [s4] at hGw2 hMet
                    exact hend _ (va_runI (rest := rest) hcf hMet ⟨callB_of _ hts hGw2 rfl rfl rfl hInit (hts _ (b1 (Or.inr (Or.inr rfl)))) ⟨hM.2.2.2.1.1, hM.2.2.2.1.2, s3⟩ hRR, s2, hts _ s1⟩ ⟨kc_Pc.blind, hPre⟩ rfl hAs hls (by simp) hroom hd hcells)
                  · have hk3 : kd = 10 ∨ kd = 11 ∨ kd = 12 := by
                      exact kc_lnk_mem (i := i) (by simpa using hn2) k0 k1 k2 e3 e4 e5 e6
                    obtain ⟨host, hhost⟩ := b2 hk3
                    have hnw := hdy.2.2 _ hhost
                    rcases hk3 with rfl | rfl | rfl
                    · have hi : i = .invokevirtual (kc_lnk i).1 := by
                        cases i <;> first | rfl | (exfalso; revert hn2; simp [kc_lnk]; done) | (exfalso; revert hkd; simp [kc_kind]; done)
                      rw [hi] at hd
                      obtain ⟨b, As, rfl, hAs, hcell⟩ := hobj (by decide) (by decide)
                      obtain ⟨s1, s2, s3⟩ := b3 (Or.inr rfl)
                      exact hend _ (va_runVN (rest := rest) hcf hMet ⟨va_cnB _ hts hGw rfl rfl rfl hnw hInit ⟨hM.2.2.2.1.1, hM.2.2.2.1.2, s3⟩ hRR, hts _ s1, hts _ s2⟩ ⟨kc_Pc.blind, hcell, hPre⟩ rfl hAs hls (by simp) hroom hd hcells)
                    · have hi : i = .invokestatic (kc_lnk i).1 := by
                        cases i <;> first | rfl | (exfalso; revert hn2; simp [kc_lnk]; done) | (exfalso; revert hkd; simp [kc_kind]; done)
                      rw [hi] at hd
                      obtain ⟨s1, s3⟩ := b4 (Or.inr rfl)
                      exact hend _ (va_runSN (rest := rest) hcf hMet ⟨va_cnB _ hts hGw rfl rfl rfl hnw hInit ⟨hM.2.2.2.1.1, hM.2.2.2.1.2, s3⟩ hRR, hts _ s1, trivial⟩ ⟨kc_Pc.blind, hPre⟩ rfl q4 hls rfl hroom hd hcells)
                    · have hi : i = .invokespecial (kc_lnk i).1 := by
                        cases i <;> first | rfl | (exfalso; revert hn2; simp [kc_lnk]; done) | (exfalso; revert hkd; simp [kc_kind]; done)
                      rw [hi] at hd
                      obtain ⟨b, As, rfl, hAs, hcell⟩ := hobj (by decide) (by decide)
                      obtain ⟨s1, s2, s4, s3⟩ := b5 (Or.inr rfl)
                      have hGw2 := hGw
                      unfold kc_ws at hGw2 hMet
                      rw [s4] at hGw2 hMet
                      exact hend _ (va_runIN (rest := rest) hcf hMet ⟨va_cnB _ hts hGw2 rfl rfl rfl hnw hInit ⟨hM.2.2.2.1.1, hM.2.2.2.1.2, s3⟩ hRR, s2, hts _ s1⟩ ⟨kc_Pc.blind, hPre⟩ rfl hAs hls (by simp) hroom hd hcells)
            · cases h
          · cases h
    · cases h
  · cases h
/-- every end is a return, or a head that is open -/
theorem kc_run.outs : ∀ (f y : Nat) (op : List Nat) (todo outs outs' : List (Nat × kc_S)), kc_run T f y op todo outs = some outs' → (∀ o ∈ outs, o.1 ∈ op ∨ kc_Ret T y o) → ∀ o ∈ outs', o.1 ∈ op ∨ kc_Ret T y o
  | 0, _, _, _, _, _, h, _ => by
    unfold kc_run at h
    cases h
  | f + 1, y, op, [], outs, outs', h, ho => by
    unfold kc_run at h
    cases h
    exact ho
  | f + 1, y, op, q :: rest, outs, outs', h, ho => by
    unfold kc_run at h
    split at h
    · rename_i hop
      refine kc_run.outs f y op rest (q :: outs) outs' h (fun o h1 => ?_)
      rcases List.mem_cons.mp h1 with rfl | h1
      · exact Or.inl (by simpa using hop)
      · exact ho o h1
    · split at h
      · rename_i an i n h1 h2
        split at h
        · split at h
          · rename_i ns hs
            split at h
            · rename_i os hr
              split at h
              · refine kc_run.outs f y op rest _ outs' h (fun o h3 => ?_)
                rcases List.mem_append.mp h3 with h3 | h3
                · obtain ⟨h4, h5⟩ := List.mem_filter.mp h3
                  have h5 := of_decide_eq_true h5
                  rcases kc_run.outs f y (q.1 :: op) ns [] os hr (fun o h => by cases h) o h4 with h6 | h6
                  · rcases List.mem_cons.mp h6 with h6 | h6
                    · exact absurd h6 h5
                    · exact Or.inl h6
                  · exact Or.inr h6
                · exact ho o h3
              · cases h
            · cases h
          · cases h
        · cases h
      · rename_i i n h1 h2
        split at h
        · split at h
          · rename_i hret
            refine kc_run.outs f y op rest _ outs' h (fun o h3 => ?_)
            rcases List.mem_cons.mp h3 with rfl | h3
            · exact Or.inr ⟨i, n, h2, hret⟩
            · exact ho o h3
          · cases h
        · split at h
          · exact kc_run.outs f y op _ _ outs' h ho
          · split at h
            · exact kc_run.outs f y op _ _ outs' h ho
            · cases h
          · cases h
        · split at h
          · exact kc_run.outs f y op _ _ outs' h ho
          · cases h
      · cases h
set_option maxHeartbeats 4000000 in
/-- what the executor runs to, the machine comes to -/
theorem kc_run.ok (hV : kc_TV T U cl Ts AOs) (hLV : kc_LV T U Ts NWs) (hG : GoodIn Ts Ts) : ∀ (f y : Nat) (op : List Nat) (todo outs outs' : List (Nat × kc_S)), kc_run T f y op todo outs = some outs' → ∀ (p : Program) (e : Env) (R : Room) (s : State) (m : MethodId) (args : Array Value) (below : List Frame) (meth : Method) (c : Code) (Q : State → Prop) (H0 : Heap) (nA : Nat) (ρ0 : Nat → Int) (nB : Nat) (β0 : Nat → Nat), kc_Cx T U Ts AOs NWs y p R s m args meth c A H0 nA ρ0 β0 →
    (∀ o ∈ outs', kc_J p l e R s m args below meth c Q D cl A H0 (kc_Tmi T y).1 nA ρ0 nB β0 o.1 o.2) → (∀ o ∈ todo, kc_J p l e R s m args below meth c Q D cl A H0 (kc_Tmi T y).1 nA ρ0 nB β0 o.1 o.2) ∧ ∀ o ∈ outs, kc_J p l e R s m args below meth c Q D cl A H0 (kc_Tmi T y).1 nA ρ0 nB β0 o.1 o.2
  | 0, _, _, _, _, _, h => by
    unfold kc_run at h
    cases h
  | f + 1, y, op, [], outs, outs', h => by
    unfold kc_run at h
    cases h
    intro p e R s m args below meth c Q H0 nA ρ0 nB β0 hX ho
    exact ⟨fun o h => absurd h List.not_mem_nil, ho⟩
  | f + 1, y, op, q :: rest, outs, outs', h => by
    intro p e R s m args below meth c Q H0 nA ρ0 nB β0 hX ho
    have cons : ∀ {P : Nat × kc_S → Prop}, P q → (∀ o ∈ rest, P o) → ∀ o ∈ q :: rest, P o := fun h1 h2 o h3 => by
      rcases List.mem_cons.mp h3 with rfl | h3
      · exact h1
      · exact h2 o h3
    unfold kc_run at h
    split at h
    · obtain ⟨g1, g2⟩ := kc_run.ok hV hLV hG f y op rest (q :: outs) outs' h p e R s m args below meth c Q H0 nA ρ0 nB β0 hX ho
      exact ⟨cons (g2 q List.mem_cons_self) g1, fun o h1 => g2 o (List.mem_cons_of_mem _ h1)⟩
    · split at h
      · rename_i an i n h1 h2
        split at h
        · rename_i hw
          rw [Bool.and_eq_true] at hw
          split at h
          · rename_i ns hs
            split at h
            · rename_i os hr
              split at h
              · rename_i hall
                obtain ⟨g1, g2⟩ := kc_run.ok hV hLV hG f y op rest _ outs' h p e R s m args below meth c Q H0 nA ρ0 nB β0 hX ho
                refine ⟨cons ?_ g1, fun o h3 => g2 o (List.mem_append.mpr (Or.inr h3))⟩
                refine kc_J.loop (an := an) (Wd := kc_wid an q.2) (os := os) (of_decide_eq_true hw.1) hw.2 (fun o h3 h4 => ?_) (fun o h3 h4 => g2 o (List.mem_append.mpr (Or.inl (List.mem_filter.mpr ⟨h3, decide_eq_true h4⟩)))) (fun ρ1 β1 hg hos => ?_)
                · have h5 := List.all_eq_true.mp hall o h3
                  rw [Bool.or_eq_true] at h5
                  rcases h5 with h5 | h5
                  · exact absurd h4 (of_decide_eq_true h5)
                  · exact h5
                · have hX2 : kc_Cx T U Ts AOs NWs y p R s m args meth c A H0 (kc_wid an q.2).1.length ρ1 β1 := by
                    obtain ⟨x1, x2, x3, x4, x5, x6, x7, x8, x9, x10⟩ := hX
                    exact ⟨x1, x2, x3, x4, x5, x6, x7, x8, x9, x10.mono hg.1 hg.2.2.1 (hg.2.2.2 0 (Nat.zero_le _))⟩
                  exact kc_step.ok hV hX2 h2 hs (kc_run.ok hV hLV hG f y (q.1 :: op) ns [] os hr p e R s m args below meth c Q H0 _ ρ1 _ β1 hX2 hos).1
              · cases h
            · cases h
          · cases h
        · cases h
      · rename_i i n h1 h2
        split at h
        · rename_i hkd
          split at h
          · obtain ⟨g1, g2⟩ := kc_run.ok hV hLV hG f y op rest (q :: outs) outs' h p e R s m args below meth c Q H0 nA ρ0 nB β0 hX ho
            exact ⟨cons (g2 q List.mem_cons_self) g1, fun o h1 => g2 o (List.mem_cons_of_mem _ h1)⟩
          · cases h
        · rename_i hkd
          split at h
          · rename_i S' hi
            obtain ⟨g1, g2⟩ := kc_run.ok hV hLV hG f y op _ outs outs' h p e R s m args below meth c Q H0 nA ρ0 nB β0 hX ho
            exact ⟨cons (kc_invk.ok1 hV hLV hX h2 hkd hi (g1 _ List.mem_cons_self)) (fun o h3 => g1 o (List.mem_cons_of_mem _ h3)), g2⟩
          · rename_i r hi
            split at h
            · rename_i os hr
              obtain ⟨g1, g2⟩ := kc_run.ok hV hLV hG f y op _ outs outs' h p e R s m args below meth c Q H0 nA ρ0 nB β0 hX ho
              refine ⟨cons (kc_invk.ok2 (os := os) hV hLV hG hX h2 hkd hi (fun p e s m args below meth c Q H ρ β hCx hos => (kc_run.ok hV hLV hG f r.1 [] _ [] os hr p e (kc_rm T r.1) s m args below meth c Q H _ ρ _ β hCx hos).1 _ List.mem_cons_self) (fun o h3 => ?_) (fun o h3 => g1 _ (List.mem_append.mpr (Or.inl (List.mem_map.mpr ⟨o, h3, rfl⟩))))) (fun o h3 => g1 o (List.mem_append.mpr (Or.inr h3))), g2⟩
              rcases kc_run.outs f r.1 [] _ [] os hr (fun o h => by cases h) o h3 with h4 | h4
              · cases h4
              · exact h4
            · cases h
          · cases h
        · split at h
          · rename_i ns hs
            obtain ⟨g1, g2⟩ := kc_run.ok hV hLV hG f y op _ outs outs' h p e R s m args below meth c Q H0 nA ρ0 nB β0 hX ho
            exact ⟨cons (kc_step.ok hV hX h2 hs (fun o h3 => g1 o (List.mem_append.mpr (Or.inl h3)))) (fun o h3 => g1 o (List.mem_append.mpr (Or.inr h3))), g2⟩
          · cases h
      · cases h
end KQ
end
