section
-- ===== PART A: goes FIRST, ahead of the names: the tables' words, and 'selects' of the private methods out of them =====
/-- a private method of a class that the tables say can be made, by its rows of tables_1 -/
def lw_okq (q : MethodName × Nat) : Prop := (q.1.cls ≠ "java/lang/invoke/MethodHandle" ∧ q.1.cls ≠ "java/lang/invoke/VarHandle") ∧ Cond.instantiable q.1.cls q.2 ∈ tables_1 ∧ Cond.privateMethod q.1 ∈ tables_1 ∧ Cond.instanceMethod q.1 ∈ tables_1
theorem lw_p0 : lw_okq (⟨"HeatShares$Meters", "sumRead", "(LHeatShares$House;)V"⟩, 8) := ⟨⟨by decide +kernel, by decide +kernel⟩, List.mem_of_getElem? (i := 115) (by decide +kernel), List.mem_of_getElem? (i := 288) (by decide +kernel), List.mem_of_getElem? (i := 289) (by decide +kernel)⟩
theorem lw_p1 : lw_okq (⟨"HeatShares$Meters", "kindOf", "(LHeatShares$Flat;)I"⟩, 8) := ⟨⟨by decide +kernel, by decide +kernel⟩, List.mem_of_getElem? (i := 115) (by decide +kernel), List.mem_of_getElem? (i := 304) (by decide +kernel), List.mem_of_getElem? (i := 305) (by decide +kernel)⟩
theorem lw_p2 : lw_okq (⟨"HeatShares$Meters", "scaledUnits", "(LHeatShares$Flat;IJJ)J"⟩, 8) := ⟨⟨by decide +kernel, by decide +kernel⟩, List.mem_of_getElem? (i := 115) (by decide +kernel), List.mem_of_getElem? (i := 308) (by decide +kernel), List.mem_of_getElem? (i := 309) (by decide +kernel)⟩
theorem lw_p3 : lw_okq (⟨"HeatShares$Spans", "layFlat", "(ILHeatShares$Flat;)V"⟩, 5) := ⟨⟨by decide +kernel, by decide +kernel⟩, List.mem_of_getElem? (i := 149) (by decide +kernel), List.mem_of_getElem? (i := 320) (by decide +kernel), List.mem_of_getElem? (i := 321) (by decide +kernel)⟩
theorem lw_p4 : lw_okq (⟨"HeatShares$Spans", "addSpan", "(IIII)V"⟩, 5) := ⟨⟨by decide +kernel, by decide +kernel⟩, List.mem_of_getElem? (i := 149) (by decide +kernel), List.mem_of_getElem? (i := 328) (by decide +kernel), List.mem_of_getElem? (i := 329) (by decide +kernel)⟩
theorem lw_p5 : lw_okq (⟨"HeatShares", "hasDegreesOfYear", "()Z"⟩, 13) := ⟨⟨by decide +kernel, by decide +kernel⟩, List.mem_of_getElem? (i := 20) (by decide +kernel), List.mem_of_getElem? (i := 348) (by decide +kernel), List.mem_of_getElem? (i := 349) (by decide +kernel)⟩
theorem lw_p6 : lw_okq (⟨"HeatShares", "setBillParts", "()V"⟩, 13) := ⟨⟨by decide +kernel, by decide +kernel⟩, List.mem_of_getElem? (i := 20) (by decide +kernel), List.mem_of_getElem? (i := 352) (by decide +kernel), List.mem_of_getElem? (i := 353) (by decide +kernel)⟩
theorem lw_p7 : lw_okq (⟨"HeatShares", "waterUnits", "(I)I"⟩, 13) := ⟨⟨by decide +kernel, by decide +kernel⟩, List.mem_of_getElem? (i := 20) (by decide +kernel), List.mem_of_getElem? (i := 375) (by decide +kernel), List.mem_of_getElem? (i := 376) (by decide +kernel)⟩
theorem lw_p8 : lw_okq (⟨"HeatShares", "shareParts", "(Z)V"⟩, 13) := ⟨⟨by decide +kernel, by decide +kernel⟩, List.mem_of_getElem? (i := 20) (by decide +kernel), List.mem_of_getElem? (i := 383) (by decide +kernel), List.mem_of_getElem? (i := 384) (by decide +kernel)⟩
theorem lw_p9 : lw_okq (⟨"HeatShares$Shares", "setWhole", "(II)V"⟩, 5) := ⟨⟨by decide +kernel, by decide +kernel⟩, List.mem_of_getElem? (i := 177) (by decide +kernel), List.mem_of_getElem? (i := 400) (by decide +kernel), List.mem_of_getElem? (i := 401) (by decide +kernel)⟩
theorem lw_p10 : lw_okq (⟨"HeatShares", "sharePart", "(II)V"⟩, 13) := ⟨⟨by decide +kernel, by decide +kernel⟩, List.mem_of_getElem? (i := 20) (by decide +kernel), List.mem_of_getElem? (i := 404) (by decide +kernel), List.mem_of_getElem? (i := 405) (by decide +kernel)⟩
theorem lw_p11 : lw_okq (⟨"HeatShares$Shares", "roundDown", "(II)V"⟩, 5) := ⟨⟨by decide +kernel, by decide +kernel⟩, List.mem_of_getElem? (i := 177) (by decide +kernel), List.mem_of_getElem? (i := 412) (by decide +kernel), List.mem_of_getElem? (i := 413) (by decide +kernel)⟩
theorem lw_p12 : lw_okq (⟨"HeatShares$Shares", "greatestCutOff", "(I)I"⟩, 5) := ⟨⟨by decide +kernel, by decide +kernel⟩, List.mem_of_getElem? (i := 177) (by decide +kernel), List.mem_of_getElem? (i := 416) (by decide +kernel), List.mem_of_getElem? (i := 417) (by decide +kernel)⟩
theorem lw_p13 : lw_okq (⟨"HeatShares$Shares", "addStretch", "(LHeatShares$Spans;IIIJ[I)V"⟩, 5) := ⟨⟨by decide +kernel, by decide +kernel⟩, List.mem_of_getElem? (i := 177) (by decide +kernel), List.mem_of_getElem? (i := 438) (by decide +kernel), List.mem_of_getElem? (i := 439) (by decide +kernel)⟩
theorem lw_p14 : lw_okq (⟨"java/lang/Throwable", "fillInStackTrace", "(I)Ljava/lang/Throwable;"⟩, 6) := ⟨⟨by decide +kernel, by decide +kernel⟩, List.mem_of_getElem? (i := 498) (by decide +kernel), List.mem_of_getElem? (i := 496) (by decide +kernel), List.mem_of_getElem? (i := 497) (by decide +kernel)⟩
theorem lw_p15 : lw_okq (⟨"HeatShares", "needFlat", "(I)V"⟩, 13) := ⟨⟨by decide +kernel, by decide +kernel⟩, List.mem_of_getElem? (i := 20) (by decide +kernel), List.mem_of_getElem? (i := 556) (by decide +kernel), List.mem_of_getElem? (i := 557) (by decide +kernel)⟩
def lw_privs_1 : List (MethodName × Nat) := [(⟨"HeatShares$Meters", "sumRead", "(LHeatShares$House;)V"⟩, 8), (⟨"HeatShares$Meters", "kindOf", "(LHeatShares$Flat;)I"⟩, 8), (⟨"HeatShares$Meters", "scaledUnits", "(LHeatShares$Flat;IJJ)J"⟩, 8), (⟨"HeatShares$Spans", "layFlat", "(ILHeatShares$Flat;)V"⟩, 5), (⟨"HeatShares$Spans", "addSpan", "(IIII)V"⟩, 5), (⟨"HeatShares", "hasDegreesOfYear", "()Z"⟩, 13), (⟨"HeatShares", "setBillParts", "()V"⟩, 13), (⟨"HeatShares", "waterUnits", "(I)I"⟩, 13), (⟨"HeatShares", "shareParts", "(Z)V"⟩, 13), (⟨"HeatShares$Shares", "setWhole", "(II)V"⟩, 5), (⟨"HeatShares", "sharePart", "(II)V"⟩, 13), (⟨"HeatShares$Shares", "roundDown", "(II)V"⟩, 5), (⟨"HeatShares$Shares", "greatestCutOff", "(I)I"⟩, 5), (⟨"HeatShares$Shares", "addStretch", "(LHeatShares$Spans;IIIJ[I)V"⟩, 5), (⟨"java/lang/Throwable", "fillInStackTrace", "(I)Ljava/lang/Throwable;"⟩, 6), (⟨"HeatShares", "needFlat", "(I)V"⟩, 13)]
theorem lw_r1 : ∀ q ∈ lw_privs_1, lw_okq q := List.forall_mem_cons.mpr ⟨lw_p0, List.forall_mem_cons.mpr ⟨lw_p1, List.forall_mem_cons.mpr ⟨lw_p2, List.forall_mem_cons.mpr ⟨lw_p3, List.forall_mem_cons.mpr ⟨lw_p4, List.forall_mem_cons.mpr ⟨lw_p5, List.forall_mem_cons.mpr ⟨lw_p6, List.forall_mem_cons.mpr ⟨lw_p7, List.forall_mem_cons.mpr ⟨lw_p8, List.forall_mem_cons.mpr ⟨lw_p9, List.forall_mem_cons.mpr ⟨lw_p10, List.forall_mem_cons.mpr ⟨lw_p11, List.forall_mem_cons.mpr ⟨lw_p12, List.forall_mem_cons.mpr ⟨lw_p13, List.forall_mem_cons.mpr ⟨lw_p14, List.forall_mem_cons.mpr ⟨lw_p15, fun _ h => absurd h List.not_mem_nil⟩⟩⟩⟩⟩⟩⟩⟩⟩⟩⟩⟩⟩⟩⟩⟩
theorem lw_p16 : lw_okq (⟨"HeatShares", "needRoomForChange", "(II)V"⟩, 13) := ⟨⟨by decide +kernel, by decide +kernel⟩, List.mem_of_getElem? (i := 20) (by decide +kernel), List.mem_of_getElem? (i := 586) (by decide +kernel), List.mem_of_getElem? (i := 587) (by decide +kernel)⟩
theorem lw_p17 : lw_okq (⟨"HeatShares", "needTenant", "(I)V"⟩, 13) := ⟨⟨by decide +kernel, by decide +kernel⟩, List.mem_of_getElem? (i := 20) (by decide +kernel), List.mem_of_getElem? (i := 682) (by decide +kernel), List.mem_of_getElem? (i := 683) (by decide +kernel)⟩
theorem lw_p18 : lw_okq (⟨"HeatShares", "needBill", "()V"⟩, 13) := ⟨⟨by decide +kernel, by decide +kernel⟩, List.mem_of_getElem? (i := 20) (by decide +kernel), List.mem_of_getElem? (i := 695) (by decide +kernel), List.mem_of_getElem? (i := 696) (by decide +kernel)⟩
theorem lw_p19 : lw_okq (⟨"HeatShares", "needTenantOrLandlord", "(I)V"⟩, 13) := ⟨⟨by decide +kernel, by decide +kernel⟩, List.mem_of_getElem? (i := 20) (by decide +kernel), List.mem_of_getElem? (i := 700) (by decide +kernel), List.mem_of_getElem? (i := 701) (by decide +kernel)⟩
theorem lw_p20 : lw_okq (⟨"HeatSharesModel", "isFlat", "(I)Z"⟩, 38) := ⟨⟨by decide +kernel, by decide +kernel⟩, List.mem_of_getElem? (i := 784) (by decide +kernel), List.mem_of_getElem? (i := 921) (by decide +kernel), List.mem_of_getElem? (i := 922) (by decide +kernel)⟩
theorem lw_p21 : lw_okq (⟨"HeatSharesModel", "wrongChange", "(II)I"⟩, 38) := ⟨⟨by decide +kernel, by decide +kernel⟩, List.mem_of_getElem? (i := 784) (by decide +kernel), List.mem_of_getElem? (i := 929) (by decide +kernel), List.mem_of_getElem? (i := 930) (by decide +kernel)⟩
theorem lw_p22 : lw_okq (⟨"HeatSharesModel", "allUnits", "()I"⟩, 38) := ⟨⟨by decide +kernel, by decide +kernel⟩, List.mem_of_getElem? (i := 784) (by decide +kernel), List.mem_of_getElem? (i := 945) (by decide +kernel), List.mem_of_getElem? (i := 946) (by decide +kernel)⟩
theorem lw_p23 : lw_okq (⟨"HeatSharesModel", "isTenant", "(I)Z"⟩, 38) := ⟨⟨by decide +kernel, by decide +kernel⟩, List.mem_of_getElem? (i := 784) (by decide +kernel), List.mem_of_getElem? (i := 970) (by decide +kernel), List.mem_of_getElem? (i := 971) (by decide +kernel)⟩
theorem lw_p24 : lw_okq (⟨"HeatSharesModel", "look", "()V"⟩, 38) := ⟨⟨by decide +kernel, by decide +kernel⟩, List.mem_of_getElem? (i := 784) (by decide +kernel), List.mem_of_getElem? (i := 983) (by decide +kernel), List.mem_of_getElem? (i := 984) (by decide +kernel)⟩
theorem lw_p25 : lw_okq (⟨"HeatSharesModel", "isRead", "(I)Z"⟩, 38) := ⟨⟨by decide +kernel, by decide +kernel⟩, List.mem_of_getElem? (i := 784) (by decide +kernel), List.mem_of_getElem? (i := 987) (by decide +kernel), List.mem_of_getElem? (i := 988) (by decide +kernel)⟩
theorem lw_p26 : lw_okq (⟨"HeatSharesModel", "measured", "(I)I"⟩, 38) := ⟨⟨by decide +kernel, by decide +kernel⟩, List.mem_of_getElem? (i := 784) (by decide +kernel), List.mem_of_getElem? (i := 991) (by decide +kernel), List.mem_of_getElem? (i := 992) (by decide +kernel)⟩
theorem lw_p27 : lw_okq (⟨"HeatSharesModel", "kindOf", "(I)I"⟩, 38) := ⟨⟨by decide +kernel, by decide +kernel⟩, List.mem_of_getElem? (i := 784) (by decide +kernel), List.mem_of_getElem? (i := 995) (by decide +kernel), List.mem_of_getElem? (i := 996) (by decide +kernel)⟩
theorem lw_p28 : lw_okq (⟨"HeatSharesModel", "isByArea", "()Z"⟩, 38) := ⟨⟨by decide +kernel, by decide +kernel⟩, List.mem_of_getElem? (i := 784) (by decide +kernel), List.mem_of_getElem? (i := 1004) (by decide +kernel), List.mem_of_getElem? (i := 1005) (by decide +kernel)⟩
theorem lw_p29 : lw_okq (⟨"HeatSharesModel", "needsDegrees", "()Z"⟩, 38) := ⟨⟨by decide +kernel, by decide +kernel⟩, List.mem_of_getElem? (i := 784) (by decide +kernel), List.mem_of_getElem? (i := 1008) (by decide +kernel), List.mem_of_getElem? (i := 1009) (by decide +kernel)⟩
theorem lw_p30 : lw_okq (⟨"HeatSharesModel", "changeAt", "(II)I"⟩, 38) := ⟨⟨by decide +kernel, by decide +kernel⟩, List.mem_of_getElem? (i := 784) (by decide +kernel), List.mem_of_getElem? (i := 1012) (by decide +kernel), List.mem_of_getElem? (i := 1013) (by decide +kernel)⟩
theorem lw_p31 : lw_okq (⟨"HeatSharesModel", "stretchOf", "(IIZ)I"⟩, 38) := ⟨⟨by decide +kernel, by decide +kernel⟩, List.mem_of_getElem? (i := 784) (by decide +kernel), List.mem_of_getElem? (i := 1016) (by decide +kernel), List.mem_of_getElem? (i := 1017) (by decide +kernel)⟩
def lw_privs_2 : List (MethodName × Nat) := [(⟨"HeatShares", "needRoomForChange", "(II)V"⟩, 13), (⟨"HeatShares", "needTenant", "(I)V"⟩, 13), (⟨"HeatShares", "needBill", "()V"⟩, 13), (⟨"HeatShares", "needTenantOrLandlord", "(I)V"⟩, 13), (⟨"HeatSharesModel", "isFlat", "(I)Z"⟩, 38), (⟨"HeatSharesModel", "wrongChange", "(II)I"⟩, 38), (⟨"HeatSharesModel", "allUnits", "()I"⟩, 38), (⟨"HeatSharesModel", "isTenant", "(I)Z"⟩, 38), (⟨"HeatSharesModel", "look", "()V"⟩, 38), (⟨"HeatSharesModel", "isRead", "(I)Z"⟩, 38), (⟨"HeatSharesModel", "measured", "(I)I"⟩, 38), (⟨"HeatSharesModel", "kindOf", "(I)I"⟩, 38), (⟨"HeatSharesModel", "isByArea", "()Z"⟩, 38), (⟨"HeatSharesModel", "needsDegrees", "()Z"⟩, 38), (⟨"HeatSharesModel", "changeAt", "(II)I"⟩, 38), (⟨"HeatSharesModel", "stretchOf", "(IIZ)I"⟩, 38)]
theorem lw_r2 : ∀ q ∈ lw_privs_2, lw_okq q := List.forall_mem_cons.mpr ⟨lw_p16, List.forall_mem_cons.mpr ⟨lw_p17, List.forall_mem_cons.mpr ⟨lw_p18, List.forall_mem_cons.mpr ⟨lw_p19, List.forall_mem_cons.mpr ⟨lw_p20, List.forall_mem_cons.mpr ⟨lw_p21, List.forall_mem_cons.mpr ⟨lw_p22, List.forall_mem_cons.mpr ⟨lw_p23, List.forall_mem_cons.mpr ⟨lw_p24, List.forall_mem_cons.mpr ⟨lw_p25, List.forall_mem_cons.mpr ⟨lw_p26, List.forall_mem_cons.mpr ⟨lw_p27, List.forall_mem_cons.mpr ⟨lw_p28, List.forall_mem_cons.mpr ⟨lw_p29, List.forall_mem_cons.mpr ⟨lw_p30, List.forall_mem_cons.mpr ⟨lw_p31, fun _ h => absurd h List.not_mem_nil⟩⟩⟩⟩⟩⟩⟩⟩⟩⟩⟩⟩⟩⟩⟩⟩
theorem lw_p32 : lw_okq (⟨"HeatSharesModel", "degreesOf", "(II)I"⟩, 38) := ⟨⟨by decide +kernel, by decide +kernel⟩, List.mem_of_getElem? (i := 784) (by decide +kernel), List.mem_of_getElem? (i := 1020) (by decide +kernel), List.mem_of_getElem? (i := 1021) (by decide +kernel)⟩
theorem lw_p33 : lw_okq (⟨"HeatSharesModel", "findParts", "()V"⟩, 38) := ⟨⟨by decide +kernel, by decide +kernel⟩, List.mem_of_getElem? (i := 784) (by decide +kernel), List.mem_of_getElem? (i := 1024) (by decide +kernel), List.mem_of_getElem? (i := 1025) (by decide +kernel)⟩
theorem lw_p34 : lw_okq (⟨"HeatSharesModel", "centsInStock", "(I)I"⟩, 38) := ⟨⟨by decide +kernel, by decide +kernel⟩, List.mem_of_getElem? (i := 784) (by decide +kernel), List.mem_of_getElem? (i := 1028) (by decide +kernel), List.mem_of_getElem? (i := 1029) (by decide +kernel)⟩
theorem lw_p35 : lw_okq (⟨"HeatSharesModel", "inStock", "(I)I"⟩, 38) := ⟨⟨by decide +kernel, by decide +kernel⟩, List.mem_of_getElem? (i := 784) (by decide +kernel), List.mem_of_getElem? (i := 1032) (by decide +kernel), List.mem_of_getElem? (i := 1033) (by decide +kernel)⟩
theorem lw_p36 : lw_okq (⟨"HeatSharesModel", "share", "(IIZ)V"⟩, 38) := ⟨⟨by decide +kernel, by decide +kernel⟩, List.mem_of_getElem? (i := 784) (by decide +kernel), List.mem_of_getElem? (i := 1039) (by decide +kernel), List.mem_of_getElem? (i := 1040) (by decide +kernel)⟩
theorem lw_p37 : lw_okq (⟨"HeatSharesModel", "spansBy", "(IJII)V"⟩, 38) := ⟨⟨by decide +kernel, by decide +kernel⟩, List.mem_of_getElem? (i := 784) (by decide +kernel), List.mem_of_getElem? (i := 1043) (by decide +kernel), List.mem_of_getElem? (i := 1044) (by decide +kernel)⟩
theorem lw_p38 : lw_okq (⟨"HeatSharesModel", "holderAt", "(II)I"⟩, 38) := ⟨⟨by decide +kernel, by decide +kernel⟩, List.mem_of_getElem? (i := 784) (by decide +kernel), List.mem_of_getElem? (i := 1047) (by decide +kernel), List.mem_of_getElem? (i := 1048) (by decide +kernel)⟩
theorem lw_p39 : lw_okq (⟨"HeatSharesModel", "endOf", "(II)I"⟩, 38) := ⟨⟨by decide +kernel, by decide +kernel⟩, List.mem_of_getElem? (i := 784) (by decide +kernel), List.mem_of_getElem? (i := 1051) (by decide +kernel), List.mem_of_getElem? (i := 1052) (by decide +kernel)⟩
theorem lw_p40 : lw_okq (⟨"HeatSharesModel", "span", "(IJJ)V"⟩, 38) := ⟨⟨by decide +kernel, by decide +kernel⟩, List.mem_of_getElem? (i := 784) (by decide +kernel), List.mem_of_getElem? (i := 1056) (by decide +kernel), List.mem_of_getElem? (i := 1057) (by decide +kernel)⟩
theorem lw_p41 : lw_okq (⟨"HeatSharesModel", "spanByMeter", "(IIIJJ)V"⟩, 38) := ⟨⟨by decide +kernel, by decide +kernel⟩, List.mem_of_getElem? (i := 784) (by decide +kernel), List.mem_of_getElem? (i := 1060) (by decide +kernel), List.mem_of_getElem? (i := 1061) (by decide +kernel)⟩
theorem lw_p42 : lw_okq (⟨"HeatSharesModel", "weight", "(IIII)I"⟩, 38) := ⟨⟨by decide +kernel, by decide +kernel⟩, List.mem_of_getElem? (i := 784) (by decide +kernel), List.mem_of_getElem? (i := 1064) (by decide +kernel), List.mem_of_getElem? (i := 1065) (by decide +kernel)⟩
theorem lw_p43 : lw_okq (⟨"HeatSharesModel", "handOut", "(II)V"⟩, 38) := ⟨⟨by decide +kernel, by decide +kernel⟩, List.mem_of_getElem? (i := 784) (by decide +kernel), List.mem_of_getElem? (i := 1068) (by decide +kernel), List.mem_of_getElem? (i := 1069) (by decide +kernel)⟩
theorem lw_p44 : lw_okq (⟨"HeatSharesModel", "sumOf", "(I)I"⟩, 38) := ⟨⟨by decide +kernel, by decide +kernel⟩, List.mem_of_getElem? (i := 784) (by decide +kernel), List.mem_of_getElem? (i := 1079) (by decide +kernel), List.mem_of_getElem? (i := 1080) (by decide +kernel)⟩
theorem lw_p45 : lw_okq (⟨"HeatSharesModel", "sendAll", "()I"⟩, 38) := ⟨⟨by decide +kernel, by decide +kernel⟩, List.mem_of_getElem? (i := 784) (by decide +kernel), List.mem_of_getElem? (i := 1091) (by decide +kernel), List.mem_of_getElem? (i := 1092) (by decide +kernel)⟩
theorem lw_p46 : lw_okq (⟨"HeatSharesModel", "keepStock", "()V"⟩, 38) := ⟨⟨by decide +kernel, by decide +kernel⟩, List.mem_of_getElem? (i := 784) (by decide +kernel), List.mem_of_getElem? (i := 1103) (by decide +kernel), List.mem_of_getElem? (i := 1104) (by decide +kernel)⟩
theorem lw_p47 : lw_okq (⟨"HeatSharesModel", "nextYear", "(I)V"⟩, 38) := ⟨⟨by decide +kernel, by decide +kernel⟩, List.mem_of_getElem? (i := 784) (by decide +kernel), List.mem_of_getElem? (i := 1107) (by decide +kernel), List.mem_of_getElem? (i := 1108) (by decide +kernel)⟩
def lw_privs_3 : List (MethodName × Nat) := [(⟨"HeatSharesModel", "degreesOf", "(II)I"⟩, 38), (⟨"HeatSharesModel", "findParts", "()V"⟩, 38), (⟨"HeatSharesModel", "centsInStock", "(I)I"⟩, 38), (⟨"HeatSharesModel", "inStock", "(I)I"⟩, 38), (⟨"HeatSharesModel", "share", "(IIZ)V"⟩, 38), (⟨"HeatSharesModel", "spansBy", "(IJII)V"⟩, 38), (⟨"HeatSharesModel", "holderAt", "(II)I"⟩, 38), (⟨"HeatSharesModel", "endOf", "(II)I"⟩, 38), (⟨"HeatSharesModel", "span", "(IJJ)V"⟩, 38), (⟨"HeatSharesModel", "spanByMeter", "(IIIJJ)V"⟩, 38), (⟨"HeatSharesModel", "weight", "(IIII)I"⟩, 38), (⟨"HeatSharesModel", "handOut", "(II)V"⟩, 38), (⟨"HeatSharesModel", "sumOf", "(I)I"⟩, 38), (⟨"HeatSharesModel", "sendAll", "()I"⟩, 38), (⟨"HeatSharesModel", "keepStock", "()V"⟩, 38), (⟨"HeatSharesModel", "nextYear", "(I)V"⟩, 38)]
theorem lw_r3 : ∀ q ∈ lw_privs_3, lw_okq q := List.forall_mem_cons.mpr ⟨lw_p32, List.forall_mem_cons.mpr ⟨lw_p33, List.forall_mem_cons.mpr ⟨lw_p34, List.forall_mem_cons.mpr ⟨lw_p35, List.forall_mem_cons.mpr ⟨lw_p36, List.forall_mem_cons.mpr ⟨lw_p37, List.forall_mem_cons.mpr ⟨lw_p38, List.forall_mem_cons.mpr ⟨lw_p39, List.forall_mem_cons.mpr ⟨lw_p40, List.forall_mem_cons.mpr ⟨lw_p41, List.forall_mem_cons.mpr ⟨lw_p42, List.forall_mem_cons.mpr ⟨lw_p43, List.forall_mem_cons.mpr ⟨lw_p44, List.forall_mem_cons.mpr ⟨lw_p45, List.forall_mem_cons.mpr ⟨lw_p46, List.forall_mem_cons.mpr ⟨lw_p47, fun _ h => absurd h List.not_mem_nil⟩⟩⟩⟩⟩⟩⟩⟩⟩⟩⟩⟩⟩⟩⟩⟩
def lw_privs : List (MethodName × Nat) := lw_privs_1 ++ (lw_privs_2 ++ (lw_privs_3))
def lw_tbl : List Cond := k2_sels lw_privs ++ tables_1
theorem lw_privs_ok : ∀ q ∈ lw_privs, lw_okq q := by
  show ∀ q ∈ lw_privs_1 ++ (lw_privs_2 ++ (lw_privs_3)), lw_okq q
  exact List.forall_mem_append.mpr ⟨lw_r1, List.forall_mem_append.mpr ⟨lw_r2, lw_r3⟩⟩
end
section
/-! Names: classes, fields, methods. -/
def R_H : String := "HeatShares"
def T_H : u_T := fun k => match k with
  | 0 => ("HeatShares", "house", "LHeatShares$House;", true)
  | 1 => ("HeatShares", "fuel", "LHeatShares$Fuel;", true)
  | 2 => ("HeatShares", "meters", "LHeatShares$Meters;", true)
  | 3 => ("HeatShares", "spans", "LHeatShares$Spans;", true)
  | 4 => ("HeatShares", "shares", "LHeatShares$Shares;", true)
  | 5 => ("HeatShares", "accounts", "LHeatShares$Accounts;", true)
  | 6 => ("HeatShares", "monthDegrees", "[I", true)
  | 7 => ("HeatShares", "billParts", "[I", true)
  | 8 => ("HeatShares", "sideCents", "I", false)
  | 9 => ("HeatShares", "waterLitres", "I", false)
  | 10 => ("HeatShares", "waterGap", "I", false)
  | 11 => ("HeatShares", "fixedPermille", "I", false)
  | _ => ("HeatShares", "billed", "Z", false)
def t_H : Nat → FieldType := fun k => match k with
  | 0 => .object "HeatShares$House"
  | 1 => .object "HeatShares$Fuel"
  | 2 => .object "HeatShares$Meters"
  | 3 => .object "HeatShares$Spans"
  | 4 => .object "HeatShares$Shares"
  | 5 => .object "HeatShares$Accounts"
  | 6 => .array .int
  | 7 => .array .int
  | 8 => .int
  | 9 => .int
  | 10 => .int
  | 11 => .int
  | _ => .boolean
theorem nm_H : ∀ a, a < 13 → ∀ b, b < 13 → a ≠ b → (T_H a).2.1 ≠ (T_H b).2.1 := by decide +kernel
theorem ok_H : ∀ k, k < 13 → parseFieldDescriptor (T_H k).2.2.1 = some (t_H k) := by decide +kernel
def R_O : String := "HeatShares$House"
def T_O : u_T := fun k => match k with
  | 0 => ("HeatShares$House", "flats", "[LHeatShares$Flat;", true)
  | _ => ("HeatShares$House", "count", "I", false)
def t_O : Nat → FieldType := fun k => match k with
  | 0 => .array (.object "HeatShares$Flat")
  | _ => .int
theorem nm_O : ∀ a, a < 2 → ∀ b, b < 2 → a ≠ b → (T_O a).2.1 ≠ (T_O b).2.1 := by decide +kernel
theorem ok_O : ∀ k, k < 2 → parseFieldDescriptor (T_O k).2.2.1 = some (t_O k) := by decide +kernel
def R_F : String := "HeatShares$Flat"
def T_F : u_T := fun k => match k with
  | 0 => ("HeatShares$Flat", "area", "I", false)
  | 1 => ("HeatShares$Flat", "waterArea", "I", false)
  | 2 => ("HeatShares$Flat", "factor", "I", false)
  | 3 => ("HeatShares$Flat", "firstHolder", "I", false)
  | 4 => ("HeatShares$Flat", "lastUnits", "I", false)
  | 5 => ("HeatShares$Flat", "readings", "[I", true)
  | _ => ("HeatShares$Flat", "changes", "[I", true)
def t_F : Nat → FieldType := fun k => match k with
  | 0 => .int
  | 1 => .int
  | 2 => .int
  | 3 => .int
  | 4 => .int
  | 5 => .array .int
  | _ => .array .int
theorem nm_F : ∀ a, a < 7 → ∀ b, b < 7 → a ≠ b → (T_F a).2.1 ≠ (T_F b).2.1 := by decide +kernel
theorem ok_F : ∀ k, k < 7 → parseFieldDescriptor (T_F k).2.2.1 = some (t_F k) := by decide +kernel
def R_U : String := "HeatShares$Fuel"
def T_U : u_T := fun k => match k with
  | 0 => ("HeatShares$Fuel", "units", "[I", true)
  | 1 => ("HeatShares$Fuel", "cents", "[I", true)
  | 2 => ("HeatShares$Fuel", "layers", "I", false)
  | _ => ("HeatShares$Fuel", "stock", "I", false)
def t_U : Nat → FieldType := fun k => match k with
  | 0 => .array .int
  | 1 => .array .int
  | 2 => .int
  | _ => .int
theorem nm_U : ∀ a, a < 4 → ∀ b, b < 4 → a ≠ b → (T_U a).2.1 ≠ (T_U b).2.1 := by decide +kernel
theorem ok_U : ∀ k, k < 4 → parseFieldDescriptor (T_U k).2.2.1 = some (t_U k) := by decide +kernel
def R_M : String := "HeatShares$Meters"
def T_M : u_T := fun k => match k with
  | 0 => ("HeatShares$Meters", "kinds", "[I", true)
  | 1 => ("HeatShares$Meters", "units", "[J", true)
  | 2 => ("HeatShares$Meters", "scale", "J", false)
  | 3 => ("HeatShares$Meters", "allUnits", "J", false)
  | 4 => ("HeatShares$Meters", "readUnits", "I", false)
  | 5 => ("HeatShares$Meters", "readArea", "I", false)
  | 6 => ("HeatShares$Meters", "pairedUnits", "I", false)
  | _ => ("HeatShares$Meters", "pairedLastUnits", "I", false)
def t_M : Nat → FieldType := fun k => match k with
  | 0 => .array .int
  | 1 => .array .long
  | 2 => .long
  | 3 => .long
  | 4 => .int
  | 5 => .int
  | 6 => .int
  | _ => .int
theorem nm_M : ∀ a, a < 8 → ∀ b, b < 8 → a ≠ b → (T_M a).2.1 ≠ (T_M b).2.1 := by decide +kernel
theorem ok_M : ∀ k, k < 8 → parseFieldDescriptor (T_M k).2.2.1 = some (t_M k) := by decide +kernel
def R_P : String := "HeatShares$Spans"
def T_P : u_T := fun k => match k with
  | 0 => ("HeatShares$Spans", "flat", "[I", true)
  | 1 => ("HeatShares$Spans", "from", "[I", true)
  | 2 => ("HeatShares$Spans", "to", "[I", true)
  | 3 => ("HeatShares$Spans", "holder", "[I", true)
  | _ => ("HeatShares$Spans", "count", "I", false)
def t_P : Nat → FieldType := fun k => match k with
  | 0 => .array .int
  | 1 => .array .int
  | 2 => .array .int
  | 3 => .array .int
  | _ => .int
theorem nm_P : ∀ a, a < 5 → ∀ b, b < 5 → a ≠ b → (T_P a).2.1 ≠ (T_P b).2.1 := by decide +kernel
theorem ok_P : ∀ k, k < 5 → parseFieldDescriptor (T_P k).2.2.1 = some (t_P k) := by decide +kernel
def R_S : String := "HeatShares$Shares"
def T_S : u_T := fun k => match k with
  | 0 => ("HeatShares$Shares", "cents", "[I", true)
  | 1 => ("HeatShares$Shares", "weight", "[J", true)
  | 2 => ("HeatShares$Shares", "divisor", "[J", true)
  | 3 => ("HeatShares$Shares", "cutOff", "[J", true)
  | _ => ("HeatShares$Shares", "allWeight", "J", false)
def t_S : Nat → FieldType := fun k => match k with
  | 0 => .array .int
  | 1 => .array .long
  | 2 => .array .long
  | 3 => .array .long
  | _ => .long
theorem nm_S : ∀ a, a < 5 → ∀ b, b < 5 → a ≠ b → (T_S a).2.1 ≠ (T_S b).2.1 := by decide +kernel
theorem ok_S : ∀ k, k < 5 → parseFieldDescriptor (T_S k).2.2.1 = some (t_S k) := by decide +kernel
def R_A : String := "HeatShares$Accounts"
def T_A : u_T := fun k => match k with
  | 0 => ("HeatShares$Accounts", "owed", "[[I", true)
  | 1 => ("HeatShares$Accounts", "latest", "[I", true)
  | 2 => ("HeatShares$Accounts", "paidBefore", "[I", true)
  | 3 => ("HeatShares$Accounts", "sentInYear", "[I", true)
  | _ => ("HeatShares$Accounts", "tenants", "I", false)
def t_A : Nat → FieldType := fun k => match k with
  | 0 => .array (.array .int)
  | 1 => .array .int
  | 2 => .array .int
  | 3 => .array .int
  | _ => .int
theorem nm_A : ∀ a, a < 5 → ∀ b, b < 5 → a ≠ b → (T_A a).2.1 ≠ (T_A b).2.1 := by decide +kernel
theorem ok_A : ∀ k, k < 5 → parseFieldDescriptor (T_A k).2.2.1 = some (t_A k) := by decide +kernel
def R_R : String := "HeatSharesModel"
def T_R : u_T := fun k => match k with
  | 0 => ("HeatSharesModel", "thrown", "I", false)
  | 1 => ("HeatSharesModel", "flats", "I", false)
  | 2 => ("HeatSharesModel", "area", "[I", true)
  | 3 => ("HeatSharesModel", "waterArea", "[I", true)
  | 4 => ("HeatSharesModel", "factor", "[I", true)
  | 5 => ("HeatSharesModel", "readings", "[I", true)
  | 6 => ("HeatSharesModel", "changes", "[I", true)
  | 7 => ("HeatSharesModel", "owner", "[I", true)
  | 8 => ("HeatSharesModel", "known", "[I", true)
  | 9 => ("HeatSharesModel", "tenants", "I", false)
  | 10 => ("HeatSharesModel", "layers", "I", false)
  | 11 => ("HeatSharesModel", "units", "[I", true)
  | 12 => ("HeatSharesModel", "cents", "[I", true)
  | 13 => ("HeatSharesModel", "stock", "I", false)
  | 14 => ("HeatSharesModel", "side", "I", false)
  | 15 => ("HeatSharesModel", "litres", "I", false)
  | 16 => ("HeatSharesModel", "gap", "I", false)
  | 17 => ("HeatSharesModel", "permille", "I", false)
  | 18 => ("HeatSharesModel", "degrees", "[I", true)
  | 19 => ("HeatSharesModel", "billed", "Z", false)
  | 20 => ("HeatSharesModel", "parts", "[I", true)
  | 21 => ("HeatSharesModel", "shares", "[I", true)
  | 22 => ("HeatSharesModel", "paid", "[I", true)
  | 23 => ("HeatSharesModel", "before", "[I", true)
  | 24 => ("HeatSharesModel", "now", "[I", true)
  | 25 => ("HeatSharesModel", "readUnits", "I", false)
  | 26 => ("HeatSharesModel", "readArea", "I", false)
  | 27 => ("HeatSharesModel", "readCount", "I", false)
  | 28 => ("HeatSharesModel", "knownUnits", "I", false)
  | 29 => ("HeatSharesModel", "nowUnits", "I", false)
  | 30 => ("HeatSharesModel", "below", "J", false)
  | 31 => ("HeatSharesModel", "told", "[J", true)
  | 32 => ("HeatSharesModel", "spans", "I", false)
  | 33 => ("HeatSharesModel", "whose", "[I", true)
  | 34 => ("HeatSharesModel", "up", "[J", true)
  | 35 => ("HeatSharesModel", "down", "[J", true)
  | 36 => ("HeatSharesModel", "given", "[I", true)
  | _ => ("HeatSharesModel", "done", "[Z", true)
def t_R : Nat → FieldType := fun k => match k with
  | 0 => .int
  | 1 => .int
  | 2 => .array .int
  | 3 => .array .int
  | 4 => .array .int
  | 5 => .array .int
  | 6 => .array .int
  | 7 => .array .int
  | 8 => .array .int
  | 9 => .int
  | 10 => .int
  | 11 => .array .int
  | 12 => .array .int
  | 13 => .int
  | 14 => .int
  | 15 => .int
  | 16 => .int
  | 17 => .int
  | 18 => .array .int
  | 19 => .boolean
  | 20 => .array .int
  | 21 => .array .int
  | 22 => .array .int
  | 23 => .array .int
  | 24 => .array .int
  | 25 => .int
  | 26 => .int
  | 27 => .int
  | 28 => .int
  | 29 => .int
  | 30 => .long
  | 31 => .array .long
  | 32 => .int
  | 33 => .array .int
  | 34 => .array .long
  | 35 => .array .long
  | 36 => .array .int
  | _ => .array .boolean
theorem nm_R : ∀ a, a < 38 → ∀ b, b < 38 → a ≠ b → (T_R a).2.1 ≠ (T_R b).2.1 := by decide +kernel
theorem ok_R : ∀ k, k < 38 → parseFieldDescriptor (T_R k).2.2.1 = some (t_R k) := by decide +kernel
def R_L : String := "HeatSharesLaw"
abbrev uCl : List vw_C := [(R_H, T_H, 13), (R_O, T_O, 2), (R_F, T_F, 7), (R_U, T_U, 4), (R_M, T_M, 8), (R_P, T_P, 5), (R_S, T_S, 5), (R_A, T_A, 5), (R_R, T_R, 38)]
def y_H_init : MethodName := ⟨R_H, "<init>", "()V"⟩
abbrev b_H_init : ByteArray := prog_1_method_1_code
def y_O_init : MethodName := ⟨R_O, "<init>", "()V"⟩
abbrev b_O_init : ByteArray := prog_5_method_1_code
def y_F_init : MethodName := ⟨R_F, "<init>", "()V"⟩
abbrev b_F_init : ByteArray := prog_3_method_1_code
def y_J_fill : MethodName := ⟨"java/util/Arrays", "fill", "([II)V"⟩
abbrev b_J_fill : ByteArray := prog_20_method_103_code
def y_U_init : MethodName := ⟨R_U, "<init>", "()V"⟩
abbrev b_U_init : ByteArray := prog_4_method_1_code
def y_M_init : MethodName := ⟨R_M, "<init>", "()V"⟩
abbrev b_M_init : ByteArray := prog_6_method_1_code
def y_P_init : MethodName := ⟨R_P, "<init>", "()V"⟩
abbrev b_P_init : ByteArray := prog_8_method_1_code
def y_S_init : MethodName := ⟨R_S, "<init>", "()V"⟩
abbrev b_S_init : ByteArray := prog_7_method_1_code
def y_A_init : MethodName := ⟨R_A, "<init>", "()V"⟩
abbrev b_A_init : ByteArray := prog_2_method_1_code
def y_H_bill : MethodName := ⟨R_H, "bill", "()I"⟩
abbrev b_H_bill : ByteArray := prog_1_method_13_code
def y_U_isBurned : MethodName := ⟨R_U, "isBurned", "()Z"⟩
abbrev b_U_isBurned : ByteArray := prog_4_method_4_code
def y_U_burnedUnits : MethodName := ⟨R_U, "burnedUnits", "()I"⟩
abbrev b_U_burnedUnits : ByteArray := prog_4_method_5_code
def y_U_allUnits : MethodName := ⟨R_U, "allUnits", "()I"⟩
abbrev b_U_allUnits : ByteArray := prog_4_method_3_code
def y_M_look : MethodName := ⟨R_M, "look", "(LHeatShares$House;)V"⟩
abbrev b_M_look : ByteArray := prog_6_method_2_code
def y_M_sumRead : MethodName := ⟨R_M, "sumRead", "(LHeatShares$House;)V"⟩
abbrev b_M_sumRead : ByteArray := prog_6_method_3_code
def y_F_isMeterRead : MethodName := ⟨R_F, "isMeterRead", "()Z"⟩
abbrev b_F_isMeterRead : ByteArray := prog_3_method_3_code
def y_F_unitsOfYear : MethodName := ⟨R_F, "unitsOfYear", "()I"⟩
abbrev b_F_unitsOfYear : ByteArray := prog_3_method_5_code
def y_F_unitsBetween : MethodName := ⟨R_F, "unitsBetween", "(II)I"⟩
abbrev b_F_unitsBetween : ByteArray := prog_3_method_4_code
def y_M_kindOf : MethodName := ⟨R_M, "kindOf", "(LHeatShares$Flat;)I"⟩
abbrev b_M_kindOf : ByteArray := prog_6_method_4_code
def y_M_scaledUnits : MethodName := ⟨R_M, "scaledUnits", "(LHeatShares$Flat;IJJ)J"⟩
abbrev b_M_scaledUnits : ByteArray := prog_6_method_5_code
def y_J_minJ : MethodName := ⟨"java/lang/Math", "min", "(JJ)J"⟩
abbrev b_J_minJ : ByteArray := prog_15_method_70_code
def y_P_lay : MethodName := ⟨R_P, "lay", "(LHeatShares$House;)V"⟩
abbrev b_P_lay : ByteArray := prog_8_method_2_code
def y_P_layFlat : MethodName := ⟨R_P, "layFlat", "(ILHeatShares$Flat;)V"⟩
abbrev b_P_layFlat : ByteArray := prog_8_method_3_code
def y_F_hasChange : MethodName := ⟨R_F, "hasChange", "(I)Z"⟩
abbrev b_F_hasChange : ByteArray := prog_3_method_2_code
def y_P_addSpan : MethodName := ⟨R_P, "addSpan", "(IIII)V"⟩
abbrev b_P_addSpan : ByteArray := prog_8_method_4_code
def y_M_areFitFor : MethodName := ⟨R_M, "areFitFor", "(LHeatShares$House;)Z"⟩
abbrev b_M_areFitFor : ByteArray := prog_6_method_6_code
def y_O_allArea : MethodName := ⟨R_O, "allArea", "()I"⟩
abbrev b_O_allArea : ByteArray := prog_5_method_3_code
def y_P_cutStretches : MethodName := ⟨R_P, "cutStretches", "(LHeatShares$House;LHeatShares$Meters;)Z"⟩
abbrev b_P_cutStretches : ByteArray := prog_8_method_6_code
def y_M_endsStretch : MethodName := ⟨R_M, "endsStretch", "(LHeatShares$Flat;II)Z"⟩
abbrev b_M_endsStretch : ByteArray := prog_6_method_8_code
def y_H_hasDegreesOfYear : MethodName := ⟨R_H, "hasDegreesOfYear", "()Z"⟩
abbrev b_H_hasDegreesOfYear : ByteArray := prog_1_method_28_code
def y_H_setBillParts : MethodName := ⟨R_H, "setBillParts", "()V"⟩
abbrev b_H_setBillParts : ByteArray := prog_1_method_29_code
def y_U_burnedCents : MethodName := ⟨R_U, "burnedCents", "()I"⟩
abbrev b_U_burnedCents : ByteArray := prog_4_method_6_code
def y_U_stockCents : MethodName := ⟨R_U, "stockCents", "(I)I"⟩
abbrev b_U_stockCents : ByteArray := prog_4_method_8_code
def y_U_stockUnits : MethodName := ⟨R_U, "stockUnits", "(I)I"⟩
abbrev b_U_stockUnits : ByteArray := prog_4_method_7_code
def y_J_minI : MethodName := ⟨"java/lang/Math", "min", "(II)I"⟩
abbrev b_J_minI : ByteArray := prog_15_method_69_code
def y_J_maxI : MethodName := ⟨"java/lang/Math", "max", "(II)I"⟩
abbrev b_J_maxI : ByteArray := prog_15_method_65_code
def y_H_waterUnits : MethodName := ⟨R_H, "waterUnits", "(I)I"⟩
abbrev b_H_waterUnits : ByteArray := prog_1_method_30_code
def y_H_shareParts : MethodName := ⟨R_H, "shareParts", "(Z)V"⟩
abbrev b_H_shareParts : ByteArray := prog_1_method_31_code
def y_A_clearOwed : MethodName := ⟨R_A, "clearOwed", "()V"⟩
abbrev b_A_clearOwed : ByteArray := prog_2_method_3_code
def y_S_weighByArea : MethodName := ⟨R_S, "weighByArea", "(LHeatShares$House;LHeatShares$Spans;)V"⟩
abbrev b_S_weighByArea : ByteArray := prog_7_method_2_code
def y_P_months : MethodName := ⟨R_P, "months", "(I)I"⟩
abbrev b_P_months : ByteArray := prog_8_method_5_code
def y_S_setWhole : MethodName := ⟨R_S, "setWhole", "(II)V"⟩
abbrev b_S_setWhole : ByteArray := prog_7_method_4_code
def y_H_sharePart : MethodName := ⟨R_H, "sharePart", "(II)V"⟩
abbrev b_H_sharePart : ByteArray := prog_1_method_32_code
def y_S_split : MethodName := ⟨R_S, "split", "(II)V"⟩
abbrev b_S_split : ByteArray := prog_7_method_8_code
def y_S_roundDown : MethodName := ⟨R_S, "roundDown", "(II)V"⟩
abbrev b_S_roundDown : ByteArray := prog_7_method_9_code
def y_S_greatestCutOff : MethodName := ⟨R_S, "greatestCutOff", "(I)I"⟩
abbrev b_S_greatestCutOff : ByteArray := prog_7_method_10_code
def y_O_hasWaterArea : MethodName := ⟨R_O, "hasWaterArea", "()Z"⟩
abbrev b_O_hasWaterArea : ByteArray := prog_5_method_4_code
def y_S_weighByWaterArea : MethodName := ⟨R_S, "weighByWaterArea", "(LHeatShares$House;LHeatShares$Spans;)V"⟩
abbrev b_S_weighByWaterArea : ByteArray := prog_7_method_3_code
def y_S_weighByMeters : MethodName := ⟨R_S, "weighByMeters", "(LHeatShares$House;LHeatShares$Spans;LHeatShares$Meters;[I)V"⟩
abbrev b_S_weighByMeters : ByteArray := prog_7_method_5_code
def y_M_stretchUnits : MethodName := ⟨R_M, "stretchUnits", "(LHeatShares$Flat;III)J"⟩
abbrev b_M_stretchUnits : ByteArray := prog_6_method_9_code
def y_S_addStretch : MethodName := ⟨R_S, "addStretch", "(LHeatShares$Spans;IIIJ[I)V"⟩
abbrev b_S_addStretch : ByteArray := prog_7_method_6_code
def y_S_sumBetween : MethodName := ⟨R_S, "sumBetween", "([III)I"⟩
abbrev b_S_sumBetween : ByteArray := prog_7_method_7_code
def y_L_flat : MethodName := ⟨R_L, "flat", "(LHeatShares;III[J)I"⟩
abbrev b_L_flat : ByteArray := method_3_code
def y_H_flat : MethodName := ⟨R_H, "flat", "(III)I"⟩
abbrev b_H_flat : ByteArray := prog_1_method_2_code
def y_H_isOutside : MethodName := ⟨R_H, "isOutside", "(III)Z"⟩
abbrev b_H_isOutside : ByteArray := prog_1_method_22_code
def y_O_addFlat : MethodName := ⟨R_O, "addFlat", "(III)I"⟩
abbrev b_O_addFlat : ByteArray := prog_5_method_2_code
def y_L_reading : MethodName := ⟨R_L, "reading", "(LHeatShares;III)I"⟩
abbrev b_L_reading : ByteArray := method_4_code
def y_H_reading : MethodName := ⟨R_H, "reading", "(III)V"⟩
abbrev b_H_reading : ByteArray := prog_1_method_3_code
def y_H_needFlat : MethodName := ⟨R_H, "needFlat", "(I)V"⟩
abbrev b_H_needFlat : ByteArray := prog_1_method_23_code
def y_L_enter : MethodName := ⟨R_L, "enter", "(LHeatShares;II[J)I"⟩
abbrev b_L_enter : ByteArray := method_5_code
def y_H_enter : MethodName := ⟨R_H, "enter", "(II)I"⟩
abbrev b_H_enter : ByteArray := prog_1_method_4_code
def y_H_needRoomForChange : MethodName := ⟨R_H, "needRoomForChange", "(II)V"⟩
abbrev b_H_needRoomForChange : ByteArray := prog_1_method_24_code
def y_A_addTenant : MethodName := ⟨R_A, "addTenant", "()I"⟩
abbrev b_A_addTenant : ByteArray := prog_2_method_2_code
def y_L_leave : MethodName := ⟨R_L, "leave", "(LHeatShares;II)I"⟩
abbrev b_L_leave : ByteArray := method_6_code
def y_H_leave : MethodName := ⟨R_H, "leave", "(II)V"⟩
abbrev b_H_leave : ByteArray := prog_1_method_5_code
def y_L_deliver : MethodName := ⟨R_L, "deliver", "(LHeatShares;II)I"⟩
abbrev b_L_deliver : ByteArray := method_7_code
def y_H_deliver : MethodName := ⟨R_H, "deliver", "(II)V"⟩
abbrev b_H_deliver : ByteArray := prog_1_method_6_code
def y_U_addLayer : MethodName := ⟨R_U, "addLayer", "(II)V"⟩
abbrev b_U_addLayer : ByteArray := prog_4_method_2_code
def y_L_endStock : MethodName := ⟨R_L, "endStock", "(LHeatShares;I)I"⟩
abbrev b_L_endStock : ByteArray := method_8_code
def y_H_endStock : MethodName := ⟨R_H, "endStock", "(I)V"⟩
abbrev b_H_endStock : ByteArray := prog_1_method_7_code
def y_L_sideCosts : MethodName := ⟨R_L, "sideCosts", "(LHeatShares;I)I"⟩
abbrev b_L_sideCosts : ByteArray := method_9_code
def y_H_sideCosts : MethodName := ⟨R_H, "sideCosts", "(I)V"⟩
abbrev b_H_sideCosts : ByteArray := prog_1_method_8_code
def y_L_water : MethodName := ⟨R_L, "water", "(LHeatShares;II)I"⟩
abbrev b_L_water : ByteArray := method_10_code
def y_H_water : MethodName := ⟨R_H, "water", "(II)V"⟩
abbrev b_H_water : ByteArray := prog_1_method_9_code
def y_L_permille : MethodName := ⟨R_L, "permille", "(LHeatShares;I)I"⟩
abbrev b_L_permille : ByteArray := method_11_code
def y_H_permille : MethodName := ⟨R_H, "permille", "(I)V"⟩
abbrev b_H_permille : ByteArray := prog_1_method_10_code
def y_L_degrees : MethodName := ⟨R_L, "degrees", "(LHeatShares;II)I"⟩
abbrev b_L_degrees : ByteArray := method_12_code
def y_H_degrees : MethodName := ⟨R_H, "degrees", "(II)V"⟩
abbrev b_H_degrees : ByteArray := prog_1_method_11_code
def y_L_prepay : MethodName := ⟨R_L, "prepay", "(LHeatShares;II)I"⟩
abbrev b_L_prepay : ByteArray := method_13_code
def y_H_prepay : MethodName := ⟨R_H, "prepay", "(II)V"⟩
abbrev b_H_prepay : ByteArray := prog_1_method_12_code
def y_H_needTenant : MethodName := ⟨R_H, "needTenant", "(I)V"⟩
abbrev b_H_needTenant : ByteArray := prog_1_method_25_code
def y_L_amount : MethodName := ⟨R_L, "amount", "(LHeatShares;II[J)I"⟩
abbrev b_L_amount : ByteArray := method_14_code
def y_H_amount : MethodName := ⟨R_H, "amount", "(II)I"⟩
abbrev b_H_amount : ByteArray := prog_1_method_14_code
def y_H_needBill : MethodName := ⟨R_H, "needBill", "()V"⟩
abbrev b_H_needBill : ByteArray := prog_1_method_27_code
def y_H_needTenantOrLandlord : MethodName := ⟨R_H, "needTenantOrLandlord", "(I)V"⟩
abbrev b_H_needTenantOrLandlord : ByteArray := prog_1_method_26_code
def y_A_owedInAll : MethodName := ⟨R_A, "owedInAll", "(I)I"⟩
abbrev b_A_owedInAll : ByteArray := prog_2_method_4_code
def y_L_paid : MethodName := ⟨R_L, "paid", "(LHeatShares;I[J)I"⟩
abbrev b_L_paid : ByteArray := method_15_code
def y_H_paid : MethodName := ⟨R_H, "paid", "(I)I"⟩
abbrev b_H_paid : ByteArray := prog_1_method_15_code
def y_L_part : MethodName := ⟨R_L, "part", "(LHeatShares;I[J)I"⟩
abbrev b_L_part : ByteArray := method_16_code
def y_H_part : MethodName := ⟨R_H, "part", "(I)I"⟩
abbrev b_H_part : ByteArray := prog_1_method_16_code
def y_L_replaced : MethodName := ⟨R_L, "replaced", "(LHeatShares;I[J)I"⟩
abbrev b_L_replaced : ByteArray := method_17_code
def y_H_replaced : MethodName := ⟨R_H, "replaced", "(I)I"⟩
abbrev b_H_replaced : ByteArray := prog_1_method_17_code
def y_L_send : MethodName := ⟨R_L, "send", "(LHeatShares;[J)I"⟩
abbrev b_L_send : ByteArray := method_18_code
def y_H_send : MethodName := ⟨R_H, "send", "()I"⟩
abbrev b_H_send : ByteArray := prog_1_method_18_code
def y_A_post : MethodName := ⟨R_A, "post", "()I"⟩
abbrev b_A_post : ByteArray := prog_2_method_5_code
def y_L_sent : MethodName := ⟨R_L, "sent", "(LHeatShares;I[J)I"⟩
abbrev b_L_sent : ByteArray := method_19_code
def y_H_sent : MethodName := ⟨R_H, "sent", "(I)I"⟩
abbrev b_H_sent : ByteArray := prog_1_method_19_code
def y_L_closeYear : MethodName := ⟨R_L, "closeYear", "(LHeatShares;[J)I"⟩
abbrev b_L_closeYear : ByteArray := method_20_code
def y_H_closeYear : MethodName := ⟨R_H, "closeYear", "()I"⟩
abbrev b_H_closeYear : ByteArray := prog_1_method_20_code
def y_A_startYear : MethodName := ⟨R_A, "startYear", "()V"⟩
abbrev b_A_startYear : ByteArray := prog_2_method_6_code
def y_M_wholeUnits : MethodName := ⟨R_M, "wholeUnits", "(I)I"⟩
abbrev b_M_wholeUnits : ByteArray := prog_6_method_7_code
def y_F_startYear : MethodName := ⟨R_F, "startYear", "(I)V"⟩
abbrev b_F_startYear : ByteArray := prog_3_method_7_code
def y_F_holderAtEnd : MethodName := ⟨R_F, "holderAtEnd", "()I"⟩
abbrev b_F_holderAtEnd : ByteArray := prog_3_method_6_code
def y_U_keepStock : MethodName := ⟨R_U, "keepStock", "()V"⟩
abbrev b_U_keepStock : ByteArray := prog_4_method_9_code
def y_L_known : MethodName := ⟨R_L, "known", "(LHeatShares;I[J)I"⟩
abbrev b_L_known : ByteArray := method_21_code
def y_H_known : MethodName := ⟨R_H, "known", "(I)I"⟩
abbrev b_H_known : ByteArray := prog_1_method_21_code
def y_R_init : MethodName := ⟨R_R, "<init>", "()V"⟩
abbrev b_R_init : ByteArray := prog_10_method_1_code
def y_R_thrown : MethodName := ⟨R_R, "thrown", "()I"⟩
abbrev b_R_thrown : ByteArray := prog_10_method_2_code
def y_R_flat : MethodName := ⟨R_R, "flat", "(III)I"⟩
abbrev b_R_flat : ByteArray := prog_10_method_6_code
def y_R_within : MethodName := ⟨R_R, "within", "(III)Z"⟩
abbrev b_R_within : ByteArray := prog_10_method_3_code
def y_R_reading : MethodName := ⟨R_R, "reading", "(III)V"⟩
abbrev b_R_reading : ByteArray := prog_10_method_7_code
def y_R_isFlat : MethodName := ⟨R_R, "isFlat", "(I)Z"⟩
abbrev b_R_isFlat : ByteArray := prog_10_method_4_code
def y_R_enter : MethodName := ⟨R_R, "enter", "(II)I"⟩
abbrev b_R_enter : ByteArray := prog_10_method_9_code
def y_R_wrongChange : MethodName := ⟨R_R, "wrongChange", "(II)I"⟩
abbrev b_R_wrongChange : ByteArray := prog_10_method_8_code
def y_R_leave : MethodName := ⟨R_R, "leave", "(II)V"⟩
abbrev b_R_leave : ByteArray := prog_10_method_10_code
def y_R_deliver : MethodName := ⟨R_R, "deliver", "(II)V"⟩
abbrev b_R_deliver : ByteArray := prog_10_method_11_code
def y_R_endStock : MethodName := ⟨R_R, "endStock", "(I)V"⟩
abbrev b_R_endStock : ByteArray := prog_10_method_13_code
def y_R_allUnits : MethodName := ⟨R_R, "allUnits", "()I"⟩
abbrev b_R_allUnits : ByteArray := prog_10_method_12_code
def y_R_sideCosts : MethodName := ⟨R_R, "sideCosts", "(I)V"⟩
abbrev b_R_sideCosts : ByteArray := prog_10_method_14_code
def y_R_water : MethodName := ⟨R_R, "water", "(II)V"⟩
abbrev b_R_water : ByteArray := prog_10_method_15_code
def y_R_permille : MethodName := ⟨R_R, "permille", "(I)V"⟩
abbrev b_R_permille : ByteArray := prog_10_method_16_code
def y_R_degrees : MethodName := ⟨R_R, "degrees", "(II)V"⟩
abbrev b_R_degrees : ByteArray := prog_10_method_17_code
def y_R_prepay : MethodName := ⟨R_R, "prepay", "(II)V"⟩
abbrev b_R_prepay : ByteArray := prog_10_method_18_code
def y_R_isTenant : MethodName := ⟨R_R, "isTenant", "(I)Z"⟩
abbrev b_R_isTenant : ByteArray := prog_10_method_5_code
def y_R_paid : MethodName := ⟨R_R, "paid", "(I)I"⟩
abbrev b_R_paid : ByteArray := prog_10_method_19_code
def y_R_replaced : MethodName := ⟨R_R, "replaced", "(I)I"⟩
abbrev b_R_replaced : ByteArray := prog_10_method_24_code
def y_R_look : MethodName := ⟨R_R, "look", "()V"⟩
abbrev b_R_look : ByteArray := prog_10_method_23_code
def y_R_isRead : MethodName := ⟨R_R, "isRead", "(I)Z"⟩
abbrev b_R_isRead : ByteArray := prog_10_method_20_code
def y_R_measured : MethodName := ⟨R_R, "measured", "(I)I"⟩
abbrev b_R_measured : ByteArray := prog_10_method_21_code
def y_R_kindOf : MethodName := ⟨R_R, "kindOf", "(I)I"⟩
abbrev b_R_kindOf : ByteArray := prog_10_method_22_code
def y_R_bill : MethodName := ⟨R_R, "bill", "()I"⟩
abbrev b_R_bill : ByteArray := prog_10_method_42_code
def y_R_isByArea : MethodName := ⟨R_R, "isByArea", "()Z"⟩
abbrev b_R_isByArea : ByteArray := prog_10_method_40_code
def y_R_needsDegrees : MethodName := ⟨R_R, "needsDegrees", "()Z"⟩
abbrev b_R_needsDegrees : ByteArray := prog_10_method_41_code
def y_R_changeAt : MethodName := ⟨R_R, "changeAt", "(II)I"⟩
abbrev b_R_changeAt : ByteArray := prog_10_method_28_code
def y_R_stretchOf : MethodName := ⟨R_R, "stretchOf", "(IIZ)I"⟩
abbrev b_R_stretchOf : ByteArray := prog_10_method_33_code
def y_R_degreesOf : MethodName := ⟨R_R, "degreesOf", "(II)I"⟩
abbrev b_R_degreesOf : ByteArray := prog_10_method_34_code
def y_R_findParts : MethodName := ⟨R_R, "findParts", "()V"⟩
abbrev b_R_findParts : ByteArray := prog_10_method_27_code
def y_R_centsInStock : MethodName := ⟨R_R, "centsInStock", "(I)I"⟩
abbrev b_R_centsInStock : ByteArray := prog_10_method_26_code
def y_R_inStock : MethodName := ⟨R_R, "inStock", "(I)I"⟩
abbrev b_R_inStock : ByteArray := prog_10_method_25_code
def y_R_share : MethodName := ⟨R_R, "share", "(IIZ)V"⟩
abbrev b_R_share : ByteArray := prog_10_method_39_code
def y_R_spansBy : MethodName := ⟨R_R, "spansBy", "(IJII)V"⟩
abbrev b_R_spansBy : ByteArray := prog_10_method_32_code
def y_R_holderAt : MethodName := ⟨R_R, "holderAt", "(II)I"⟩
abbrev b_R_holderAt : ByteArray := prog_10_method_30_code
def y_R_endOf : MethodName := ⟨R_R, "endOf", "(II)I"⟩
abbrev b_R_endOf : ByteArray := prog_10_method_29_code
def y_R_span : MethodName := ⟨R_R, "span", "(IJJ)V"⟩
abbrev b_R_span : ByteArray := prog_10_method_31_code
def y_R_spanByMeter : MethodName := ⟨R_R, "spanByMeter", "(IIIJJ)V"⟩
abbrev b_R_spanByMeter : ByteArray := prog_10_method_36_code
def y_R_weight : MethodName := ⟨R_R, "weight", "(IIII)I"⟩
abbrev b_R_weight : ByteArray := prog_10_method_35_code
def y_R_handOut : MethodName := ⟨R_R, "handOut", "(II)V"⟩
abbrev b_R_handOut : ByteArray := prog_10_method_38_code
def y_R_isMore : MethodName := ⟨R_R, "isMore", "(JJJJ)Z"⟩
abbrev b_R_isMore : ByteArray := prog_10_method_37_code
def y_R_amount : MethodName := ⟨R_R, "amount", "(II)I"⟩
abbrev b_R_amount : ByteArray := prog_10_method_44_code
def y_R_sumOf : MethodName := ⟨R_R, "sumOf", "(I)I"⟩
abbrev b_R_sumOf : ByteArray := prog_10_method_43_code
def y_R_part : MethodName := ⟨R_R, "part", "(I)I"⟩
abbrev b_R_part : ByteArray := prog_10_method_45_code
def y_R_send : MethodName := ⟨R_R, "send", "()I"⟩
abbrev b_R_send : ByteArray := prog_10_method_47_code
def y_R_sendAll : MethodName := ⟨R_R, "sendAll", "()I"⟩
abbrev b_R_sendAll : ByteArray := prog_10_method_46_code
def y_R_sent : MethodName := ⟨R_R, "sent", "(I)I"⟩
abbrev b_R_sent : ByteArray := prog_10_method_48_code
def y_R_closeYear : MethodName := ⟨R_R, "closeYear", "()I"⟩
abbrev b_R_closeYear : ByteArray := prog_10_method_51_code
def y_R_keepStock : MethodName := ⟨R_R, "keepStock", "()V"⟩
abbrev b_R_keepStock : ByteArray := prog_10_method_49_code
def y_R_nextYear : MethodName := ⟨R_R, "nextYear", "(I)V"⟩
abbrev b_R_nextYear : ByteArray := prog_10_method_50_code
def y_R_known : MethodName := ⟨R_R, "known", "(I)I"⟩
abbrev b_R_known : ByteArray := prog_10_method_52_code
/-! The universe: all objects that the law and the two classes make, by tag and number. -/
def cntT (t : Nat) : Nat := match t with
  | 1 => 1
  | 2 => 1
  | 3 => 1
  | 4 => 6
  | 5 => 6
  | 6 => 6
  | 7 => 1
  | 8 => 1
  | 9 => 1
  | 10 => 1
  | 11 => 1
  | 12 => 1
  | 13 => 1
  | 14 => 1
  | 15 => 1
  | 16 => 1
  | 17 => 1
  | 18 => 1
  | 19 => 1
  | 20 => 1
  | 21 => 1
  | 22 => 1
  | 23 => 1
  | 24 => 1
  | 25 => 3
  | 26 => 1
  | 27 => 1
  | 28 => 1
  | 29 => 1
  | 30 => 1
  | 40 => 1
  | 41 => 1
  | 42 => 1
  | 43 => 1
  | 44 => 1
  | 45 => 1
  | 46 => 1
  | 47 => 1
  | 48 => 1
  | 49 => 1
  | 50 => 1
  | 51 => 1
  | 52 => 1
  | 53 => 1
  | 54 => 1
  | 55 => 1
  | 56 => 1
  | 57 => 1
  | 58 => 1
  | 59 => 1
  | 60 => 1
  | 61 => 1
  | 70 => 1
  | _ => 0
def kdT (t : Nat) : Nat := match t with
  | 3 => 4
  | 5 => 1
  | 6 => 1
  | 8 => 1
  | 9 => 1
  | 11 => 1
  | 12 => 2
  | 14 => 1
  | 15 => 1
  | 16 => 1
  | 17 => 1
  | 19 => 1
  | 20 => 2
  | 21 => 2
  | 22 => 2
  | 24 => 5
  | 25 => 1
  | 26 => 1
  | 27 => 1
  | 28 => 1
  | 29 => 1
  | 30 => 1
  | 41 => 1
  | 42 => 1
  | 43 => 1
  | 44 => 1
  | 45 => 1
  | 46 => 1
  | 47 => 1
  | 48 => 1
  | 49 => 1
  | 50 => 1
  | 51 => 1
  | 52 => 1
  | 53 => 1
  | 54 => 1
  | 55 => 1
  | 56 => 2
  | 57 => 1
  | 58 => 2
  | 59 => 2
  | 60 => 1
  | 61 => 3
  | 70 => 2
  | _ => 0
def lnT (t : Nat) : Nat := match t with
  | 3 => 6
  | 5 => 13
  | 6 => 12
  | 8 => 12
  | 9 => 12
  | 11 => 6
  | 12 => 6
  | 14 => 72
  | 15 => 72
  | 16 => 72
  | 17 => 72
  | 19 => 72
  | 20 => 72
  | 21 => 72
  | 22 => 72
  | 24 => 3
  | 25 => 21
  | 26 => 21
  | 27 => 20
  | 28 => 21
  | 29 => 12
  | 30 => 5
  | 41 => 6
  | 42 => 6
  | 43 => 6
  | 44 => 78
  | 45 => 72
  | 46 => 6
  | 47 => 6
  | 48 => 12
  | 49 => 12
  | 50 => 12
  | 51 => 5
  | 52 => 63
  | 53 => 20
  | 54 => 21
  | 55 => 21
  | 56 => 6
  | 57 => 72
  | 58 => 72
  | 59 => 72
  | 60 => 72
  | 61 => 72
  | 70 => 1
  | _ => 0
def clT (t : Nat) : Nat := match t with
  | 1 => 0
  | 2 => 1
  | 4 => 2
  | 7 => 3
  | 10 => 4
  | 13 => 5
  | 18 => 6
  | 23 => 7
  | 40 => 8
  | _ => 9999
def nfT (t : Nat) : Nat := match t with
  | 1 => 13
  | 2 => 2
  | 4 => 7
  | 7 => 4
  | 10 => 8
  | 13 => 5
  | 18 => 5
  | 23 => 5
  | 40 => 38
  | _ => 0
def ftT (t j : Nat) : Nat := match t with
  | 1 => match j with
    | 0 => 2
    | 1 => 2
    | 2 => 2
    | 3 => 2
    | 4 => 2
    | 5 => 2
    | 6 => 2
    | 7 => 2
    | _ => 0
  | 2 => match j with
    | 0 => 2
    | _ => 0
  | 3 => 2
  | 4 => match j with
    | 5 => 2
    | 6 => 2
    | _ => 0
  | 7 => match j with
    | 0 => 2
    | 1 => 2
    | _ => 0
  | 10 => match j with
    | 0 => 2
    | 1 => 2
    | 2 => 1
    | 3 => 1
    | _ => 0
  | 12 => 1
  | 13 => match j with
    | 0 => 2
    | 1 => 2
    | 2 => 2
    | 3 => 2
    | _ => 0
  | 18 => match j with
    | 0 => 2
    | 1 => 2
    | 2 => 2
    | 3 => 2
    | 4 => 1
    | _ => 0
  | 20 => 1
  | 21 => 1
  | 22 => 1
  | 23 => match j with
    | 0 => 2
    | 1 => 2
    | 2 => 2
    | 3 => 2
    | _ => 0
  | 24 => 2
  | 40 => match j with
    | 2 => 2
    | 3 => 2
    | 4 => 2
    | 5 => 2
    | 6 => 2
    | 7 => 2
    | 8 => 2
    | 11 => 2
    | 12 => 2
    | 18 => 2
    | 20 => 2
    | 21 => 2
    | 22 => 2
    | 23 => 2
    | 24 => 2
    | 30 => 1
    | 31 => 2
    | 33 => 2
    | 34 => 2
    | 35 => 2
    | 36 => 2
    | 37 => 2
    | _ => 0
  | 56 => 1
  | 58 => 1
  | 59 => 1
  | 70 => 1
  | _ => 0
def rfT (t i j : Nat) : Nat × Nat := match t with
  | 1 => match j with
    | 0 => (2, 0)
    | 1 => (7, 0)
    | 2 => (10, 0)
    | 3 => (13, 0)
    | 4 => (18, 0)
    | 5 => (23, 0)
    | 6 => (29, 0)
    | 7 => (30, 0)
    | _ => (0, 0)
  | 2 => match j with
    | 0 => (3, 0)
    | _ => (0, 0)
  | 3 => (4, j)
  | 4 => match j with
    | 5 => (5, i)
    | 6 => (6, i)
    | _ => (0, 0)
  | 7 => match j with
    | 0 => (8, 0)
    | 1 => (9, 0)
    | _ => (0, 0)
  | 10 => match j with
    | 0 => (11, 0)
    | 1 => (12, 0)
    | _ => (0, 0)
  | 13 => match j with
    | 0 => (14, 0)
    | 1 => (15, 0)
    | 2 => (16, 0)
    | 3 => (17, 0)
    | _ => (0, 0)
  | 18 => match j with
    | 0 => (19, 0)
    | 1 => (20, 0)
    | 2 => (21, 0)
    | 3 => (22, 0)
    | _ => (0, 0)
  | 23 => match j with
    | 0 => (24, 0)
    | 1 => (26, 0)
    | 2 => (27, 0)
    | 3 => (28, 0)
    | _ => (0, 0)
  | 24 => (25, j)
  | 40 => match j with
    | 2 => (41, 0)
    | 3 => (42, 0)
    | 4 => (43, 0)
    | 5 => (44, 0)
    | 6 => (45, 0)
    | 7 => (46, 0)
    | 8 => (47, 0)
    | 11 => (48, 0)
    | 12 => (49, 0)
    | 18 => (50, 0)
    | 20 => (51, 0)
    | 21 => (52, 0)
    | 22 => (53, 0)
    | 23 => (54, 0)
    | 24 => (55, 0)
    | 31 => (56, 0)
    | 33 => (57, 0)
    | 34 => (58, 0)
    | 35 => (59, 0)
    | 36 => (60, 0)
    | 37 => (61, 0)
    | _ => (0, 0)
  | _ => (0, 0)
/-! The words that every method has at hand: those of the tables that stay true. -/
def GW : List Cond := lw_tbl.filter goodWord
theorem GWgood : ∀ k ∈ GW, (k.onTables && k.keeps) = true ∨ ∃ ty, k = .arrayClass ty := fun _ hk => good_of_word (List.mem_filter.mp hk).2
theorem gwT (i : Nat) {k : Cond} (h : tables_1[i]? = some k) (hg : goodWord k = true) : k ∈ GW := List.mem_filter.mpr ⟨List.mem_append_right _ (List.mem_of_getElem? h), hg⟩
theorem gwS (i : Nat) {k : Cond} (h : (k2_sels lw_privs)[i]? = some k) (hg : goodWord k = true) : k ∈ GW := List.mem_filter.mpr ⟨List.mem_append_left _ (List.mem_of_getElem? h), hg⟩
theorem in_of (ws : List Cond) (ps : List Nat) (h : ws = ps.filterMap (fun i => tables_1[i]?)) (hg : ws.all goodWord = true) : ∀ k ∈ ws, k ∈ GW := fun k hk => by
  have h1 := List.all_eq_true.mp hg k hk
  rw [h] at hk
  obtain ⟨i, -, hi⟩ := List.mem_filterMap.mp hk
  exact gwT i hi h1
set_option maxRecDepth 20000 in
theorem in_H : ∀ k ∈ u_ws R_H T_H 13, k ∈ GW := in_of _ [240, 242, 244, 246, 248, 250, 252, 254, 256, 258, 260, 262, 264] (by decide +kernel) (by decide +kernel)
set_option maxRecDepth 20000 in
theorem in_O : ∀ k ∈ u_ws R_O T_O 2, k ∈ GW := in_of _ [88, 90] (by decide +kernel) (by decide +kernel)
set_option maxRecDepth 20000 in
theorem in_F : ∀ k ∈ u_ws R_F T_F 7, k ∈ GW := in_of _ [63, 65, 67, 69, 71, 73, 75] (by decide +kernel) (by decide +kernel)
set_option maxRecDepth 20000 in
theorem in_U : ∀ k ∈ u_ws R_U T_U 4, k ∈ GW := in_of _ [105, 107, 109, 111] (by decide +kernel) (by decide +kernel)
set_option maxRecDepth 20000 in
theorem in_M : ∀ k ∈ u_ws R_M T_M 8, k ∈ GW := in_of _ [130, 132, 134, 136, 138, 140, 142, 144] (by decide +kernel) (by decide +kernel)
set_option maxRecDepth 20000 in
theorem in_P : ∀ k ∈ u_ws R_P T_P 5, k ∈ GW := in_of _ [165, 167, 169, 171, 173] (by decide +kernel) (by decide +kernel)
set_option maxRecDepth 20000 in
theorem in_S : ∀ k ∈ u_ws R_S T_S 5, k ∈ GW := in_of _ [188, 190, 192, 194, 196] (by decide +kernel) (by decide +kernel)
set_option maxRecDepth 20000 in
theorem in_A : ∀ k ∈ u_ws R_A T_A 5, k ∈ GW := in_of _ [216, 218, 220, 222, 224] (by decide +kernel) (by decide +kernel)
set_option maxRecDepth 20000 in
theorem in_R : ∀ k ∈ u_ws R_R T_R 38, k ∈ GW := in_of _ [827, 829, 831, 833, 835, 837, 839, 841, 843, 845, 847, 849, 851, 853, 855, 857, 859, 861, 863, 865, 867, 869, 871, 873, 875, 877, 879, 881, 883, 885, 887, 889, 891, 893, 895, 897, 899, 901] (by decide +kernel) (by decide +kernel)
def strL : List (String × Nat × String) := [("HeatShares", 81, "area, water area or factor"), ("HeatShares", 91, "six flats"), ("HeatShares", 238, "flat"), ("HeatShares", 104, "time"), ("HeatShares", 107, "value"), ("HeatShares", 246, "a change at that time"), ("HeatShares", 125, "twenty tenants"), ("HeatShares", 134, "units or cents"), ("HeatShares", 139, "twelve layers"), ("HeatShares", 147, "units"), ("HeatShares", 152, "cents"), ("HeatShares", 155, "litres or gap"), ("HeatShares", 157, "permille"), ("HeatShares", 159, "month"), ("HeatShares", 161, "degrees"), ("HeatShares", 249, "tenant"), ("HeatShares", 251, "no bill"), ("HeatShares", 205, "what")]
end
section
/-! Abstract values: an int, a long, an object of the universe (tag, number), any other reference. -/
abbrev AV : Type := Int ⊕ Int ⊕ (Nat × Nat) ⊕ Nat
abbrev vI (n : Int) : AV := Sum.inl n
abbrev vL (n : Int) : AV := Sum.inr (Sum.inl n)
abbrev vO (t i : Nat) : AV := Sum.inr (Sum.inr (Sum.inl (t, i)))
abbrev vX (a : Nat) : AV := Sum.inr (Sum.inr (Sum.inr a))
/-- the universe's numbers: tag, number, slot -/
abbrev AH : Type := Nat → Nat → Nat → Int
/-- a world: addresses; class numbers and slots; array classes -/
abbrev XW : Type := (Nat → Nat → Nat) × va_G × (Nat → ClassId)
def cV (w : XW) (v : AV) : Value := match v with
  | .inl n => .int (Int32.ofInt n)
  | .inr (.inl n) => .long (Int64.ofInt n)
  | .inr (.inr (.inl o)) => .ref (w.1 o.1 o.2)
  | .inr (.inr (.inr a)) => .ref a
def isL (v : AV) : Bool := match v with
  | .inr (.inl _) => true
  | _ => false
theorem cV_cat (w : XW) (v : AV) : ((cV w v).category == 2) = isL v := by
  rcases v with n | n | o | a <;> rfl
theorem cV_cat1 (w : XW) (v : AV) (h : isL v = false) : (cV w v).category = 1 := by
  rcases v with n | n | o | a <;> first | rfl | cases h
abbrev okI (n : Int) : Prop := -2147483648 ≤ n ∧ n ≤ 2147483647
abbrev okJ (n : Int) : Prop := -9223372036854775808 ≤ n ∧ n ≤ 9223372036854775807
def okV (v : AV) : Prop := match v with
  | .inl n => okI n
  | .inr (.inl n) => okJ n
  | .inr (.inr (.inl o)) => o.2 < cntT o.1
  | .inr (.inr (.inr _)) => True
def okS (st : List AV) : Prop := match st with
  | [] => True
  | v :: st => okV v ∧ okS st
def okL (lv : List (Nat × AV)) : Prop := match lv with
  | [] => True
  | q :: lv => okV q.2 ∧ okL lv
theorem okL_mem {lv : List (Nat × AV)} (h : okL lv) : ∀ q ∈ lv, okV q.2 := by
  induction lv with
  | nil => intro q hq; cases hq
  | cons a l ih =>
    intro q hq
    rcases List.mem_cons.mp hq with e | e
    · subst e; exact h.1
    · exact ih h.2 q e
theorem okL_of {lv : List (Nat × AV)} (h : ∀ q ∈ lv, okV q.2) : okL lv := by
  induction lv with
  | nil => trivial
  | cons a l ih => exact ⟨h a List.mem_cons_self, ih fun q hq => h q (List.mem_cons_of_mem _ hq)⟩
theorem okS_mem {st : List AV} (h : okS st) : ∀ v ∈ st, okV v := by
  induction st with
  | nil => intro q hq; cases hq
  | cons a l ih =>
    intro q hq
    rcases List.mem_cons.mp hq with e | e
    · subst e; exact h.1
    · exact ih h.2 q e
theorem okS_of {st : List AV} (h : ∀ v ∈ st, okV v) : okS st := by
  induction st with
  | nil => trivial
  | cons a l ih => exact ⟨h a List.mem_cons_self, ih fun q hq => h q (List.mem_cons_of_mem _ hq)⟩
theorem okS_app {a b : List AV} (h : okS (a ++ b)) : okS a ∧ okS b :=
  ⟨okS_of fun v hv => okS_mem h v (List.mem_append_left _ hv), okS_of fun v hv => okS_mem h v (List.mem_append_right _ hv)⟩
theorem okS_rev {a : List AV} (h : okS a.reverse) : okS a := okS_of fun v hv => okS_mem h v (List.mem_reverse.mpr hv)
def cP (w : XW) (q : Nat × AV) : Nat × Value := (q.1, cV w q.2)
theorem lk_mem {lv : List (Nat × AV)} {i : Nat} {v : AV} (h : lv.lookup i = some v) : (i, v) ∈ lv := by
  induction lv with
  | nil => cases h
  | cons a l ih =>
    obtain ⟨j, u⟩ := a
    by_cases e : i = j
    · subst e
      simp only [List.lookup, beq_self_eq_true] at h
      cases h
      exact List.mem_cons_self
    · have e' : (i == j) = false := by simpa using e
      simp only [List.lookup, e'] at h
      exact List.mem_cons_of_mem _ (ih h)
theorem lk_has {w : XW} {ls : Array Slot} {nL : Nat} {lv : List (Nat × AV)} (hv : lv_has ls nL (lv.map (cP w))) {i : Nat} {v : AV} (h : lv.lookup i = some v) : ls[i]? = some (.val (cV w v)) :=
  hv.2.2 (i, cV w v) (List.mem_map.mpr ⟨(i, v), lk_mem h, rfl⟩)
theorem lk_ok {lv : List (Nat × AV)} (hl : okL lv) {i : Nat} {v : AV} (h : lv.lookup i = some v) : okV v := okL_mem hl _ (lk_mem h)
/-- a store into a local variable -/
def lst (lv : List (Nat × AV)) (i : Nat) (v : AV) : List (Nat × AV) := (i, v) :: lv.filter (fun q => !(q.1 == i) && !(q.1 + 1 == i && isL q.2))
def lstL (lv : List (Nat × AV)) (i : Nat) (v : AV) : List (Nat × AV) := (i, v) :: lv.filter (fun q => !(q.1 == i) && (!(q.1 == i + 1) && !(q.1 + 1 == i && isL q.2)))
theorem lst_map (w : XW) (lv : List (Nat × AV)) (i : Nat) (v : AV) : (i, cV w v) :: (lv.map (cP w)).filter (fun q => !(q.1 == i) && !(q.1 + 1 == i && q.2.category == 2)) = (lst lv i v).map (cP w) := by
  show _ = (i, cV w v) :: (lv.filter _).map (cP w)
  rw [List.filter_map]
  congr 2
  refine congrArg (fun f => List.filter f lv) (funext fun q => ?_)
  show (!(q.1 == i) && !(q.1 + 1 == i && (cV w q.2).category == 2)) = _
  rw [cV_cat]
theorem lstL_map (w : XW) (lv : List (Nat × AV)) (i : Nat) (v : AV) : (i, cV w v) :: (lv.map (cP w)).filter (fun q => !(q.1 == i) && (!(q.1 == i + 1) && !(q.1 + 1 == i && q.2.category == 2))) = (lstL lv i v).map (cP w) := by
  show _ = (i, cV w v) :: (lv.filter _).map (cP w)
  rw [List.filter_map]
  congr 2
  refine congrArg (fun f => List.filter f lv) (funext fun q => ?_)
  show (!(q.1 == i) && (!(q.1 == i + 1) && !(q.1 + 1 == i && (cV w q.2).category == 2))) = _
  rw [cV_cat]
theorem lst_ok {lv : List (Nat × AV)} {i : Nat} {v : AV} (h : okL lv) (hv : okV v) : okL (lst lv i v) := ⟨hv, okL_of fun q hq => okL_mem h q (List.mem_filter.mp hq).1⟩
theorem lstL_ok {lv : List (Nat × AV)} {i : Nat} {v : AV} (h : okL lv) (hv : okV v) : okL (lstL lv i v) := ⟨hv, okL_of fun q hq => okL_mem h q (List.mem_filter.mp hq).1⟩
/-- a method's arguments as its first locals -/
def aargs (k : Nat) (as : List AV) : List (Nat × AV) := match as with
  | [] => []
  | v :: as => (k, v) :: aargs (if isL v then k + 2 else k + 1) as
theorem aargs_ok {as : List AV} (h : okS as) : ∀ k, okL (aargs k as) := by
  induction as with
  | nil => intro k; trivial
  | cons v as ih => intro k; exact ⟨h.1, ih h.2 _⟩
/-- what slot j of an object holds -/
def fv (h : AH) (t i j : Nat) : AV := match ftT t j with
  | 0 => vI (h t i j)
  | 1 => vL (h t i j)
  | _ => vO (rfT t i j).1 (rfT t i j).2
def cellR (w : XW) (h : AH) (t i : Nat) (H : Heap) : Prop := match kdT t with
  | 0 => t_OB (w.1 t i) (w.2.1.1 (clT t)) (nfT t) (w.2.1.2 (clT t)) H (fun j => cV w (fv h t i j))
  | k + 1 => H[w.1 t i]? = some (arrV (w.2.2 k) (lnT t) (fun j => cV w (fv h t i j)))
def HRep (w : XW) (h : AH) (H : Heap) : Prop := ∀ t i, i < cntT t → cellR w h t i H
def okH (h : AH) : Prop := ∀ t i j, (ftT t j = 0 → okI (h t i j)) ∧ (ftT t j = 1 → okJ (h t i j))
def adInj (w : XW) : Prop := ∀ t i t' i', i < cntT t → i' < cntT t' → w.1 t i = w.1 t' i' → t = t' ∧ i = i'
def inU (w : XW) (sz : Nat) (q : Nat) : Prop := (∃ t i, i < cntT t ∧ w.1 t i = q) ∨ sz ≤ q
def hset (h : AH) (t i j : Nat) (n : Int) : AH := fun t' i' j' => if t' = t ∧ i' = i ∧ j' = j then n else h t' i' j'
theorem hset_same (h : AH) (t i j : Nat) (n : Int) : hset h t i j n t i j = n := if_pos ⟨rfl, rfl, rfl⟩
theorem hset_ne (h : AH) {t i j t' i' j' : Nat} (n : Int) (e : ¬ (t' = t ∧ i' = i ∧ j' = j)) : hset h t i j n t' i' j' = h t' i' j' := if_neg e
theorem hset_tag (h : AH) {t i j t' i' j' : Nat} (n : Int) (e : t' ≠ t) : hset h t i j n t' i' j' = h t' i' j' := if_neg fun q => e q.1
theorem hset_ok {h : AH} {t i j : Nat} {n : Int} (hh : okH h) (h0 : ftT t j = 0 → okI n) (h1 : ftT t j = 1 → okJ n) : okH (hset h t i j n) := by
  intro t' i' j'
  by_cases e : t' = t ∧ i' = i ∧ j' = j
  · obtain ⟨rfl, rfl, rfl⟩ := e
    rw [hset_same]; exact ⟨h0, h1⟩
  · rw [hset_ne h n e]; exact hh t' i' j'
theorem fv_ne (h : AH) {t i j t' i' j' : Nat} (n : Int) (e : ¬ (t' = t ∧ i' = i ∧ j' = j)) : fv (hset h t i j n) t' i' j' = fv h t' i' j' := by
  unfold fv
  rw [hset_ne h n e]
theorem fv_ok {h : AH} (hh : okH h) {t i j : Nat} (hr : ¬ ftT t j = 0 → ¬ ftT t j = 1 → (rfT t i j).2 < cntT (rfT t i j).1) : okV (fv h t i j) := by
  unfold fv
  split
  · rename_i e; exact (hh t i j).1 e
  · rename_i e; exact (hh t i j).2 e
  · rename_i e1 e2; exact hr (fun q => e1 q) (fun q => e2 q)
theorem fv_0 {h : AH} {t i j : Nat} (e : ftT t j = 0) : fv h t i j = vI (h t i j) := by unfold fv; rw [e]; rfl
theorem fv_1 {h : AH} {t i j : Nat} (e : ftT t j = 1) : fv h t i j = vL (h t i j) := by unfold fv; rw [e]; rfl
theorem fv_2 {h : AH} {t i j : Nat} (e : ftT t j = 2) : fv h t i j = vO (rfT t i j).1 (rfT t i j).2 := by unfold fv; rw [e]; rfl
theorem cellR_kept {w : XW} {h h' : AH} {t i : Nat} {H H' : Heap} (hc : cellR w h t i H) (hq : H'[w.1 t i]? = H[w.1 t i]?) (he : ∀ j, fv h' t i j = fv h t i j) : cellR w h' t i H' := by
  unfold cellR at hc ⊢
  have hf : (fun j => cV w (fv h' t i j)) = (fun j => cV w (fv h t i j)) := funext fun j => by rw [he j]
  rw [hf]
  split at hc
  · exact hc.kept hq
  · rw [hq]; exact hc
theorem HRep.set {w : XW} {h : AH} {H H' : Heap} (hR : HRep w h H) (hI : adInj w) {t i j : Nat} {n : Int} (hi : i < cntT t) (hc : cellR w (hset h t i j n) t i H') (oq : ∀ q, q ≠ w.1 t i → H'[q]? = H[q]?) : HRep w (hset h t i j n) H' := by
  intro t' i' hi'
  by_cases e : t' = t ∧ i' = i
  · obtain ⟨rfl, rfl⟩ := e; exact hc
  · refine cellR_kept (hR t' i' hi') (oq _ fun q => e (hI _ _ _ _ hi' hi q)) fun j' => fv_ne h n fun q => e ⟨q.1, q.2.1⟩
theorem cellR_arr {w : XW} {h : AH} {t i k : Nat} {H : Heap} (hk : kdT t = k + 1) (hc : cellR w h t i H) : H[w.1 t i]? = some (arrV (w.2.2 k) (lnT t) (fun j => cV w (fv h t i j))) := by
  unfold cellR at hc; rw [hk] at hc; exact hc
theorem cellR_obj {w : XW} {h : AH} {t i : Nat} {H : Heap} (hk : kdT t = 0) (hc : cellR w h t i H) : t_OB (w.1 t i) (w.2.1.1 (clT t)) (nfT t) (w.2.1.2 (clT t)) H (fun j => cV w (fv h t i j)) := by
  unfold cellR at hc; rw [hk] at hc; exact hc
theorem cellR_ofArr {w : XW} {h : AH} {t i k : Nat} {H : Heap} (hk : kdT t = k + 1) (hc : H[w.1 t i]? = some (arrV (w.2.2 k) (lnT t) (fun j => cV w (fv h t i j)))) : cellR w h t i H := by
  unfold cellR; rw [hk]; exact hc
theorem cellR_ofObj {w : XW} {h : AH} {t i : Nat} {H : Heap} (hk : kdT t = 0) (hc : t_OB (w.1 t i) (w.2.1.1 (clT t)) (nfT t) (w.2.1.2 (clT t)) H (fun j => cV w (fv h t i j))) : cellR w h t i H := by
  unfold cellR; rw [hk]; exact hc
theorem fv_upd {w : XW} {h : AH} {t i j : Nat} {n : Int} {v : AV} (hv : fv (hset h t i j n) t i j = v) : updV (fun j' => cV w (fv h t i j')) j (cV w v) = fun j' => cV w (fv (hset h t i j n) t i j') := by
  funext j'
  unfold updV
  by_cases e : j' = j
  · subst e; rw [if_pos rfl, hv]
  · rw [if_neg e, fv_ne h n fun q => e q.2.2]
/-- an array's store -/
theorem HRep.setA {w : XW} {h : AH} {H H' : Heap} (hR : HRep w h H) (hI : adInj w) {t i j k : Nat} {n : Int} {v : AV} (hi : i < cntT t) (hk : kdT t = k + 1) (hv : fv (hset h t i j n) t i j = v)
    (hc : H'[w.1 t i]? = some ((arrV (w.2.2 k) (lnT t) (fun j => cV w (fv h t i j))).setSlot j (cV w v))) (oq : ∀ q, q ≠ w.1 t i → H'[q]? = H[q]?) : HRep w (hset h t i j n) H' := by
  refine hR.set hI hi (cellR_ofArr hk ?_) oq
  rw [hc, arrV_store, fv_upd hv]
/-- integers -/
theorem i32_toInt {n : Int} (h : okI n) : (Int32.ofInt n).toInt = n := Int32.toInt_ofInt_of_le (by have := h.1; omega) (by have := h.2; omega)
theorem i64_toInt {n : Int} (h : okJ n) : (Int64.ofInt n).toInt = n := Int64.toInt_ofInt_of_le (by have := h.1; omega) (by have := h.2; omega)
theorem i32_lt {a b : Int} (ha : okI a) (hb : okI b) : (Int32.ofInt a < Int32.ofInt b) = (a < b) := by
  rw [Int32.lt_iff_toInt_lt, i32_toInt ha, i32_toInt hb]
theorem i32_le {a b : Int} (ha : okI a) (hb : okI b) : (Int32.ofInt a ≤ Int32.ofInt b) = (a ≤ b) := by
  rw [Int32.le_iff_toInt_le, i32_toInt ha, i32_toInt hb]
theorem i32_eq {a b : Int} (ha : okI a) (hb : okI b) : (Int32.ofInt a = Int32.ofInt b) = (a = b) := by
  apply propext
  rw [← Int32.toInt_inj, i32_toInt ha, i32_toInt hb]
theorem i64_lt {a b : Int} (ha : okJ a) (hb : okJ b) : (Int64.ofInt a < Int64.ofInt b) = (a < b) := by
  rw [Int64.lt_iff_toInt_lt, i64_toInt ha, i64_toInt hb]
theorem i64_le {a b : Int} (ha : okJ a) (hb : okJ b) : (Int64.ofInt a ≤ Int64.ofInt b) = (a ≤ b) := by
  rw [Int64.le_iff_toInt_le, i64_toInt ha, i64_toInt hb]
theorem i64_eq {a b : Int} (ha : okJ a) (hb : okJ b) : (Int64.ofInt a = Int64.ofInt b) = (a = b) := by
  apply propext
  rw [← Int64.toInt_inj, i64_toInt ha, i64_toInt hb]
theorem i32_div {a b : Int} (ha : okI a) (hb : okI b) (hq : okI (a.tdiv b)) : Int32.ofInt a / Int32.ofInt b = Int32.ofInt (a.tdiv b) := by
  rw [← Int32.toInt_inj, Int32.toInt_div, i32_toInt ha, i32_toInt hb, Int32.toInt_ofInt]
theorem i64_div {a b : Int} (ha : okJ a) (hb : okJ b) (hq : okJ (a.tdiv b)) : Int64.ofInt a / Int64.ofInt b = Int64.ofInt (a.tdiv b) := by
  rw [← Int64.toInt_inj, Int64.toInt_div, i64_toInt ha, i64_toInt hb, Int64.toInt_ofInt]
theorem i32_rem {a b : Int} (ha : okI a) (hb : okI b) (hq : okI (a.tdiv b)) : Int32.ofInt a - Int32.ofInt a / Int32.ofInt b * Int32.ofInt b = Int32.ofInt (a.tmod b) := by
  rw [i32_div ha hb hq, ← Int32.ofInt_mul, ← Int32.ofInt_sub]
  congr 1
  have := Int.tmod_def a b
  rw [this, Int.mul_comm]
theorem i64_rem {a b : Int} (ha : okJ a) (hb : okJ b) (hq : okJ (a.tdiv b)) : Int64.ofInt a - Int64.ofInt a / Int64.ofInt b * Int64.ofInt b = Int64.ofInt (a.tmod b) := by
  rw [i64_div ha hb hq, ← Int64.ofInt_mul, ← Int64.ofInt_sub]
  congr 1
  have := Int.tmod_def a b
  rw [this, Int.mul_comm]
theorem i32_i2l {a : Int} (ha : okI a) : (Int32.ofInt a).toInt64 = Int64.ofInt a := by
  rw [← Int64.toInt_inj, Int32.toInt_toInt64, i32_toInt ha, i64_toInt ⟨by have := ha.1; omega, by have := ha.2; omega⟩]
theorem i64_l2i {a : Int} (ha : okI a) : (Int64.ofInt a).toInt32 = Int32.ofInt a := by
  rw [← Int32.toInt_inj, Int64.toInt_toInt32, i32_toInt ha, i64_toInt ⟨by have := ha.1; omega, by have := ha.2; omega⟩]
  have h := Int32.toInt_ofInt (n := a)
  rw [i32_toInt ha] at h
  exact h.symm
theorem i32_in {a : Int} {n : Nat} (ha : okI a) (h0 : 0 ≤ a) (hn : a < n) : ¬ (Int32.ofInt a < 0 ∨ n ≤ (Int32.ofInt a).toNatClampNeg) := by
  have h1 : (Int32.ofInt a).toNatClampNeg = a.toNat := by rw [← Int32.toNat_toInt, i32_toInt ha]
  rw [h1]
  intro q
  rcases q with q | q
  · rw [Int32.lt_iff_toInt_lt, i32_toInt ha] at q
    have : (0 : Int32).toInt = 0 := rfl
    omega
  · omega
theorem i32_ix {a : Int} (ha : okI a) : (Int32.ofInt a).toNatClampNeg = a.toNat := by rw [← Int32.toNat_toInt, i32_toInt ha]
end
section
/-! What a method may count on beside the words: classes and their slots, array classes, text constants, Throwable's two statics, what is no subclass of what. -/
def tysL (w : XW) : List (ClassId × FieldType) := [(w.2.2 0, .int), (w.2.2 1, .long), (w.2.2 2, .boolean), (w.2.2 3, .object "HeatShares$Flat"), (w.2.2 4, .array .int)]
def uni (w : XW) (q : Nat) : Prop := ∃ t i, i < cntT t ∧ w.1 t i = q
def exN (k : Nat) : String := match k with
  | 0 => "java/lang/IllegalArgumentException"
  | 1 => "java/lang/IndexOutOfBoundsException"
  | 2 => "java/lang/IllegalStateException"
  | _ => "java/lang/UnsupportedOperationException"
def KW (w : XW) (U : State) : Prop := va_K w.2.1 uCl (tysL w) U ∧ (∀ q ∈ strL, ∃ a, vk_R q.1 q.2.1 q.2.2 a U) ∧ va_Zq Bundle.tN "UNASSIGNED_STACK" Bundle.steD (uni w) U U.heap ∧ va_Zq Bundle.tN "SUPPRESSED_SENTINEL" Bundle.listD (uni w) U U.heap ∧ (∀ j k, j < 4 → k < 4 → j ≠ k → va_Nc (exN j) (exN k) U)
theorem va_Nc_moved {C T : String} {u U : State} (hvm : u.vm.Alike U.vm) (h : va_Nc C T u) : va_Nc C T U := by
  obtain ⟨c, t, h1, h2, h3⟩ := h
  exact ⟨c, t, by rw [hvm.findClass]; exact h1, by rw [hvm.findClass]; exact h2, by rw [hvm.assignable]; exact h3⟩
theorem KW.at {w : XW} {s U : State} {locs : List Loc} (h : KW w s) (hW : s.WarmedH U.vm) (hS : va_S (inU w s.heap.size) s.heap U.heap locs) : KW w U := by
  have hk : ∀ a : Nat, a < s.heap.size → ¬ uni w a → U.heap[a]? = s.heap[a]? := fun a h1 h2 => hS.2.1 a h1 fun z => by
    rcases z with z | z
    · exact h2 z
    · omega
  exact ⟨va_K.moved hW.alike h.1, fun q hq => by
    obtain ⟨a, ha⟩ := h.2.1 q hq
    exact ⟨a, ha.warm hW⟩, (h.2.2.1.kept hk).moved hW.alike, (h.2.2.2.1.kept hk).moved hW.alike, fun j k h1 h2 h3 => va_Nc_moved hW.alike (h.2.2.2.2 j k h1 h2 h3)⟩
end
section
abbrev MX : Type := Program × Launch × Env × Room × State × MethodId × Array Value × List Frame × Method × Code
abbrev MX.p (x : MX) : Program := x.1
abbrev MX.l (x : MX) : Launch := x.2.1
abbrev MX.e (x : MX) : Env := x.2.2.1
abbrev MX.R (x : MX) : Room := x.2.2.2.1
abbrev MX.s (x : MX) : State := x.2.2.2.2.1
abbrev MX.m (x : MX) : MethodId := x.2.2.2.2.2.1
abbrev MX.args (x : MX) : Array Value := x.2.2.2.2.2.2.1
abbrev MX.below (x : MX) : List Frame := x.2.2.2.2.2.2.2.1
abbrev MX.meth (x : MX) : Method := x.2.2.2.2.2.2.2.2.1
abbrev MX.c (x : MX) : Code := x.2.2.2.2.2.2.2.2.2
abbrev xW (x : MX) (H : Heap) (locs : List Loc) (cells slots : Nat) (Q : State → Prop) (g : JFrame) : Prop := W x.p x.l x.e x.R x.s x.m x.args x.below x.meth x.c H locs cells slots Q g
abbrev xStand (x : MX) (T : State) (locs : List Loc) (cells slots : Nat) : Prop := Stand x.p x.l x.e x.R x.s x.m x.args x.below x.meth x.c T locs cells slots
def subL (lv lv' : List (Nat × AV)) : Prop := match lv' with
  | [] => True
  | q :: r => lv.lookup q.1 = some q.2 ∧ subL lv r
theorem subL_mem {lv lv' : List (Nat × AV)} (h : subL lv lv') : ∀ q ∈ lv', q ∈ lv := by
  induction lv' with
  | nil => intro q hq; cases hq
  | cons a l ih =>
    intro q hq
    rcases List.mem_cons.mp hq with e | e
    · subst e; exact lk_mem h.1
    · exact ih h.2 q e
/-- what a walk of one invocation has at hand -/
def Cx (x : MX) (w : XW) (rm : Room) (own : String) (cc : ByteArray) (nL : Nat) (ret : Option FieldType) (hs : List (Nat × Nat × Nat × Nat)) : Prop :=
  x.p.tables.exec = Jvm.exec ∧ x.c.code = cc ∧ x.c.maxLocals = nL ∧ x.s.vm.findClass own = some x.m.cls ∧ x.meth.locks = false ∧ x.meth.sig.returnType = ret ∧ x.R = rm ∧ (∀ k ∈ GW, k.before x.args x.s = true) ∧ KW w x.s ∧ adInj w ∧ x.e.platform.stackTraces = false ∧ x.c.exceptionTable.toList = tableOf hs
section CX
variable {x : MX} {w : XW} {rm : Room} {own : String} {cc : ByteArray} {nL : Nat} {ret : Option FieldType} {hx : List (Nat × Nat × Nat × Nat)}
theorem Cx.ex (C : Cx x w rm own cc nL ret hx) : x.p.tables.exec = Jvm.exec := C.1
theorem Cx.by (C : Cx x w rm own cc nL ret hx) : x.c.code = cc := C.2.1
theorem Cx.ml (C : Cx x w rm own cc nL ret hx) : x.c.maxLocals = nL := C.2.2.1
theorem Cx.ow (C : Cx x w rm own cc nL ret hx) : x.s.vm.findClass own = some x.m.cls := C.2.2.2.1
theorem Cx.lk (C : Cx x w rm own cc nL ret hx) : x.meth.locks = false := C.2.2.2.2.1
theorem Cx.rt (C : Cx x w rm own cc nL ret hx) : x.meth.sig.returnType = ret := C.2.2.2.2.2.1
theorem Cx.ro (C : Cx x w rm own cc nL ret hx) : x.R = rm := C.2.2.2.2.2.2.1
theorem Cx.ws (C : Cx x w rm own cc nL ret hx) : ∀ k ∈ GW, k.before x.args x.s = true := C.2.2.2.2.2.2.2.1
theorem Cx.kw (C : Cx x w rm own cc nL ret hx) : KW w x.s := C.2.2.2.2.2.2.2.2.1
theorem Cx.ij (C : Cx x w rm own cc nL ret hx) : adInj w := C.2.2.2.2.2.2.2.2.2.1
theorem Cx.tr (C : Cx x w rm own cc nL ret hx) : x.e.platform.stackTraces = false := C.2.2.2.2.2.2.2.2.2.2.1
theorem Cx.tb (C : Cx x w rm own cc nL ret hx) : x.c.exceptionTable.toList = tableOf hx := C.2.2.2.2.2.2.2.2.2.2.2
end CX
def frS (cl : Bool) (x : MX) (w : XW) (H : Heap) (locs : List Loc) : Prop := if cl then (H = x.s.heap ∧ locs = []) else va_S (inU w x.s.heap.size) x.s.heap H locs
theorem frS.weak {cl : Bool} {x : MX} {w : XW} {H : Heap} {locs : List Loc} (h : frS cl x w H locs) : va_S (inU w x.s.heap.size) x.s.heap H locs := by
  cases cl with
  | false => exact h
  | true =>
    obtain ⟨h1, h2⟩ := h
    subst h1; subst h2
    exact va_S.rf
/-- the machine, at pc with these locals, this stack and this heap, comes to Q (cl: nothing has been written or made yet) -/
def AW (x : MX) (w : XW) (nL : Nat) (cl : Bool) (cells slots : Nat) (Q : State → Prop) (pc : Nat) (lv : List (Nat × AV)) (st : List AV) (h : AH) : Prop :=
  okH h → okL lv → okS st → ∀ (H : Heap) (ls : Array Slot) (locs : List Loc), HRep w h H → lv_has ls nL (lv.map (cP w)) → frS cl x w H locs → xW x H locs cells slots Q (F0 x.m pc ls (st.map (cV w)))
section ROWS
variable {x : MX} {w : XW} {rm : Room} {own : String} {cc : ByteArray} {nL : Nat} {ret : Option FieldType} {hx : List (Nat × Nat × Nat × Nat)} {cl : Bool} {cells slots pc : Nat} {Q : State → Prop} {lv : List (Nat × AV)} {st : List AV} {h : AH}
theorem AW.widen {k n : Nat} (h1 : cells ≤ k) (h2 : slots ≤ n) (kk : AW x w nL cl k n Q pc lv st h) : AW x w nL cl cells slots Q pc lv st h := fun hh hl hs H ls locs hR hv hS => W.widen h1 h2 (kk hh hl hs H ls locs hR hv hS)
/-- the locals that are still needed -/
theorem AW.lvs (lv' : List (Nat × AV)) (hs : subL lv lv') (kk : AW x w nL cl cells slots Q pc lv' st h) : AW x w nL cl cells slots Q pc lv st h := by
  intro hh hl hst H ls locs hR hv hS
  have hm := subL_mem hs
  refine kk hh (okL_of fun q hq => okL_mem hl q (hm q hq)) hst H ls locs hR ⟨hv.1, hv.2.1, fun q hq => ?_⟩ hS
  obtain ⟨q0, h0, rfl⟩ := List.mem_map.mp hq
  exact hv.2.2 _ (List.mem_map.mpr ⟨q0, hm q0 h0, rfl⟩)

theorem r_iconst (C : Cx x w rm own cc nL ret hx) {n : Int} (hdg : decode cc pc = .ok (.iconst n, 1)) (hn : okI n) (kk : AW x w nL cl cells slots Q (pc + 1) lv (vI n :: st) h) : AW x w nL cl cells slots Q pc lv (st) h := by
  intro hh hl hs H ls locs hR hv hS
  obtain ⟨p, l, e, R, s, m, args, below, meth, c⟩ := x
  exact lv_iconst C.ex C.by hdg rfl (kk hh hl ⟨hn, hs⟩ H ls locs hR hv hS)
theorem r_bipush (C : Cx x w rm own cc nL ret hx) {n : Int} (hdg : decode cc pc = .ok (.bipush n, 2)) (hn : okI n) (he : (Int8.ofInt n).toInt32 = Int32.ofInt n) (kk : AW x w nL cl cells slots Q (pc + 2) lv (vI n :: st) h) : AW x w nL cl cells slots Q pc lv (st) h := by
  intro hh hl hs H ls locs hR hv hS
  obtain ⟨p, l, e, R, s, m, args, below, meth, c⟩ := x
  exact lv_bipush C.ex C.by hdg he (kk hh hl ⟨hn, hs⟩ H ls locs hR hv hS)
theorem r_sipush (C : Cx x w rm own cc nL ret hx) {n : Int} (hdg : decode cc pc = .ok (.sipush n, 3)) (hn : okI n) (he : (Int16.ofInt n).toInt32 = Int32.ofInt n) (kk : AW x w nL cl cells slots Q (pc + 3) lv (vI n :: st) h) : AW x w nL cl cells slots Q pc lv (st) h := by
  intro hh hl hs H ls locs hR hv hS
  obtain ⟨p, l, e, R, s, m, args, below, meth, c⟩ := x
  exact lv_sipush C.ex C.by hdg he (kk hh hl ⟨hn, hs⟩ H ls locs hR hv hS)
theorem r_lconst (C : Cx x w rm own cc nL ret hx) {k : Fin 2} (n : Int) (hdg : decode cc pc = .ok (.lconst k, 1)) (hn : okJ n) (he : Int64.ofNat (k : Nat) = Int64.ofInt n) (kk : AW x w nL cl cells slots Q (pc + 1) lv (vL n :: st) h) : AW x w nL cl cells slots Q pc lv (st) h := by
  intro hh hl hs H ls locs hR hv hS
  obtain ⟨p, l, e, R, s, m, args, below, meth, c⟩ := x
  exact lv_lconst C.ex C.by hdg he (kk hh hl ⟨hn, hs⟩ H ls locs hR hv hS)
theorem r_ldc (C : Cx x w rm own cc nL ret hx) {index : Nat} {n : Int} (hdg : decode cc pc = .ok (.ldc index, 2)) (hw : Jvm.Cond.constant own index (Int32.ofInt n) ∈ GW) (hn : okI n) (kk : AW x w nL cl cells slots Q (pc + 2) lv (vI n :: st) h) : AW x w nL cl cells slots Q pc lv (st) h := by
  intro hh hl hs H ls locs hR hv hS
  obtain ⟨p, l, e, R, s, m, args, below, meth, c⟩ := x
  exact lv_ldc C.ex C.by C.ow (C.ws _ hw) hdg (kk hh hl ⟨hn, hs⟩ H ls locs hR hv hS)
theorem r_ldc2 (C : Cx x w rm own cc nL ret hx) {index : Nat} {n : Int} (hdg : decode cc pc = .ok (.ldc2_w index, 3)) (hw : Jvm.Cond.constantLong own index (Int64.ofInt n) ∈ GW) (hn : okJ n) (kk : AW x w nL cl cells slots Q (pc + 3) lv (vL n :: st) h) : AW x w nL cl cells slots Q pc lv (st) h := by
  intro hh hl hs H ls locs hR hv hS
  obtain ⟨p, l, e, R, s, m, args, below, meth, c⟩ := x
  exact lv_ldc2 C.ex C.by C.ow (C.ws _ hw) hdg (kk hh hl ⟨hn, hs⟩ H ls locs hR hv hS)
theorem r_iload_n (C : Cx x w rm own cc nL ret hx) {k : Fin 4} {i0 : Nat} {n : Int} (hdg : decode cc pc = .ok (.iload_n k, 1)) (hi : (k : Nat) = i0) (hk : lv.lookup i0 = some (vI n)) (kk : AW x w nL cl cells slots Q (pc + 1) lv (vI n :: st) h) : AW x w nL cl cells slots Q pc lv (st) h := by
  intro hh hl hs H ls locs hR hv hS
  obtain ⟨p, l, e, R, s, m, args, below, meth, c⟩ := x
  exact lv_iload_n C.ex C.by hdg hi (lk_has hv hk) (kk hh hl ⟨lk_ok hl hk, hs⟩ H ls locs hR hv hS)
theorem r_iload (C : Cx x w rm own cc nL ret hx) {i0 : Nat} {n : Int} (hdg : decode cc pc = .ok (.iload i0, 2)) (hk : lv.lookup i0 = some (vI n)) (kk : AW x w nL cl cells slots Q (pc + 2) lv (vI n :: st) h) : AW x w nL cl cells slots Q pc lv (st) h := by
  intro hh hl hs H ls locs hR hv hS
  obtain ⟨p, l, e, R, s, m, args, below, meth, c⟩ := x
  exact lv_iload C.ex C.by hdg (lk_has hv hk) (kk hh hl ⟨lk_ok hl hk, hs⟩ H ls locs hR hv hS)
theorem r_lload_n (C : Cx x w rm own cc nL ret hx) {k : Fin 4} {i0 : Nat} {n : Int} (hdg : decode cc pc = .ok (.lload_n k, 1)) (hi : (k : Nat) = i0) (hk : lv.lookup i0 = some (vL n)) (kk : AW x w nL cl cells slots Q (pc + 1) lv (vL n :: st) h) : AW x w nL cl cells slots Q pc lv (st) h := by
  intro hh hl hs H ls locs hR hv hS
  obtain ⟨p, l, e, R, s, m, args, below, meth, c⟩ := x
  exact lv_lload_n C.ex C.by hdg hi (lk_has hv hk) (kk hh hl ⟨lk_ok hl hk, hs⟩ H ls locs hR hv hS)
theorem r_lload (C : Cx x w rm own cc nL ret hx) {i0 : Nat} {n : Int} (hdg : decode cc pc = .ok (.lload i0, 2)) (hk : lv.lookup i0 = some (vL n)) (kk : AW x w nL cl cells slots Q (pc + 2) lv (vL n :: st) h) : AW x w nL cl cells slots Q pc lv (st) h := by
  intro hh hl hs H ls locs hR hv hS
  obtain ⟨p, l, e, R, s, m, args, below, meth, c⟩ := x
  exact lv_lload C.ex C.by hdg (lk_has hv hk) (kk hh hl ⟨lk_ok hl hk, hs⟩ H ls locs hR hv hS)
theorem r_aload_n (C : Cx x w rm own cc nL ret hx) {k : Fin 4} {i0 : Nat} {t i : Nat} (hdg : decode cc pc = .ok (.aload_n k, 1)) (hi : (k : Nat) = i0) (hk : lv.lookup i0 = some (vO t i)) (kk : AW x w nL cl cells slots Q (pc + 1) lv (vO t i :: st) h) : AW x w nL cl cells slots Q pc lv (st) h := by
  intro hh hl hs H ls locs hR hv hS
  obtain ⟨p, l, e, R, s, m, args, below, meth, c⟩ := x
  exact lv_aload_n C.ex C.by hdg hi (lk_has hv hk) (kk hh hl ⟨lk_ok hl hk, hs⟩ H ls locs hR hv hS)
theorem r_aload (C : Cx x w rm own cc nL ret hx) {i0 : Nat} {t i : Nat} (hdg : decode cc pc = .ok (.aload i0, 2)) (hk : lv.lookup i0 = some (vO t i)) (kk : AW x w nL cl cells slots Q (pc + 2) lv (vO t i :: st) h) : AW x w nL cl cells slots Q pc lv (st) h := by
  intro hh hl hs H ls locs hR hv hS
  obtain ⟨p, l, e, R, s, m, args, below, meth, c⟩ := x
  exact lv_aload C.ex C.by hdg (lk_has hv hk) (kk hh hl ⟨lk_ok hl hk, hs⟩ H ls locs hR hv hS)
theorem r_aload_nX (C : Cx x w rm own cc nL ret hx) {k : Fin 4} {i0 a : Nat} (hdg : decode cc pc = .ok (.aload_n k, 1)) (hi : (k : Nat) = i0) (hk : lv.lookup i0 = some (vX a)) (kk : AW x w nL cl cells slots Q (pc + 1) lv (vX a :: st) h) : AW x w nL cl cells slots Q pc lv (st) h := by
  intro hh hl hs H ls locs hR hv hS
  obtain ⟨p, l, e, R, s, m, args, below, meth, c⟩ := x
  exact lv_aload_n C.ex C.by hdg hi (lk_has hv hk) (kk hh hl ⟨trivial, hs⟩ H ls locs hR hv hS)
theorem r_aloadX (C : Cx x w rm own cc nL ret hx) {i0 a : Nat} (hdg : decode cc pc = .ok (.aload i0, 2)) (hk : lv.lookup i0 = some (vX a)) (kk : AW x w nL cl cells slots Q (pc + 2) lv (vX a :: st) h) : AW x w nL cl cells slots Q pc lv (st) h := by
  intro hh hl hs H ls locs hR hv hS
  obtain ⟨p, l, e, R, s, m, args, below, meth, c⟩ := x
  exact lv_aload C.ex C.by hdg (lk_has hv hk) (kk hh hl ⟨trivial, hs⟩ H ls locs hR hv hS)
theorem r_istore_n (C : Cx x w rm own cc nL ret hx) {k : Fin 4} {i0 : Nat} {n : Int} (hdg : decode cc pc = .ok (.istore_n k, 1)) (hi : (k : Nat) = i0) (hn : i0 < nL) (kk : AW x w nL cl cells slots Q (pc + 1) (lst lv i0 (vI n)) (st) h) : AW x w nL cl cells slots Q pc lv (vI n :: st) h := by
  intro hh hl hs H ls locs hR hv hS
  obtain ⟨p, l, e, R, s, m, args, below, meth, c⟩ := x
  exact lv_istore_n C.ex C.by hdg hi hv hn (lst_map w lv i0 (vI n)) fun ls1 h1 => kk hh (lst_ok hl hs.1) hs.2 H ls1 locs hR h1 hS
theorem r_istore (C : Cx x w rm own cc nL ret hx) {i0 : Nat} {n : Int} (hdg : decode cc pc = .ok (.istore i0, 2)) (hn : i0 < nL) (kk : AW x w nL cl cells slots Q (pc + 2) (lst lv i0 (vI n)) (st) h) : AW x w nL cl cells slots Q pc lv (vI n :: st) h := by
  intro hh hl hs H ls locs hR hv hS
  obtain ⟨p, l, e, R, s, m, args, below, meth, c⟩ := x
  exact lv_istore C.ex C.by hdg hv hn (lst_map w lv i0 (vI n)) fun ls1 h1 => kk hh (lst_ok hl hs.1) hs.2 H ls1 locs hR h1 hS
theorem r_astore_n (C : Cx x w rm own cc nL ret hx) {k : Fin 4} {i0 : Nat} {t i : Nat} (hdg : decode cc pc = .ok (.astore_n k, 1)) (hi : (k : Nat) = i0) (hn : i0 < nL) (kk : AW x w nL cl cells slots Q (pc + 1) (lst lv i0 (vO t i)) (st) h) : AW x w nL cl cells slots Q pc lv (vO t i :: st) h := by
  intro hh hl hs H ls locs hR hv hS
  obtain ⟨p, l, e, R, s, m, args, below, meth, c⟩ := x
  exact lv_astore_n C.ex C.by hdg hi hv hn (lst_map w lv i0 (vO t i)) fun ls1 h1 => kk hh (lst_ok hl hs.1) hs.2 H ls1 locs hR h1 hS
theorem r_astore (C : Cx x w rm own cc nL ret hx) {i0 : Nat} {t i : Nat} (hdg : decode cc pc = .ok (.astore i0, 2)) (hn : i0 < nL) (kk : AW x w nL cl cells slots Q (pc + 2) (lst lv i0 (vO t i)) (st) h) : AW x w nL cl cells slots Q pc lv (vO t i :: st) h := by
  intro hh hl hs H ls locs hR hv hS
  obtain ⟨p, l, e, R, s, m, args, below, meth, c⟩ := x
  exact lv_astore C.ex C.by hdg hv hn (lst_map w lv i0 (vO t i)) fun ls1 h1 => kk hh (lst_ok hl hs.1) hs.2 H ls1 locs hR h1 hS
theorem r_lstore_n (C : Cx x w rm own cc nL ret hx) {k : Fin 4} {i0 : Nat} {n : Int} (hdg : decode cc pc = .ok (.lstore_n k, 1)) (hi : (k : Nat) = i0) (hn : i0 + 1 < nL) (kk : AW x w nL cl cells slots Q (pc + 1) (lstL lv i0 (vL n)) (st) h) : AW x w nL cl cells slots Q pc lv (vL n :: st) h := by
  intro hh hl hs H ls locs hR hv hS
  obtain ⟨p, l, e, R, s, m, args, below, meth, c⟩ := x
  exact lv_lstore_n C.ex C.by hdg hi hv hn (lstL_map w lv i0 (vL n)) fun ls1 h1 => kk hh (lstL_ok hl hs.1) hs.2 H ls1 locs hR h1 hS
theorem r_lstore (C : Cx x w rm own cc nL ret hx) {i0 : Nat} {n : Int} (hdg : decode cc pc = .ok (.lstore i0, 2)) (hn : i0 + 1 < nL) (kk : AW x w nL cl cells slots Q (pc + 2) (lstL lv i0 (vL n)) (st) h) : AW x w nL cl cells slots Q pc lv (vL n :: st) h := by
  intro hh hl hs H ls locs hR hv hS
  obtain ⟨p, l, e, R, s, m, args, below, meth, c⟩ := x
  exact lv_lstore C.ex C.by hdg hv hn (lstL_map w lv i0 (vL n)) fun ls1 h1 => kk hh (lstL_ok hl hs.1) hs.2 H ls1 locs hR h1 hS
theorem r_astore_nX (C : Cx x w rm own cc nL ret hx) {k : Fin 4} {i0 a : Nat} (hdg : decode cc pc = .ok (.astore_n k, 1)) (hi : (k : Nat) = i0) (hn : i0 < nL) (kk : AW x w nL cl cells slots Q (pc + 1) (lst lv i0 (vX a)) (st) h) : AW x w nL cl cells slots Q pc lv (vX a :: st) h := by
  intro hh hl hs H ls locs hR hv hS
  obtain ⟨p, l, e, R, s, m, args, below, meth, c⟩ := x
  exact lv_astore_n C.ex C.by hdg hi hv hn (lst_map w lv i0 (vX a)) fun ls1 h1 => kk hh (lst_ok hl hs.1) hs.2 H ls1 locs hR h1 hS
theorem r_astoreX (C : Cx x w rm own cc nL ret hx) {i0 a : Nat} (hdg : decode cc pc = .ok (.astore i0, 2)) (hn : i0 < nL) (kk : AW x w nL cl cells slots Q (pc + 2) (lst lv i0 (vX a)) (st) h) : AW x w nL cl cells slots Q pc lv (vX a :: st) h := by
  intro hh hl hs H ls locs hR hv hS
  obtain ⟨p, l, e, R, s, m, args, below, meth, c⟩ := x
  exact lv_astore C.ex C.by hdg hv hn (lst_map w lv i0 (vX a)) fun ls1 h1 => kk hh (lst_ok hl hs.1) hs.2 H ls1 locs hR h1 hS
theorem r_iinc (C : Cx x w rm own cc nL ret hx) {i0 : Nat} {d n : Int} (hdg : decode cc pc = .ok (.iinc i0 d, 3)) (hk : lv.lookup i0 = some (vI n)) (hn : i0 < nL) (hr : okI (n + d)) (kk : AW x w nL cl cells slots Q (pc + 3) (lst lv i0 (vI (n + d))) st h) : AW x w nL cl cells slots Q pc lv st h := by
  intro hh hl hs H ls locs hR hv hS
  obtain ⟨p, l, e, R, s, m, args, below, meth, c⟩ := x
  obtain ⟨k0, hk0⟩ := List.getElem?_of_mem (List.mem_map.mpr ⟨(i0, vI n), lk_mem hk, rfl⟩ : cP w (i0, vI n) ∈ lv.map (cP w))
  exact lv_iinc C.ex C.by hdg hv hk0 (Int32.ofInt_add n d).symm hn (lst_map w lv i0 (vI (n + d))) fun ls1 h1 => kk hh (lst_ok hl hr) hs H ls1 locs hR h1 hS
theorem r_iadd (C : Cx x w rm own cc nL ret hx) {a b : Int} (hdg : decode cc pc = .ok (.iadd, 1)) (hr : okI (a + b)) (kk : AW x w nL cl cells slots Q (pc + 1) lv (vI (a + b) :: st) h) : AW x w nL cl cells slots Q pc lv (vI b :: vI a :: st) h := by
  intro hh hl hs H ls locs hR hv hS
  obtain ⟨p, l, e, R, s, m, args, below, meth, c⟩ := x
  refine lv_iadd C.ex C.by hdg ?_
  rw [← Int32.ofInt_add]
  exact kk hh hl ⟨hr, hs.2.2⟩ H ls locs hR hv hS
theorem r_isub (C : Cx x w rm own cc nL ret hx) {a b : Int} (hdg : decode cc pc = .ok (.isub, 1)) (hr : okI (a - b)) (kk : AW x w nL cl cells slots Q (pc + 1) lv (vI (a - b) :: st) h) : AW x w nL cl cells slots Q pc lv (vI b :: vI a :: st) h := by
  intro hh hl hs H ls locs hR hv hS
  obtain ⟨p, l, e, R, s, m, args, below, meth, c⟩ := x
  refine lv_isub C.ex C.by hdg ?_
  rw [← Int32.ofInt_sub]
  exact kk hh hl ⟨hr, hs.2.2⟩ H ls locs hR hv hS
theorem r_imul (C : Cx x w rm own cc nL ret hx) {a b : Int} (hdg : decode cc pc = .ok (.imul, 1)) (hr : okI (a * b)) (kk : AW x w nL cl cells slots Q (pc + 1) lv (vI (a * b) :: st) h) : AW x w nL cl cells slots Q pc lv (vI b :: vI a :: st) h := by
  intro hh hl hs H ls locs hR hv hS
  obtain ⟨p, l, e, R, s, m, args, below, meth, c⟩ := x
  refine lv_imul C.ex C.by hdg ?_
  rw [← Int32.ofInt_mul]
  exact kk hh hl ⟨hr, hs.2.2⟩ H ls locs hR hv hS
theorem r_ladd (C : Cx x w rm own cc nL ret hx) {a b : Int} (hdg : decode cc pc = .ok (.ladd, 1)) (hr : okJ (a + b)) (kk : AW x w nL cl cells slots Q (pc + 1) lv (vL (a + b) :: st) h) : AW x w nL cl cells slots Q pc lv (vL b :: vL a :: st) h := by
  intro hh hl hs H ls locs hR hv hS
  obtain ⟨p, l, e, R, s, m, args, below, meth, c⟩ := x
  refine lv_ladd C.ex C.by hdg ?_
  rw [← Int64.ofInt_add]
  exact kk hh hl ⟨hr, hs.2.2⟩ H ls locs hR hv hS
theorem r_lsub (C : Cx x w rm own cc nL ret hx) {a b : Int} (hdg : decode cc pc = .ok (.lsub, 1)) (hr : okJ (a - b)) (kk : AW x w nL cl cells slots Q (pc + 1) lv (vL (a - b) :: st) h) : AW x w nL cl cells slots Q pc lv (vL b :: vL a :: st) h := by
  intro hh hl hs H ls locs hR hv hS
  obtain ⟨p, l, e, R, s, m, args, below, meth, c⟩ := x
  refine lv_lsub C.ex C.by hdg ?_
  rw [← Int64.ofInt_sub]
  exact kk hh hl ⟨hr, hs.2.2⟩ H ls locs hR hv hS
theorem r_lmul (C : Cx x w rm own cc nL ret hx) {a b : Int} (hdg : decode cc pc = .ok (.lmul, 1)) (hr : okJ (a * b)) (kk : AW x w nL cl cells slots Q (pc + 1) lv (vL (a * b) :: st) h) : AW x w nL cl cells slots Q pc lv (vL b :: vL a :: st) h := by
  intro hh hl hs H ls locs hR hv hS
  obtain ⟨p, l, e, R, s, m, args, below, meth, c⟩ := x
  refine lv_lmul C.ex C.by hdg ?_
  rw [← Int64.ofInt_mul]
  exact kk hh hl ⟨hr, hs.2.2⟩ H ls locs hR hv hS
theorem r_idiv (C : Cx x w rm own cc nL ret hx) {a b : Int} (hdg : decode cc pc = .ok (.idiv, 1)) (hb0 : b ≠ 0) (hq : okI (a.tdiv b))  (kk : AW x w nL cl cells slots Q (pc + 1) lv (vI (a.tdiv b) :: st) h) : AW x w nL cl cells slots Q pc lv (vI b :: vI a :: st) h := by
  intro hh hl hs H ls locs hR hv hS
  obtain ⟨p, l, e, R, s, m, args, below, meth, c⟩ := x
  refine lv_idiv C.ex C.by hdg (fun q => hb0 ?_) ?_
  · have q1 : Int32.ofInt b = Int32.ofInt 0 := q
    rwa [i32_eq hs.1 ⟨by decide, by decide⟩] at q1
  · rw [i32_div hs.2.1 hs.1 hq]
    exact kk hh hl ⟨hq, hs.2.2⟩ H ls locs hR hv hS
theorem r_irem (C : Cx x w rm own cc nL ret hx) {a b : Int} (hdg : decode cc pc = .ok (.irem, 1)) (hb0 : b ≠ 0) (hq : okI (a.tdiv b)) (hr : okI (a.tmod b)) (kk : AW x w nL cl cells slots Q (pc + 1) lv (vI (a.tmod b) :: st) h) : AW x w nL cl cells slots Q pc lv (vI b :: vI a :: st) h := by
  intro hh hl hs H ls locs hR hv hS
  obtain ⟨p, l, e, R, s, m, args, below, meth, c⟩ := x
  refine lv_irem C.ex C.by hdg (fun q => hb0 ?_) ?_
  · have q1 : Int32.ofInt b = Int32.ofInt 0 := q
    rwa [i32_eq hs.1 ⟨by decide, by decide⟩] at q1
  · rw [i32_rem hs.2.1 hs.1 hq]
    exact kk hh hl ⟨hr, hs.2.2⟩ H ls locs hR hv hS
theorem r_ldiv (C : Cx x w rm own cc nL ret hx) {a b : Int} (hdg : decode cc pc = .ok (.ldiv, 1)) (hb0 : b ≠ 0) (hq : okJ (a.tdiv b))  (kk : AW x w nL cl cells slots Q (pc + 1) lv (vL (a.tdiv b) :: st) h) : AW x w nL cl cells slots Q pc lv (vL b :: vL a :: st) h := by
  intro hh hl hs H ls locs hR hv hS
  obtain ⟨p, l, e, R, s, m, args, below, meth, c⟩ := x
  refine lv_ldiv C.ex C.by hdg (fun q => hb0 ?_) ?_
  · have q1 : Int64.ofInt b = Int64.ofInt 0 := q
    rwa [i64_eq hs.1 ⟨by decide, by decide⟩] at q1
  · rw [i64_div hs.2.1 hs.1 hq]
    exact kk hh hl ⟨hq, hs.2.2⟩ H ls locs hR hv hS
theorem r_lrem (C : Cx x w rm own cc nL ret hx) {a b : Int} (hdg : decode cc pc = .ok (.lrem, 1)) (hb0 : b ≠ 0) (hq : okJ (a.tdiv b)) (hr : okJ (a.tmod b)) (kk : AW x w nL cl cells slots Q (pc + 1) lv (vL (a.tmod b) :: st) h) : AW x w nL cl cells slots Q pc lv (vL b :: vL a :: st) h := by
  intro hh hl hs H ls locs hR hv hS
  obtain ⟨p, l, e, R, s, m, args, below, meth, c⟩ := x
  refine lv_lrem C.ex C.by hdg (fun q => hb0 ?_) ?_
  · have q1 : Int64.ofInt b = Int64.ofInt 0 := q
    rwa [i64_eq hs.1 ⟨by decide, by decide⟩] at q1
  · rw [i64_rem hs.2.1 hs.1 hq]
    exact kk hh hl ⟨hr, hs.2.2⟩ H ls locs hR hv hS
theorem r_i2l (C : Cx x w rm own cc nL ret hx) {a : Int} (hdg : decode cc pc = .ok (.i2l, 1)) (kk : AW x w nL cl cells slots Q (pc + 1) lv (vL a :: st) h) : AW x w nL cl cells slots Q pc lv (vI a :: st) h := by
  intro hh hl hs H ls locs hR hv hS
  obtain ⟨p, l, e, R, s, m, args, below, meth, c⟩ := x
  exact lv_i2l C.ex C.by hdg (i32_i2l hs.1) (kk hh hl ⟨⟨by have := hs.1.1; omega, by have := hs.1.2; omega⟩, hs.2⟩ H ls locs hR hv hS)
theorem r_l2i (C : Cx x w rm own cc nL ret hx) {a : Int} (hdg : decode cc pc = .ok (.l2i, 1)) (hr : okI a) (kk : AW x w nL cl cells slots Q (pc + 1) lv (vI a :: st) h) : AW x w nL cl cells slots Q pc lv (vL a :: st) h := by
  intro hh hl hs H ls locs hR hv hS
  obtain ⟨p, l, e, R, s, m, args, below, meth, c⟩ := x
  exact lv_l2i C.ex C.by hdg (i64_l2i hr) (kk hh hl ⟨hr, hs.2⟩ H ls locs hR hv hS)
theorem r_dup (C : Cx x w rm own cc nL ret hx) {v : AV} (hdg : decode cc pc = .ok (.dup, 1)) (hc : isL v = false) (kk : AW x w nL cl cells slots Q (pc + 1) lv (v :: v :: st) h) : AW x w nL cl cells slots Q pc lv (v :: st) h := by
  intro hh hl hs H ls locs hR hv hS
  obtain ⟨p, l, e, R, s, m, args, below, meth, c⟩ := x
  exact lv_dup C.ex C.by hdg (cV_cat1 w v hc) (kk hh hl ⟨hs.1, hs⟩ H ls locs hR hv hS)
theorem r_pop (C : Cx x w rm own cc nL ret hx) {v : AV} (hdg : decode cc pc = .ok (.pop, 1)) (hc : isL v = false) (kk : AW x w nL cl cells slots Q (pc + 1) lv (st) h) : AW x w nL cl cells slots Q pc lv (v :: st) h := by
  intro hh hl hs H ls locs hR hv hS
  obtain ⟨p, l, e, R, s, m, args, below, meth, c⟩ := x
  exact lv_pop C.ex C.by hdg (cV_cat1 w v hc) (kk hh hl hs.2 H ls locs hR hv hS)
theorem r_dup2 (C : Cx x w rm own cc nL ret hx) {v u : AV} (hdg : decode cc pc = .ok (.dup2, 1)) (hc : isL v = false) (hd : isL u = false) (kk : AW x w nL cl cells slots Q (pc + 1) lv (v :: u :: v :: u :: st) h) : AW x w nL cl cells slots Q pc lv (v :: u :: st) h := by
  intro hh hl hs H ls locs hR hv hS
  obtain ⟨p, l, e, R, s, m, args, below, meth, c⟩ := x
  exact lv_dup2_11 C.ex C.by hdg (cV_cat1 w v hc) (cV_cat1 w u hd) (kk hh hl ⟨hs.1, hs.2.1, hs⟩ H ls locs hR hv hS)
theorem r_dup2L (C : Cx x w rm own cc nL ret hx) {n : Int} (hdg : decode cc pc = .ok (.dup2, 1)) (kk : AW x w nL cl cells slots Q (pc + 1) lv (vL n :: vL n :: st) h) : AW x w nL cl cells slots Q pc lv (vL n :: st) h := by
  intro hh hl hs H ls locs hR hv hS
  obtain ⟨p, l, e, R, s, m, args, below, meth, c⟩ := x
  exact lv_dup2_2 C.ex C.by hdg rfl (kk hh hl ⟨hs.1, hs⟩ H ls locs hR hv hS)
theorem r_dup_x1 (C : Cx x w rm own cc nL ret hx) {v u : AV} (hdg : decode cc pc = .ok (.dup_x1, 1)) (hc : isL v = false) (hd : isL u = false) (kk : AW x w nL cl cells slots Q (pc + 1) lv (v :: u :: v :: st) h) : AW x w nL cl cells slots Q pc lv (v :: u :: st) h := by
  intro hh hl hs H ls locs hR hv hS
  obtain ⟨p, l, e, R, s, m, args, below, meth, c⟩ := x
  exact lv_dup_x1 C.ex C.by hdg (cV_cat1 w v hc) (cV_cat1 w u hd) (kk hh hl ⟨hs.1, hs.2.1, hs.1, hs.2.2⟩ H ls locs hR hv hS)
theorem r_dup_x2 (C : Cx x w rm own cc nL ret hx) {v u t : AV} (hdg : decode cc pc = .ok (.dup_x2, 1)) (hc : isL v = false) (hd : isL u = false) (he : isL t = false) (kk : AW x w nL cl cells slots Q (pc + 1) lv (v :: u :: t :: v :: st) h) : AW x w nL cl cells slots Q pc lv (v :: u :: t :: st) h := by
  intro hh hl hs H ls locs hR hv hS
  obtain ⟨p, l, e, R, s, m, args, below, meth, c⟩ := x
  exact lv_dup_x2 C.ex C.by hdg (cV_cat1 w v hc) (cV_cat1 w u hd) (cV_cat1 w t he) (kk hh hl ⟨hs.1, hs.2.1, hs.2.2.1, hs.1, hs.2.2.2⟩ H ls locs hR hv hS)
theorem r_icmp_eq (C : Cx x w rm own cc nL ret hx) {a b off : Int} {tgt : Nat} (hdg : decode cc pc = .ok (.if_icmp .eq off, 3)) (ht : (pc : Int) + off = (tgt : Int)) (kt : a = b → AW x w nL cl cells slots Q tgt lv st h) (kf : ¬ a = b → AW x w nL cl cells slots Q (pc + 3) lv st h) : AW x w nL cl cells slots Q pc lv (vI b :: vI a :: st) h := by
  intro hh hl hs H ls locs hR hv hS
  obtain ⟨p, l, e, R, s, m, args, below, meth, c⟩ := x
  refine lv_icmp_eq C.ex C.by hdg ht (fun q => kt ?_ hh hl hs.2.2 H ls locs hR hv hS) (fun q => kf ?_ hh hl hs.2.2 H ls locs hR hv hS)
  · rwa [i32_eq hs.2.1 hs.1] at q
  · rwa [i32_eq hs.2.1 hs.1] at q
theorem r_if_eq (C : Cx x w rm own cc nL ret hx) {a off : Int} {tgt : Nat} (hdg : decode cc pc = .ok (.ifCond .eq off, 3)) (ht : (pc : Int) + off = (tgt : Int)) (kt : a = 0 → AW x w nL cl cells slots Q tgt lv st h) (kf : ¬ a = 0 → AW x w nL cl cells slots Q (pc + 3) lv st h) : AW x w nL cl cells slots Q pc lv (vI a :: st) h := by
  intro hh hl hs H ls locs hR hv hS
  obtain ⟨p, l, e, R, s, m, args, below, meth, c⟩ := x
  have z0 : okI 0 := ⟨by decide, by decide⟩
  have z1 : (0 : Int32) = Int32.ofInt 0 := rfl
  refine lv_if_eq C.ex C.by hdg ht (fun q => kt ?_ hh hl hs.2 H ls locs hR hv hS) (fun q => kf ?_ hh hl hs.2 H ls locs hR hv hS)
  · rw [z1] at q
    rwa [i32_eq hs.1 z0] at q
  · rw [z1] at q
    rwa [i32_eq hs.1 z0] at q
theorem r_icmp_ne (C : Cx x w rm own cc nL ret hx) {a b off : Int} {tgt : Nat} (hdg : decode cc pc = .ok (.if_icmp .ne off, 3)) (ht : (pc : Int) + off = (tgt : Int)) (kt : ¬ a = b → AW x w nL cl cells slots Q tgt lv st h) (kf : a = b → AW x w nL cl cells slots Q (pc + 3) lv st h) : AW x w nL cl cells slots Q pc lv (vI b :: vI a :: st) h := by
  intro hh hl hs H ls locs hR hv hS
  obtain ⟨p, l, e, R, s, m, args, below, meth, c⟩ := x
  refine lv_icmp_ne C.ex C.by hdg ht (fun q => kt ?_ hh hl hs.2.2 H ls locs hR hv hS) (fun q => kf ?_ hh hl hs.2.2 H ls locs hR hv hS)
  · rwa [i32_eq hs.2.1 hs.1] at q
  · rwa [i32_eq hs.2.1 hs.1] at q
theorem r_if_ne (C : Cx x w rm own cc nL ret hx) {a off : Int} {tgt : Nat} (hdg : decode cc pc = .ok (.ifCond .ne off, 3)) (ht : (pc : Int) + off = (tgt : Int)) (kt : ¬ a = 0 → AW x w nL cl cells slots Q tgt lv st h) (kf : a = 0 → AW x w nL cl cells slots Q (pc + 3) lv st h) : AW x w nL cl cells slots Q pc lv (vI a :: st) h := by
  intro hh hl hs H ls locs hR hv hS
  obtain ⟨p, l, e, R, s, m, args, below, meth, c⟩ := x
  have z0 : okI 0 := ⟨by decide, by decide⟩
  have z1 : (0 : Int32) = Int32.ofInt 0 := rfl
  refine lv_if_ne C.ex C.by hdg ht (fun q => kt ?_ hh hl hs.2 H ls locs hR hv hS) (fun q => kf ?_ hh hl hs.2 H ls locs hR hv hS)
  · rw [z1] at q
    rwa [i32_eq hs.1 z0] at q
  · rw [z1] at q
    rwa [i32_eq hs.1 z0] at q
theorem r_icmp_lt (C : Cx x w rm own cc nL ret hx) {a b off : Int} {tgt : Nat} (hdg : decode cc pc = .ok (.if_icmp .lt off, 3)) (ht : (pc : Int) + off = (tgt : Int)) (kt : a < b → AW x w nL cl cells slots Q tgt lv st h) (kf : ¬ a < b → AW x w nL cl cells slots Q (pc + 3) lv st h) : AW x w nL cl cells slots Q pc lv (vI b :: vI a :: st) h := by
  intro hh hl hs H ls locs hR hv hS
  obtain ⟨p, l, e, R, s, m, args, below, meth, c⟩ := x
  refine lv_icmp_lt C.ex C.by hdg ht (fun q => kt ?_ hh hl hs.2.2 H ls locs hR hv hS) (fun q => kf ?_ hh hl hs.2.2 H ls locs hR hv hS)
  · rwa [i32_lt hs.2.1 hs.1] at q
  · rwa [i32_lt hs.2.1 hs.1] at q
theorem r_if_lt (C : Cx x w rm own cc nL ret hx) {a off : Int} {tgt : Nat} (hdg : decode cc pc = .ok (.ifCond .lt off, 3)) (ht : (pc : Int) + off = (tgt : Int)) (kt : a < 0 → AW x w nL cl cells slots Q tgt lv st h) (kf : ¬ a < 0 → AW x w nL cl cells slots Q (pc + 3) lv st h) : AW x w nL cl cells slots Q pc lv (vI a :: st) h := by
  intro hh hl hs H ls locs hR hv hS
  obtain ⟨p, l, e, R, s, m, args, below, meth, c⟩ := x
  have z0 : okI 0 := ⟨by decide, by decide⟩
  have z1 : (0 : Int32) = Int32.ofInt 0 := rfl
  refine lv_if_lt C.ex C.by hdg ht (fun q => kt ?_ hh hl hs.2 H ls locs hR hv hS) (fun q => kf ?_ hh hl hs.2 H ls locs hR hv hS)
  · rw [z1] at q
    rwa [i32_lt hs.1 z0] at q
  · rw [z1] at q
    rwa [i32_lt hs.1 z0] at q
theorem r_icmp_ge (C : Cx x w rm own cc nL ret hx) {a b off : Int} {tgt : Nat} (hdg : decode cc pc = .ok (.if_icmp .ge off, 3)) (ht : (pc : Int) + off = (tgt : Int)) (kt : b ≤ a → AW x w nL cl cells slots Q tgt lv st h) (kf : ¬ b ≤ a → AW x w nL cl cells slots Q (pc + 3) lv st h) : AW x w nL cl cells slots Q pc lv (vI b :: vI a :: st) h := by
  intro hh hl hs H ls locs hR hv hS
  obtain ⟨p, l, e, R, s, m, args, below, meth, c⟩ := x
  refine lv_icmp_ge C.ex C.by hdg ht (fun q => kt ?_ hh hl hs.2.2 H ls locs hR hv hS) (fun q => kf ?_ hh hl hs.2.2 H ls locs hR hv hS)
  · rwa [i32_le hs.1 hs.2.1] at q
  · rwa [i32_le hs.1 hs.2.1] at q
theorem r_if_ge (C : Cx x w rm own cc nL ret hx) {a off : Int} {tgt : Nat} (hdg : decode cc pc = .ok (.ifCond .ge off, 3)) (ht : (pc : Int) + off = (tgt : Int)) (kt : 0 ≤ a → AW x w nL cl cells slots Q tgt lv st h) (kf : ¬ 0 ≤ a → AW x w nL cl cells slots Q (pc + 3) lv st h) : AW x w nL cl cells slots Q pc lv (vI a :: st) h := by
  intro hh hl hs H ls locs hR hv hS
  obtain ⟨p, l, e, R, s, m, args, below, meth, c⟩ := x
  have z0 : okI 0 := ⟨by decide, by decide⟩
  have z1 : (0 : Int32) = Int32.ofInt 0 := rfl
  refine lv_if_ge C.ex C.by hdg ht (fun q => kt ?_ hh hl hs.2 H ls locs hR hv hS) (fun q => kf ?_ hh hl hs.2 H ls locs hR hv hS)
  · rw [z1] at q
    rwa [i32_le z0 hs.1] at q
  · rw [z1] at q
    rwa [i32_le z0 hs.1] at q
theorem r_icmp_gt (C : Cx x w rm own cc nL ret hx) {a b off : Int} {tgt : Nat} (hdg : decode cc pc = .ok (.if_icmp .gt off, 3)) (ht : (pc : Int) + off = (tgt : Int)) (kt : b < a → AW x w nL cl cells slots Q tgt lv st h) (kf : ¬ b < a → AW x w nL cl cells slots Q (pc + 3) lv st h) : AW x w nL cl cells slots Q pc lv (vI b :: vI a :: st) h := by
  intro hh hl hs H ls locs hR hv hS
  obtain ⟨p, l, e, R, s, m, args, below, meth, c⟩ := x
  refine lv_icmp_gt C.ex C.by hdg ht (fun q => kt ?_ hh hl hs.2.2 H ls locs hR hv hS) (fun q => kf ?_ hh hl hs.2.2 H ls locs hR hv hS)
  · rwa [i32_lt hs.1 hs.2.1] at q
  · rwa [i32_lt hs.1 hs.2.1] at q
theorem r_if_gt (C : Cx x w rm own cc nL ret hx) {a off : Int} {tgt : Nat} (hdg : decode cc pc = .ok (.ifCond .gt off, 3)) (ht : (pc : Int) + off = (tgt : Int)) (kt : 0 < a → AW x w nL cl cells slots Q tgt lv st h) (kf : ¬ 0 < a → AW x w nL cl cells slots Q (pc + 3) lv st h) : AW x w nL cl cells slots Q pc lv (vI a :: st) h := by
  intro hh hl hs H ls locs hR hv hS
  obtain ⟨p, l, e, R, s, m, args, below, meth, c⟩ := x
  have z0 : okI 0 := ⟨by decide, by decide⟩
  have z1 : (0 : Int32) = Int32.ofInt 0 := rfl
  refine lv_if_gt C.ex C.by hdg ht (fun q => kt ?_ hh hl hs.2 H ls locs hR hv hS) (fun q => kf ?_ hh hl hs.2 H ls locs hR hv hS)
  · rw [z1] at q
    rwa [i32_lt z0 hs.1] at q
  · rw [z1] at q
    rwa [i32_lt z0 hs.1] at q
theorem r_icmp_le (C : Cx x w rm own cc nL ret hx) {a b off : Int} {tgt : Nat} (hdg : decode cc pc = .ok (.if_icmp .le off, 3)) (ht : (pc : Int) + off = (tgt : Int)) (kt : a ≤ b → AW x w nL cl cells slots Q tgt lv st h) (kf : ¬ a ≤ b → AW x w nL cl cells slots Q (pc + 3) lv st h) : AW x w nL cl cells slots Q pc lv (vI b :: vI a :: st) h := by
  intro hh hl hs H ls locs hR hv hS
  obtain ⟨p, l, e, R, s, m, args, below, meth, c⟩ := x
  refine lv_icmp_le C.ex C.by hdg ht (fun q => kt ?_ hh hl hs.2.2 H ls locs hR hv hS) (fun q => kf ?_ hh hl hs.2.2 H ls locs hR hv hS)
  · rwa [i32_le hs.2.1 hs.1] at q
  · rwa [i32_le hs.2.1 hs.1] at q
theorem r_if_le (C : Cx x w rm own cc nL ret hx) {a off : Int} {tgt : Nat} (hdg : decode cc pc = .ok (.ifCond .le off, 3)) (ht : (pc : Int) + off = (tgt : Int)) (kt : a ≤ 0 → AW x w nL cl cells slots Q tgt lv st h) (kf : ¬ a ≤ 0 → AW x w nL cl cells slots Q (pc + 3) lv st h) : AW x w nL cl cells slots Q pc lv (vI a :: st) h := by
  intro hh hl hs H ls locs hR hv hS
  obtain ⟨p, l, e, R, s, m, args, below, meth, c⟩ := x
  have z0 : okI 0 := ⟨by decide, by decide⟩
  have z1 : (0 : Int32) = Int32.ofInt 0 := rfl
  refine lv_if_le C.ex C.by hdg ht (fun q => kt ?_ hh hl hs.2 H ls locs hR hv hS) (fun q => kf ?_ hh hl hs.2 H ls locs hR hv hS)
  · rw [z1] at q
    rwa [i32_le hs.1 z0] at q
  · rw [z1] at q
    rwa [i32_le hs.1 z0] at q
def cmpJ (a b : Int) : Int := if b < a then 1 else if a = b then 0 else -1
theorem cmpJ_s (a b : Int) : (b < a ∧ cmpJ a b = 1) ∨ (a = b ∧ cmpJ a b = 0) ∨ (a < b ∧ cmpJ a b = -1) := by
  unfold cmpJ
  split
  · exact Or.inl ⟨by assumption, rfl⟩
  · split
    · exact Or.inr (Or.inl ⟨by assumption, rfl⟩)
    · exact Or.inr (Or.inr ⟨by omega, rfl⟩)
theorem cmpJ_ok (a b : Int) : okI (cmpJ a b) := by
  have := cmpJ_s a b
  exact ⟨by omega, by omega⟩
theorem lg_cmp_i {a b : Int} (ha : okJ a) (hb : okJ b) : lg_cmp (Int64.ofInt a) (Int64.ofInt b) = Int32.ofInt (cmpJ a b) := by
  unfold lg_cmp cmpJ
  have h1 : (Int64.ofInt a > Int64.ofInt b) = (b < a) := i64_lt hb ha
  have h2 : (Int64.ofInt a = Int64.ofInt b) = (a = b) := i64_eq ha hb
  simp only [h1, h2]
  split
  · rfl
  · split <;> rfl
theorem r_lcmp_eq (C : Cx x w rm own cc nL ret hx) {a b off : Int} {tgt : Nat} (hd1 : decode cc pc = .ok (.lcmp, 1)) (hdg : decode cc (pc + 1) = .ok (.ifCond .eq off, 3)) (ht : ((pc + 1 : Nat) : Int) + off = (tgt : Int)) (kt : a = b → AW x w nL cl cells slots Q tgt lv st h) (kf : ¬ a = b → AW x w nL cl cells slots Q (pc + 1 + 3) lv st h) : AW x w nL cl cells slots Q pc lv (vL b :: vL a :: st) h := by
  intro hh hl hs H ls locs hR hv hS
  refine W.lcmp C.ex C.by hd1 ?_
  rw [lg_cmp_i hs.2.1 hs.1]
  have hc := cmpJ_s a b
  refine r_if_eq (a := cmpJ a b) C hdg ht (fun q => kt ?_) (fun q => kf ?_) hh hl ⟨cmpJ_ok a b, hs.2.2⟩ H ls locs hR hv hS <;> omega
theorem r_lcmp_ne (C : Cx x w rm own cc nL ret hx) {a b off : Int} {tgt : Nat} (hd1 : decode cc pc = .ok (.lcmp, 1)) (hdg : decode cc (pc + 1) = .ok (.ifCond .ne off, 3)) (ht : ((pc + 1 : Nat) : Int) + off = (tgt : Int)) (kt : ¬ a = b → AW x w nL cl cells slots Q tgt lv st h) (kf : a = b → AW x w nL cl cells slots Q (pc + 1 + 3) lv st h) : AW x w nL cl cells slots Q pc lv (vL b :: vL a :: st) h := by
  intro hh hl hs H ls locs hR hv hS
  refine W.lcmp C.ex C.by hd1 ?_
  rw [lg_cmp_i hs.2.1 hs.1]
  have hc := cmpJ_s a b
  refine r_if_ne (a := cmpJ a b) C hdg ht (fun q => kt ?_) (fun q => kf ?_) hh hl ⟨cmpJ_ok a b, hs.2.2⟩ H ls locs hR hv hS <;> omega
theorem r_lcmp_lt (C : Cx x w rm own cc nL ret hx) {a b off : Int} {tgt : Nat} (hd1 : decode cc pc = .ok (.lcmp, 1)) (hdg : decode cc (pc + 1) = .ok (.ifCond .lt off, 3)) (ht : ((pc + 1 : Nat) : Int) + off = (tgt : Int)) (kt : a < b → AW x w nL cl cells slots Q tgt lv st h) (kf : ¬ a < b → AW x w nL cl cells slots Q (pc + 1 + 3) lv st h) : AW x w nL cl cells slots Q pc lv (vL b :: vL a :: st) h := by
  intro hh hl hs H ls locs hR hv hS
  refine W.lcmp C.ex C.by hd1 ?_
  rw [lg_cmp_i hs.2.1 hs.1]
  have hc := cmpJ_s a b
  refine r_if_lt (a := cmpJ a b) C hdg ht (fun q => kt ?_) (fun q => kf ?_) hh hl ⟨cmpJ_ok a b, hs.2.2⟩ H ls locs hR hv hS <;> omega
theorem r_lcmp_ge (C : Cx x w rm own cc nL ret hx) {a b off : Int} {tgt : Nat} (hd1 : decode cc pc = .ok (.lcmp, 1)) (hdg : decode cc (pc + 1) = .ok (.ifCond .ge off, 3)) (ht : ((pc + 1 : Nat) : Int) + off = (tgt : Int)) (kt : b ≤ a → AW x w nL cl cells slots Q tgt lv st h) (kf : ¬ b ≤ a → AW x w nL cl cells slots Q (pc + 1 + 3) lv st h) : AW x w nL cl cells slots Q pc lv (vL b :: vL a :: st) h := by
  intro hh hl hs H ls locs hR hv hS
  refine W.lcmp C.ex C.by hd1 ?_
  rw [lg_cmp_i hs.2.1 hs.1]
  have hc := cmpJ_s a b
  refine r_if_ge (a := cmpJ a b) C hdg ht (fun q => kt ?_) (fun q => kf ?_) hh hl ⟨cmpJ_ok a b, hs.2.2⟩ H ls locs hR hv hS <;> omega
theorem r_lcmp_gt (C : Cx x w rm own cc nL ret hx) {a b off : Int} {tgt : Nat} (hd1 : decode cc pc = .ok (.lcmp, 1)) (hdg : decode cc (pc + 1) = .ok (.ifCond .gt off, 3)) (ht : ((pc + 1 : Nat) : Int) + off = (tgt : Int)) (kt : b < a → AW x w nL cl cells slots Q tgt lv st h) (kf : ¬ b < a → AW x w nL cl cells slots Q (pc + 1 + 3) lv st h) : AW x w nL cl cells slots Q pc lv (vL b :: vL a :: st) h := by
  intro hh hl hs H ls locs hR hv hS
  refine W.lcmp C.ex C.by hd1 ?_
  rw [lg_cmp_i hs.2.1 hs.1]
  have hc := cmpJ_s a b
  refine r_if_gt (a := cmpJ a b) C hdg ht (fun q => kt ?_) (fun q => kf ?_) hh hl ⟨cmpJ_ok a b, hs.2.2⟩ H ls locs hR hv hS <;> omega
theorem r_lcmp_le (C : Cx x w rm own cc nL ret hx) {a b off : Int} {tgt : Nat} (hd1 : decode cc pc = .ok (.lcmp, 1)) (hdg : decode cc (pc + 1) = .ok (.ifCond .le off, 3)) (ht : ((pc + 1 : Nat) : Int) + off = (tgt : Int)) (kt : a ≤ b → AW x w nL cl cells slots Q tgt lv st h) (kf : ¬ a ≤ b → AW x w nL cl cells slots Q (pc + 1 + 3) lv st h) : AW x w nL cl cells slots Q pc lv (vL b :: vL a :: st) h := by
  intro hh hl hs H ls locs hR hv hS
  refine W.lcmp C.ex C.by hd1 ?_
  rw [lg_cmp_i hs.2.1 hs.1]
  have hc := cmpJ_s a b
  refine r_if_le (a := cmpJ a b) C hdg ht (fun q => kt ?_) (fun q => kf ?_) hh hl ⟨cmpJ_ok a b, hs.2.2⟩ H ls locs hR hv hS <;> omega
theorem r_goto (C : Cx x w rm own cc nL ret hx) {off : Int} {tgt : Nat} (hdg : decode cc pc = .ok (.goto off, 3)) (ht : (pc : Int) + off = (tgt : Int)) (kk : AW x w nL cl cells slots Q tgt lv st h) : AW x w nL cl cells slots Q pc lv st h := by
  intro hh hl hs H ls locs hR hv hS
  obtain ⟨p, l, e, R, s, m, args, below, meth, c⟩ := x
  exact lv_goto C.ex C.by hdg ht (kk hh hl hs H ls locs hR hv hS)
theorem r_tableIn (C : Cx x w rm own cc nL ret hx) {dflt lo hi : Int} {offs : Array Int} {len : Nat} {a off : Int} {tgt : Nat} (hdg : decode cc pc = .ok (.tableswitch dflt lo hi offs, len)) (h1 : lo ≤ a) (h2 : a ≤ hi) (ho : offs[(a - lo).toNat]? = some off) (ht : (pc : Int) + off = (tgt : Int)) (kk : AW x w nL cl cells slots Q tgt lv st h) : AW x w nL cl cells slots Q pc lv (vI a :: st) h := by
  intro hh hl hs H ls locs hR hv hS
  obtain ⟨p, l, e, R, s, m, args, below, meth, c⟩ := x
  have e1 : (Int32.ofInt a).toInt = a := i32_toInt hs.1
  exact lv_tableIn C.ex C.by hdg (by rw [e1]; omega) (by rw [e1]; omega) (by rw [e1]; exact ho) ht (kk hh hl hs.2 H ls locs hR hv hS)
theorem r_tableOut (C : Cx x w rm own cc nL ret hx) {dflt lo hi : Int} {offs : Array Int} {len : Nat} {a : Int} {tgt : Nat} (hdg : decode cc pc = .ok (.tableswitch dflt lo hi offs, len)) (h1 : a < lo ∨ hi < a) (ht : (pc : Int) + dflt = (tgt : Int)) (kk : AW x w nL cl cells slots Q tgt lv st h) : AW x w nL cl cells slots Q pc lv (vI a :: st) h := by
  intro hh hl hs H ls locs hR hv hS
  obtain ⟨p, l, e, R, s, m, args, below, meth, c⟩ := x
  have e1 : (Int32.ofInt a).toInt = a := i32_toInt hs.1
  exact lv_tableOut C.ex C.by hdg (by rw [e1]; exact h1) ht (kk hh hl hs.2 H ls locs hR hv hS)
theorem i32_and31 {a : Int} : Int32.ofInt a &&& Int32.ofInt 31 = Int32.ofInt (a % 32) := by
  have h := pk_and (Int32.ofInt a) (m := Int32.ofInt 31) 5 (by decide)
  rw [h]
  show Int32.ofNat _ = _
  rw [← Int32.ofInt_eq_ofNat]
  congr 1
  rw [Int32.toBitVec_ofInt, BitVec.toNat_ofInt]
  omega
theorem r_iand31 (C : Cx x w rm own cc nL ret hx) {a : Int} (hdg : decode cc pc = .ok (.iand, 1)) (kk : AW x w nL cl cells slots Q (pc + 1) lv (vI (a % 32) :: st) h) : AW x w nL cl cells slots Q pc lv (vI 31 :: vI a :: st) h := by
  intro hh hl hs H ls locs hR hv hS
  obtain ⟨p, l, e, R, s, m, args, below, meth, c⟩ := x
  refine lv_iand C.ex C.by hdg ?_
  rw [i32_and31]
  exact kk hh hl ⟨⟨by omega, by omega⟩, hs.2.2⟩ H ls locs hR hv hS
end ROWS
end
section
/-! Rows that read and write the heap. -/
/-- a field's link: the class own names by index the field j of the objects of tag t -/
def FLk (own : String) (index t j : Nat) : Prop := ∃ (C : String) (T : u_T) (N : Nat), uCl[clT t]? = some (C, T, N) ∧ kdT t = 0 ∧ nfT t = N ∧ j < N ∧ (∀ k ∈ u_ws C T N, k ∈ GW) ∧ (T j).1 = C ∧ Cond.fieldLink own index C (T j).2.1 (T j).2.2.1 ∈ GW
/-- it may be written, and is of type ty -/
def PLk (own : String) (index t j : Nat) (ty : FieldType) : Prop := ∃ (C : String) (T : u_T) (N : Nat) (ty0 : Nat → FieldType), uCl[clT t]? = some (C, T, N) ∧ kdT t = 0 ∧ nfT t = N ∧ j < N ∧ (∀ k ∈ u_ws C T N, k ∈ GW) ∧ (T j).1 = C ∧ Cond.fieldLink own index C (T j).2.1 (T j).2.2.1 ∈ GW ∧
  (∀ k, k < N → parseFieldDescriptor (T k).2.2.1 = some (ty0 k)) ∧ (∀ a, a < N → ∀ b, b < N → a ≠ b → (T a).2.1 ≠ (T b).2.1) ∧ (T j).2.2.2 = false ∧ ty0 j = ty
section HROWS
variable {x : MX} {w : XW} {rm : Room} {own : String} {cc : ByteArray} {nL : Nat} {ret : Option FieldType} {hx : List (Nat × Nat × Nat × Nat)} {cl : Bool} {cells slots pc : Nat} {Q : State → Prop} {lv : List (Nat × AV)} {st : List AV} {h : AH}
theorem r_get (C : Cx x w rm own cc nL ret hx) {index t i j : Nat} (F : FLk own index t j) (hdg : decode cc pc = .ok (.getfield index, 3)) {v : AV} (hv0 : fv h t i j = v) (hok : okH h → i < cntT t → okV v) (kk : AW x w nL cl cells slots Q (pc + 3) lv (v :: st) h) : AW x w nL cl cells slots Q pc lv (vO t i :: st) h := by
  intro hh hl hs H ls locs hR hv hS
  obtain ⟨p, l, e, R, s, m, args, below, meth, c⟩ := x
  obtain ⟨Cn, T, N, hc, hk, rfl, hj, hin, hown, hlink⟩ := F
  obtain ⟨cell, q1, q2, q3, q4⟩ := cellR_obj hk (hR t i hs.1)
  obtain ⟨hS1, hfc, kC, hkC, hkind⟩ := C.kw.1.1 (clT t) _ hc
  obtain ⟨cf, kf, fi, f, hi, hsl⟩ := hS1 j hj
  refine W.getf C.ex C.by C.ow (C.ws _ hlink) (by rw [← hown]; exact hi) (u_facts hfc hkC (u_lays C.ws hin hj) hi).1 q1 (by rw [q3]; exact fun h => by cases h) (v := cV w v) ?_ rfl rfl hdg (kk hh hl ⟨hok hh hs.1, hs.2⟩ H ls locs hR hv hS)
  rw [hsl, q4 j hj]
  show some (cV w (fv h t i j)) = _
  rw [hv0]
theorem r_getI (C : Cx x w rm own cc nL ret hx) {index t i j : Nat} (F : FLk own index t j) (hdg : decode cc pc = .ok (.getfield index, 3)) (h0 : ftT t j = 0) (kk : AW x w nL cl cells slots Q (pc + 3) lv (vI (h t i j) :: st) h) : AW x w nL cl cells slots Q pc lv (vO t i :: st) h :=
  r_get C F hdg (fv_0 h0) (fun hh _ => (hh t i j).1 h0) kk
theorem r_getL (C : Cx x w rm own cc nL ret hx) {index t i j : Nat} (F : FLk own index t j) (hdg : decode cc pc = .ok (.getfield index, 3)) (h0 : ftT t j = 1) (kk : AW x w nL cl cells slots Q (pc + 3) lv (vL (h t i j) :: st) h) : AW x w nL cl cells slots Q pc lv (vO t i :: st) h :=
  r_get C F hdg (fv_1 h0) (fun hh _ => (hh t i j).2 h0) kk
theorem r_getO (C : Cx x w rm own cc nL ret hx) {index t i j t' i' : Nat} (F : FLk own index t j) (hdg : decode cc pc = .ok (.getfield index, 3)) (h0 : ftT t j = 2) (hr : rfT t i j = (t', i')) (ho : i < cntT t → i' < cntT t') (kk : AW x w nL cl cells slots Q (pc + 3) lv (vO t' i' :: st) h) : AW x w nL cl cells slots Q pc lv (vO t i :: st) h :=
  r_get (v := vO t' i') C F hdg (by rw [fv_2 h0, hr]) (fun _ hi => ho hi) kk
theorem r_put (C : Cx x w rm own cc nL ret hx) {index t i j : Nat} {ty : FieldType} (F : PLk own index t j ty) (hdg : decode cc pc = .ok (.putfield index, 3)) {v : AV} {n : Int} (hv0 : fv (hset h t i j n) t i j = v) (hok : okV v → (ftT t j = 0 → okI n) ∧ (ftT t j = 1 → okJ n)) (hn : narrow ty (cV w v) = cV w v) (hfit : fits ty (cV w v) = true) (kk : AW x w nL false cells slots Q (pc + 3) lv st (hset h t i j n)) : AW x w nL cl cells slots Q pc lv (v :: vO t i :: st) h := by
  intro hh hl hs H ls locs hR hv hS
  obtain ⟨p, l, e, R, s, m, args, below, meth, c⟩ := x
  obtain ⟨Cn, T, N, ty0, hc, hk, rfl, hj, hin, hown, hlink, hty, hnm, hfin, rfl⟩ := F
  have hap := va_apart (own := own) C.ws hin ty0 hty hnm C.kw.1 hc
  obtain ⟨cell, q1, q2, q3, q4⟩ := cellR_obj hk (hR t i hs.2.1)
  obtain ⟨hS1, hfc, kC, hkC, hkind⟩ := C.kw.1.1 (clT t) _ hc
  obtain ⟨cf, kf, fi, f, hi, hsl⟩ := hS1 j hj
  have hlay := C.ws _ (hin _ (u_in_lay hj))
  unfold u_lay at hlay
  rw [if_neg (by rw [hfin]; decide)] at hlay
  have hst := (u_facts hfc hkC (u_lays C.ws hin hj) hi).1
  have h6 := u_store hfc hkC hkind hlay hi (hty j hj) hn hfit
  refine W.putK C.ex C.by (f := f) ⟨C.ow, C.ws _ hlink, ⟨_, _, _, (by rw [← hown]; exact hi)⟩, hst⟩ (by rw [q2]; exact h6) q1 q3 (by rw [hsl]; exact k2_hasslot (q4 j hj)) rfl rfl hdg fun H' e1 e2 e3 => ?_
  rw [hsl] at e1 ⊢
  refine kk (hset_ok hh (hok hs.1).1 (hok hs.1).2) hl hs.2.2 H' ls _ (hR.set C.ij hs.2.1 (cellR_ofObj hk (t_OB.to (V := updV (fun j => cV w (fv h t i j)) j (cV w v)) ⟨_, e1, q2, q3, t_set q4 hap hj (cV w v)⟩ fun k' _ => ?_)) e3) hv (hS.weak.put e2 e3 (Or.inl ⟨t, i, hs.2.1, rfl⟩))
  exact congrFun (fv_upd hv0) k'
theorem r_putI (C : Cx x w rm own cc nL ret hx) {index t i j : Nat} {n : Int} (F : PLk own index t j .int) (hdg : decode cc pc = .ok (.putfield index, 3)) (h0 : ftT t j = 0) (kk : AW x w nL false cells slots Q (pc + 3) lv st (hset h t i j n)) : AW x w nL cl cells slots Q pc lv (vI n :: vO t i :: st) h :=
  r_put C F hdg (by rw [fv_0 h0, hset_same]) (fun q => ⟨fun _ => q, fun e => by rw [h0] at e; cases e⟩) rfl rfl kk
theorem r_putZ (C : Cx x w rm own cc nL ret hx) {index t i j : Nat} {n : Int} (F : PLk own index t j .boolean) (hdg : decode cc pc = .ok (.putfield index, 3)) (h0 : ftT t j = 0) (hz : n = 0 ∨ n = 1) (kk : AW x w nL false cells slots Q (pc + 3) lv st (hset h t i j n)) : AW x w nL cl cells slots Q pc lv (vI n :: vO t i :: st) h :=
  r_put C F hdg (by rw [fv_0 h0, hset_same]) (fun q => ⟨fun _ => q, fun e => by rw [h0] at e; cases e⟩) (by rcases hz with rfl | rfl <;> rfl) (by rcases hz with rfl | rfl <;> rfl) kk
theorem r_putL (C : Cx x w rm own cc nL ret hx) {index t i j : Nat} {n : Int} (F : PLk own index t j .long) (hdg : decode cc pc = .ok (.putfield index, 3)) (h0 : ftT t j = 1) (kk : AW x w nL false cells slots Q (pc + 3) lv st (hset h t i j n)) : AW x w nL cl cells slots Q pc lv (vL n :: vO t i :: st) h :=
  r_put C F hdg (by rw [fv_1 h0, hset_same]) (fun q => ⟨fun e => (by rw [h0] at e; cases e), fun _ => q⟩) rfl rfl kk
theorem r_iaload (C : Cx x w rm own cc nL ret hx) {t i : Nat} {a : Int} (hdg : decode cc pc = .ok (.iaload, 1)) (hk : kdT t = 1) (h0 : ∀ j, ftT t j = 0) (hi : 0 ≤ a ∧ a < lnT t) (kk : AW x w nL cl cells slots Q (pc + 1) lv (vI (h t i a.toNat) :: st) h) : AW x w nL cl cells slots Q pc lv (vI a :: vO t i :: st) h := by
  intro hh hl hs H ls locs hR hv hS
  obtain ⟨p, l, e, R, s, m, args, below, meth, c⟩ := x
  have hc := cellR_arr hk (hR t i hs.2.1)
  refine W.iald C.ex C.by hc ((C.kw.1.2 0 (w.2.2 0, .int) rfl).1 _ _) (fun q => by cases q) (by rw [arrV_size]; exact i32_in hs.1 hi.1 hi.2) (v := cV w (vI (h t i a.toNat))) (by rw [i32_ix hs.1, arrV_read _ _ (by omega), fv_0 (h0 _)]) rfl rfl hdg (kk hh hl ⟨(hh t i _).1 (h0 _), hs.2.2⟩ H ls locs hR hv hS)
theorem r_laload (C : Cx x w rm own cc nL ret hx) {t i : Nat} {a : Int} (hdg : decode cc pc = .ok (.laload, 1)) (hk : kdT t = 2) (h0 : ∀ j, ftT t j = 1) (hi : 0 ≤ a ∧ a < lnT t) (kk : AW x w nL cl cells slots Q (pc + 1) lv (vL (h t i a.toNat) :: st) h) : AW x w nL cl cells slots Q pc lv (vI a :: vO t i :: st) h := by
  intro hh hl hs H ls locs hR hv hS
  obtain ⟨p, l, e, R, s, m, args, below, meth, c⟩ := x
  have hc := cellR_arr hk (hR t i hs.2.1)
  refine W.lald C.ex C.by hc ((C.kw.1.2 1 (w.2.2 1, .long) rfl).1 _ _) (fun q => by cases q) (by rw [arrV_size]; exact i32_in hs.1 hi.1 hi.2) (v := cV w (vL (h t i a.toNat))) (by rw [i32_ix hs.1, arrV_read _ _ (by omega), fv_1 (h0 _)]) rfl rfl hdg (kk hh hl ⟨(hh t i _).2 (h0 _), hs.2.2⟩ H ls locs hR hv hS)
theorem r_zaload (C : Cx x w rm own cc nL ret hx) {t i : Nat} {a : Int} (hdg : decode cc pc = .ok (.baload, 1)) (hk : kdT t = 3) (h0 : ∀ j, ftT t j = 0) (hi : 0 ≤ a ∧ a < lnT t) (kk : AW x w nL cl cells slots Q (pc + 1) lv (vI (h t i a.toNat) :: st) h) : AW x w nL cl cells slots Q pc lv (vI a :: vO t i :: st) h := by
  intro hh hl hs H ls locs hR hv hS
  obtain ⟨p, l, e, R, s, m, args, below, meth, c⟩ := x
  have hc := cellR_arr hk (hR t i hs.2.1)
  refine W.zald C.ex C.by hc ((C.kw.1.2 2 (w.2.2 2, .boolean) rfl).1 _ _) (fun q => by cases q) (by rw [arrV_size]; exact i32_in hs.1 hi.1 hi.2) (v := cV w (vI (h t i a.toNat))) (by rw [i32_ix hs.1, arrV_read _ _ (by omega), fv_0 (h0 _)]) rfl rfl hdg (kk hh hl ⟨(hh t i _).1 (h0 _), hs.2.2⟩ H ls locs hR hv hS)
theorem r_aaload (C : Cx x w rm own cc nL ret hx) {t i t' i' : Nat} {a : Int} (hdg : decode cc pc = .ok (.aaload, 1)) {k : Nat} {ty : FieldType} (hk : kdT t = k + 1) (hty : (tysL w)[k]? = some (w.2.2 k, ty)) (hir : ty.isReference = true) (h0 : ∀ j, ftT t j = 2) (hi : 0 ≤ a ∧ a < lnT t) (hr : rfT t i a.toNat = (t', i')) (ho : i < cntT t → 0 ≤ a ∧ a < lnT t → i' < cntT t') (kk : AW x w nL cl cells slots Q (pc + 1) lv (vO t' i' :: st) h) : AW x w nL cl cells slots Q pc lv (vI a :: vO t i :: st) h := by
  intro hh hl hs H ls locs hR hv hS
  obtain ⟨p, l, e, R, s, m, args, below, meth, c⟩ := x
  have hc := cellR_arr hk (hR t i hs.2.1)
  refine W.aald C.ex C.by hc ((C.kw.1.2 k _ hty).1 _ _) hir (fun q => by cases q) (by rw [arrV_size]; exact i32_in hs.1 hi.1 hi.2) (v := cV w (vO t' i')) (by rw [i32_ix hs.1, arrV_read _ _ (by omega), fv_2 (h0 _), hr]) rfl rfl hdg (kk hh hl ⟨ho hs.2.1 hi, hs.2.2⟩ H ls locs hR hv hS)
theorem r_alen (C : Cx x w rm own cc nL ret hx) {t i : Nat} (hdg : decode cc pc = .ok (.arraylength, 1)) {k : Nat} {ty : FieldType} (hk : kdT t = k + 1) (hty : (tysL w)[k]? = some (w.2.2 k, ty)) (hn : (lnT t : Int) ≤ 2147483647) (kk : AW x w nL cl cells slots Q (pc + 1) lv (vI (lnT t : Int) :: st) h) : AW x w nL cl cells slots Q pc lv (vO t i :: st) h := by
  intro hh hl hs H ls locs hR hv hS
  obtain ⟨p, l, e, R, s, m, args, below, meth, c⟩ := x
  have hc := cellR_arr hk (hR t i hs.1)
  refine W.alen C.ex C.by hc ((C.kw.1.2 k _ hty).1 _ _) (n := Int32.ofInt (lnT t : Int)) ?_ rfl rfl hdg (kk hh hl ⟨⟨by omega, hn⟩, hs.2⟩ H ls locs hR hv hS)
  rw [arrV_size, Int32.ofInt_eq_ofNat]
theorem r_iastore (C : Cx x w rm own cc nL ret hx) {t i : Nat} {a n : Int} (hdg : decode cc pc = .ok (.iastore, 1)) (hk : kdT t = 1) (h0 : ∀ j, ftT t j = 0) (hi : 0 ≤ a ∧ a < lnT t) (kk : AW x w nL false cells slots Q (pc + 1) lv st (hset h t i a.toNat n)) : AW x w nL cl cells slots Q pc lv (vI n :: vI a :: vO t i :: st) h := by
  intro hh hl hs H ls locs hR hv hS
  obtain ⟨p, l, e, R, s, m, args, below, meth, c⟩ := x
  have hc := cellR_arr hk (hR t i hs.2.2.1)
  refine W.iast C.ex C.by hc ((C.kw.1.2 0 (w.2.2 0, .int) rfl).1 _ _) (fun q => by cases q) (by rw [arrV_size]; exact i32_in hs.2.1 hi.1 hi.2) rfl rfl hdg fun H1 e1 z oq => ?_
  rw [i32_ix hs.2.1] at e1 ⊢
  exact kk (hset_ok hh (fun _ => hs.1) (fun q => by rw [h0] at q; cases q)) hl hs.2.2.2 H1 ls _ (hR.setA C.ij hs.2.2.1 hk (v := vI n) (by rw [fv_0 (h0 _), hset_same]) e1 oq) hv (hS.weak.put z oq (Or.inl ⟨t, i, hs.2.2.1, rfl⟩))
theorem r_lastore (C : Cx x w rm own cc nL ret hx) {t i : Nat} {a n : Int} (hdg : decode cc pc = .ok (.lastore, 1)) (hk : kdT t = 2) (h0 : ∀ j, ftT t j = 1) (hi : 0 ≤ a ∧ a < lnT t) (kk : AW x w nL false cells slots Q (pc + 1) lv st (hset h t i a.toNat n)) : AW x w nL cl cells slots Q pc lv (vL n :: vI a :: vO t i :: st) h := by
  intro hh hl hs H ls locs hR hv hS
  obtain ⟨p, l, e, R, s, m, args, below, meth, c⟩ := x
  have hc := cellR_arr hk (hR t i hs.2.2.1)
  refine W.last C.ex C.by hc ((C.kw.1.2 1 (w.2.2 1, .long) rfl).1 _ _) (fun q => by cases q) (by rw [arrV_size]; exact i32_in hs.2.1 hi.1 hi.2) rfl rfl hdg fun H1 e1 z oq => ?_
  rw [i32_ix hs.2.1] at e1 ⊢
  exact kk (hset_ok hh (fun q => by rw [h0] at q; cases q) (fun _ => hs.1)) hl hs.2.2.2 H1 ls _ (hR.setA C.ij hs.2.2.1 hk (v := vL n) (by rw [fv_1 (h0 _), hset_same]) e1 oq) hv (hS.weak.put z oq (Or.inl ⟨t, i, hs.2.2.1, rfl⟩))
theorem r_zastore (C : Cx x w rm own cc nL ret hx) {t i : Nat} {a n : Int} (hdg : decode cc pc = .ok (.bastore, 1)) (hk : kdT t = 3) (h0 : ∀ j, ftT t j = 0) (hz : n = 0 ∨ n = 1) (hi : 0 ≤ a ∧ a < lnT t) (kk : AW x w nL false cells slots Q (pc + 1) lv st (hset h t i a.toNat n)) : AW x w nL cl cells slots Q pc lv (vI n :: vI a :: vO t i :: st) h := by
  intro hh hl hs H ls locs hR hv hS
  obtain ⟨p, l, e, R, s, m, args, below, meth, c⟩ := x
  have hc := cellR_arr hk (hR t i hs.2.2.1)
  have hnz : narrow .boolean (.int (Int32.ofInt n)) = .int (Int32.ofInt n) := by rcases hz with rfl | rfl <;> rfl
  refine W.zast C.ex C.by hc ((C.kw.1.2 2 (w.2.2 2, .boolean) rfl).1 _ _) (fun q => by cases q) (by rw [arrV_size]; exact i32_in hs.2.1 hi.1 hi.2) rfl rfl hdg fun H1 e1 z oq => ?_
  rw [i32_ix hs.2.1] at e1 ⊢
  rw [hnz] at e1
  exact kk (hset_ok hh (fun _ => hs.1) (fun q => by rw [h0] at q; cases q)) hl hs.2.2.2 H1 ls _ (hR.setA C.ij hs.2.2.1 hk (v := vI n) (by rw [fv_0 (h0 _), hset_same]) e1 oq) hv (hS.weak.put z oq (Or.inl ⟨t, i, hs.2.2.1, rfl⟩))
end HROWS
end
section
/-! Contracts, calls, ends. -/
abbrev AO : Type := Option AV ⊕ Nat
def excR (k a : Nat) (t : State) : Prop := ∃ cell : Cell, t.heap[a]? = some cell ∧ cell.vm.isStatics = false ∧ t.vm.findClass (exN k) = some cell.cls
def outR (w : XW) (t : State) (ao : AO) (o : Outcome) : Prop := match ao with
  | .inl none => o = .returned none
  | .inl (some v) => o = .returned (some (cV w v)) ∧ okV v
  | .inr k => ∃ a, o = .threw a ∧ excR k a t
def QA (w : XW) (Qa : AO → AH → Prop) (s : State) (o : Outcome) (t : State) : Prop := ∃ ao h', Qa ao h' ∧ okH h' ∧ outR w t ao o ∧ HRep w h' t.heap ∧ va_F (inU w s.heap.size) s t
def FE (pu : Bool) (w : XW) (s : State) (o : Outcome) (t : State) (mc ms : Nat) : Prop := s.WarmedH t.vm ∧ (∃ L, s.sameButNew ({ t with vm := s.vm } : State) L mc ms ∧ ∀ q ∈ L, inU w s.heap.size q.base) ∧ (pu = true → ∀ v, o = .returned v → t.heap = s.heap ∧ s.sameButNew ({ t with vm := s.vm } : State) [] 0 0)
def AQ (x : MX) (w : XW) (pu : Bool) (mc ms : Nat) (Qa : AO → AH → Prop) : State → Prop := fun t => ∃ o, t.status = .running ∧ Ended t x.below o ∧ QA w Qa x.s o t ∧ FE pu w x.s o t mc ms
/-- a method's contract, at these arguments and this heap -/
def AM (l : Launch) (y : MethodName) (ws : List Cond) (pu : Bool) (rm : Room) (w : XW) (as : List AV) (h : AH) (Qa : AO → AH → Prop) : Prop :=
  okH h → okS as → adInj w → MetFree l y (headSpec ws rm) (fun a U => a = (as.map (cV w)).toArray ∧ HRep w h U.heap ∧ KW w U) (fun _ _ _ _ _ => True) (fun _ st o t => QA w Qa st o t ∧ FE pu w st o t rm.cells rm.slots)
def codeW (y : MethodName) (cc : ByteArray) (nL : Nat) (ret : Option FieldType) (hs : List (Nat × Nat × Nat × Nat)) : Cond := match hs with
  | [] => .code y cc nL ret
  | _ :: _ => .codeWith y cc nL ret hs
def wsM (y : MethodName) (cc : ByteArray) (nL : Nat) (ret : Option FieldType) (hs : List (Nat × Nat × Nat × Nat)) : List Cond := codeW y cc nL ret hs :: GW
theorem codeW_spec {y : MethodName} {cc : ByteArray} {nL : Nat} {ret : Option FieldType} {hs : List (Nat × Nat × Nat × Nat)} {args : Array Value} {s : State} {m : MethodId} (hn : s.methodNamed? y = some m) (h : (codeW y cc nL ret hs).before args s = true) :
    ∃ meth c, s.vm.method? m = some meth ∧ meth.code = some c ∧ c.code = cc ∧ c.maxLocals = nL ∧ meth.sig.returnType = ret ∧ meth.locks = false ∧ c.exceptionTable.toList = tableOf hs ∧ parseMethodDescriptor y.desc = some meth.sig := by
  cases hs with
  | nil =>
    obtain ⟨meth, c, h1, h2, h3, h4, h5, h6, h7, h8⟩ := Cond.code_spec hn h
    refine ⟨meth, c, h1, h2, h3, h4, h5, h6, ?_, h8⟩
    have h0 : c.exceptionTable.size = 0 := by simpa [Array.isEmpty] using h7
    exact List.eq_nil_of_length_eq_zero (by simpa using h0)
  | cons a b =>
    obtain ⟨m', meth, c, hn', h1, h2, h3, h4, h7, h5, h6, h8⟩ := Cond.codeWith_spec h
    cases hn.symm.trans hn'
    exact ⟨meth, c, h1, h2, h3, h4, h5, h6, by rw [← h7, table_eq], h8⟩
theorem aargs_map (w : XW) (as : List AV) : ∀ k, (aargs k as).map (cP w) = lv_args k (as.map (cV w)) := by
  induction as with
  | nil => intro k; rfl
  | cons v as ih =>
    intro k
    show cP w (k, v) :: (aargs _ as).map (cP w) = (k, cV w v) :: lv_args _ _
    rw [ih]
    have e : (if isL v = true then k + 2 else k + 1) = (if (cV w v).category = 2 then k + 2 else k + 1) := by rcases v with n | n | o | a <;> rfl
    rw [e]
    rfl
def nargs (as : List AV) : Nat := match as with
  | [] => 0
  | v :: as => (if isL v then 2 else 1) + nargs as
theorem nargs_len (w : XW) (as : List AV) : (lg_sl (as.map (cV w))).length = nargs as := by
  induction as with
  | nil => rfl
  | cons v as ih =>
    show (lg_sl (cV w v :: as.map (cV w))).length = _
    have e : lg_sl (cV w v :: as.map (cV w)) = (if (cV w v).category = 2 then [Slot.val (cV w v), Slot.second] else [Slot.val (cV w v)]) ++ lg_sl (as.map (cV w)) := rfl
    rw [e, List.length_append, ih]
    rcases v with n | n | o | a <;> rfl
theorem sum_cat (w : XW) (st : List AV) : ((st.map (cV w)).map fun v => v.category).sum = nargs st := by
  induction st with
  | nil => rfl
  | cons v st ih =>
    show (cV w v).category + ((st.map (cV w)).map fun v => v.category).sum = _
    rw [ih]
    rcases v with n | n | o | a <;> rfl
theorem AM.of {l : Launch} (hl : l.stackTraces = false) {y : MethodName} {pu : Bool} {rm : Room} {w : XW} {as : List AV} {h : AH} {Qa : AO → AH → Prop} {cc : ByteArray} {nL : Nat} {ret : Option FieldType} {hs : List (Nat × Nat × Nat × Nat)}
    (hy : plainName y.cls = true) (hn : nargs as ≤ nL) (body : ∀ x : MX, x.l = l → Cx x w rm y.cls cc nL ret hs → (x.meth.name = y.name) → AW x w nL true 0 0 (AQ x w pu rm.cells rm.slots Qa) 0 (aargs 0 as) [] h) : AM l y (wsM y cc nL ret hs) pu rm w as h Qa := by
  intro hh has hij
  refine MetFree.of_bodyS (code := cc) (maxLocals := nL) (ret := ret) hy ?_ ?_
  · intro args s m hp hnm
    obtain ⟨meth, c, h1, h2, h3, h4, h5, h6, -, -⟩ := codeW_spec hnm (atoms_spec (ws := wsM y cc nL ret hs) hp _ List.mem_cons_self)
    exact ⟨meth, c, h1, h2, h3, h4, h5, h6⟩
  · intro p e s m args below meth c s₁ B hml hP _
    obtain ⟨rfl, hR, hK⟩ := hP
    have hts := atoms_spec (ws := wsM y cc nL ret hs) B.pre
    have hh0 : s₁.heap = s.heap := by rw [B.state]; rfl
    obtain ⟨meth', c', h1, h2, h3, h4, h5, h6, h7, h8⟩ := codeW_spec B.named (hts _ List.mem_cons_self)
    have hcc : c' = c := by
      have h9 := (Stand.of_body B).code
      cases h1.symm.trans B.method
      exact Option.some.inj (h2.symm.trans h9)
    subst hcc
    have X0 := Stand.of_body B
    have htr : e.platform.stackTraces = false := by rw [X0.admits.platform]; exact hl
    have C : Cx (p, l, e, rm, s, m, (as.map (cV w)).toArray, below, meth, c') w rm y.cls cc nL ret hs :=
      ⟨B.exec, B.bytes, hml, findClass_of_methodNamed B.named, B.notSynchronized, B.returns, rfl, fun k hk => hts k (List.mem_cons_of_mem _ hk), hK, hij, htr, h7⟩
    have hlv := lv_entry (as.map (cV w)) (n := nL) (by rw [nargs_len]; exact hn)
    rw [← aargs_map] at hlv
    have k := body _ rfl C (name_of_methodNamed B.named B.method).1 hh (aargs_ok has 0) trivial s.heap _ [] hR hlv ⟨rfl, rfl⟩
    rw [lg_entry_eq]
    obtain ⟨t, a1, o, b1, b2, b3, b4⟩ := k s₁ hh0 X0
    exact ⟨t, o, a1, b1, b2, b3, b4⟩
section ENDS
variable {x : MX} {w : XW} {rm : Room} {own : String} {cc : ByteArray} {nL : Nat} {ret : Option FieldType} {hx : List (Nat × Nat × Nat × Nat)} {cl pu : Bool} {cells slots mc ms pc : Nat} {Q : State → Prop} {lv : List (Nat × AV)} {st : List AV} {h : AH} {Qa : AO → AH → Prop}
theorem x_mq {o0 : Outcome} {ao : AO} {H : Heap} {locs : List Loc} (hq : Qa ao h) (hh : okH h) (ho : ∀ t, outR w t ao o0) (hR : HRep w h H) (hS : frS cl x w H locs) (hc : cells ≤ mc ∧ slots ≤ ms) (hpu : pu = true → cl = true ∧ cells = 0 ∧ slots = 0) {t : State}
    (hm : MQ x.below (fun _ _ o t => o = o0 ∧ t.heap = H) x.args x.s cells slots (fun b => ∃ l ∈ locs, l.base = b) t) : AQ x w pu mc ms Qa t := by
  obtain ⟨o, h1, h2, ⟨rfl, hH⟩, L, ⟨-, hW, hsame⟩, hL⟩ := hm
  refine ⟨o, h1, h2, ⟨ao, h, hq, hh, ho t, by rw [hH]; exact hR, hS.weak.F hH⟩, hW, ⟨L, hsame.mono hc.1 hc.2, fun q hq => ?_⟩, fun hp v _ => ?_⟩
  · obtain ⟨l, h3, h4⟩ := hL q hq
    rw [← h4]
    exact hS.weak.2.2 l h3
  · obtain ⟨e1, e2, e3⟩ := hpu hp
    subst e1; subst e2; subst e3
    obtain ⟨e4, e5⟩ := hS
    subst e5
    have hL0 : L = [] := List.eq_nil_iff_forall_not_mem.mpr fun q hq => by
      obtain ⟨l, h3, -⟩ := hL q hq
      cases h3
    subst hL0
    exact ⟨by rw [hH, e4], hsame⟩
theorem xW.mono {H : Heap} {locs : List Loc} {Q1 Q2 : State → Prop} {g : JFrame} (k : xW x H locs cells slots Q1 g) (f : ∀ t, Q1 t → Q2 t) : xW x H locs cells slots Q2 g := fun T hT X => by
  obtain ⟨t, a, b⟩ := k T hT X
  exact ⟨t, a, f t b⟩
theorem r_iret (C : Cx x w rm own cc nL (some .int) hx) {n : Int} (hdg : decode cc pc = .ok (.ireturn, 1)) (hq : okI n → Qa (.inl (some (vI n))) h) (hc : cells ≤ mc ∧ slots ≤ ms) (hpu : pu = true → cl = true ∧ cells = 0 ∧ slots = 0) : AW x w nL cl cells slots (AQ x w pu mc ms Qa) pc lv [vI n] h := by
  intro hh hl hs H ls locs hR hv hS
  have hlocks : x.meth.locks = false := C.lk
  exact xW.mono (W.iret (Qc := fun _ _ o t => o = .returned (some (.int (Int32.ofInt n))) ∧ t.heap = H) (free := fun b => ∃ l ∈ locs, l.base = b) C.ex C.by C.rt (fun t ht _ => ⟨rfl, ht⟩) (fun q hq => ⟨q, hq, rfl⟩) hdg hlocks) fun t ht => x_mq (ao := .inl (some (vI n))) (hq hs.1) hh (fun _ => ⟨rfl, hs.1⟩) hR hS hc hpu ht
theorem r_zret (C : Cx x w rm own cc nL (some .boolean) hx) {n : Int} (hdg : decode cc pc = .ok (.ireturn, 1)) (hz : n = 0 ∨ n = 1) (hq : Qa (.inl (some (vI n))) h) (hc : cells ≤ mc ∧ slots ≤ ms) (hpu : pu = true → cl = true ∧ cells = 0 ∧ slots = 0) : AW x w nL cl cells slots (AQ x w pu mc ms Qa) pc lv [vI n] h := by
  intro hh hl hs H ls locs hR hv hS
  have hlocks : x.meth.locks = false := C.lk
  have hnz : narrow .boolean (.int (Int32.ofInt n)) = .int (Int32.ofInt n) := by rcases hz with rfl | rfl <;> rfl
  exact xW.mono (W.zret (Qc := fun _ _ o t => o = .returned (some (.int (Int32.ofInt n))) ∧ t.heap = H) (free := fun b => ∃ l ∈ locs, l.base = b) C.ex C.by C.rt hnz (fun t ht _ => ⟨rfl, ht⟩) (fun q hq => ⟨q, hq, rfl⟩) hdg hlocks) fun t ht => x_mq (ao := .inl (some (vI n))) hq hh (fun _ => ⟨rfl, hs.1⟩) hR hS hc hpu ht
theorem r_lret (C : Cx x w rm own cc nL (some .long) hx) {n : Int} (hdg : decode cc pc = .ok (.lreturn, 1)) (hq : okJ n → Qa (.inl (some (vL n))) h) (hc : cells ≤ mc ∧ slots ≤ ms) (hpu : pu = true → cl = true ∧ cells = 0 ∧ slots = 0) : AW x w nL cl cells slots (AQ x w pu mc ms Qa) pc lv [vL n] h := by
  intro hh hl hs H ls locs hR hv hS
  have hlocks : x.meth.locks = false := C.lk
  exact xW.mono (W.lret (Qc := fun _ _ o t => o = .returned (some (.long (Int64.ofInt n))) ∧ t.heap = H) (free := fun b => ∃ l ∈ locs, l.base = b) C.ex C.by C.rt (fun t ht _ => ⟨rfl, ht⟩) (fun q hq => ⟨q, hq, rfl⟩) hdg hlocks) fun t ht => x_mq (ao := .inl (some (vL n))) (hq hs.1) hh (fun _ => ⟨rfl, hs.1⟩) hR hS hc hpu ht
theorem r_vret (C : Cx x w rm own cc nL none hx) (hdg : decode cc pc = .ok (.return_, 1)) (hq : Qa (.inl none) h) (hc : cells ≤ mc ∧ slots ≤ ms) (hpu : pu = true → cl = true ∧ cells = 0 ∧ slots = 0) : AW x w nL cl cells slots (AQ x w pu mc ms Qa) pc lv [] h := by
  intro hh hl hs H ls locs hR hv hS
  have hlocks : x.meth.locks = false := C.lk
  exact xW.mono (W.vret (Qc := fun _ _ o t => o = .returned none ∧ t.heap = H) (free := fun b => ∃ l ∈ locs, l.base = b) C.ex C.by C.rt (fun t ht _ => ⟨rfl, ht⟩) (fun q hq => ⟨q, hq, rfl⟩) hdg hlocks) fun t ht => x_mq (ao := .inl none) hq hh (fun _ => rfl) hR hS hc hpu ht
end ENDS
/-! Calls. -/
def xB (U t : State) : State := ({ U with heap := t.heap, slotsUsed := t.slotsUsed } : State).setVm t.vm
theorem x_back {l : Launch} {R : Room} {p : Program} {e : Env} {below : List Frame} {s : State} {sargs : Array Value} {y : MethodName} {len Wd maxL : Nat} {S : Spec} {P : Array Value → State → Prop} {Qm : Array Value → State → Outcome → State → Prop}
    (hM : MetFree l y S P (fun _ _ _ _ _ => True) Qm) (hframes : S.room.frames + 1 ≤ R.frames) (hlocals : Wd + (maxL + 11) + S.room.locals ≤ R.locals)
    {m : MethodId} {meth : Method} {c : Code} {U : State} {Ls : List Loc} {c0 s0 : Nat} (X : Stand p l e R s m sargs below meth c U Ls c0 s0) {g : JFrame} (hg : g.method = m) (hsize : g.locals.size = c.maxLocals) {ig : Instr} (hdg : decode c.code g.pc = .ok (ig, len))
    (hW : 2 * g.monitorRoom + (g.stack.map fun v => v.category).sum ≤ Wd) {mk : MethodId} (hn : U.methodNamed? y = some mk) {a : Array Value} (h1 : S.pre.before a U = true)
    {methY : Method} {cY : Code} (hmY : U.vm.method? mk = some methY) (hcY : methY.code = some cY) (hlY : cY.maxLocals = maxL) (h3 : (Cond.initialized y.cls).before a U = true) (h4 : c0 + S.room.cells ≤ R.cells) (h5 : s0 + S.room.slots ≤ R.slots) (hP : P a (U.calling g mk a)) :
    ∃ (o : Outcome) (t : State), Qm a (U.calling g mk a) o t ∧ ∀ (L : List Loc) (k n : Nat), U.WarmedH t.vm → (U.calling g mk a).sameButNew ({ t with vm := (U.calling g mk a).vm } : State) L k n →
      Stand p l e R s m sargs below meth c (xB U t) (Ls ++ L) (c0 + k) (s0 + n) ∧
      (∀ v, o = .returned v → Steps p.tables e below (doInvoke e (U.setTop g) [] mk a).1 ((xB U t).setTop { g with pc := g.pc + len, stack := v.toList ++ g.stack })) ∧
      (∀ z, o = .threw z → Steps p.tables e below (doInvoke e (U.setTop g) [] mk a).1 (((xB U t).setTop g).pushFrame (.throwing z))) := by
  obtain ⟨kY, hkY, -⟩ := className_of_methodNamed hn
  have hinitY : kY.init = .initialized := Cond.initialized_spec (findClass_of_methodNamed hn) hkY h3
  have h : At U g.method c below := by rw [hg]; exact X.here
  have happ : S.appliesLoose y e.platform (U.calling g mk a) = true :=
    Spec.appliesLoose_calling (g := g) h hdg hn hkY hinitY
      (X.room_calling (g := g) (R' := S.room) hsize hmY hcY hframes (by rw [hlY]; omega) h4 h5) h1
  obtain ⟨mid, hmid⟩ := h.above
  have hfr : (U.setTop g).frames = (.java g :: mid) ++ below := by rw [State.frames_setTop' g h.top, hmid]; rfl
  obtain ⟨o, t, hsteps, -, hend, hq⟩ := Steps.callFree hM p X.admits X.cas X.clock (acts := []) hfr happ hP trivial
  refine ⟨o, t, hq, fun L k n hW' hsb => ?_⟩
  obtain ⟨e2, q2, q3, q4, q5, q6⟩ := id hsb
  rw [State.frames_setTop' g h.top] at hend
  obtain ⟨g₀, hg0⟩ := Option.isSome_iff_exists.mp h.top
  obtain ⟨r, hr⟩ := State.topJava?_eq_some.mp hg0
  have e3 : t = ({ (U.calling g mk a).setFrames t.frames with heap := t.heap, slotsUsed := t.slotsUsed } : State).setVm t.vm := by
    have : t = ({ t with vm := (U.calling g mk a).vm } : State).setVm t.vm := rfl
    rw [e2] at this
    exact this
  have hr' : (xB U t).frames = .java g₀ :: r := hr
  have hsame : U.sameButNew ({ U with heap := t.heap, slotsUsed := t.slotsUsed } : State) L k n := by
    refine ⟨?_, q2, q3, q4, q5, q6⟩
    obtain ⟨th, ht, -⟩ := State.frames_cons hr
    show ({ U with heap := t.heap, slotsUsed := t.slotsUsed } : State) = { U.setFrames U.frames with heap := t.heap, slotsUsed := t.slotsUsed }
    rw [State.setFrames_self ht]
  refine ⟨⟨X.admits, X.cas, X.clock, X.frames, X.room, X.hears, X.method, X.code, (X.here.setHeapUsed t.heap t.slotsUsed).setVm hW'.alike, X.tail, State.WarmedH.trans X.warmed hW', X.limits, X.bytes, X.same.trans (hsame.setVm s.vm)⟩, fun v hv => ?_, fun z hz => ?_⟩
  · subst hv
    obtain ⟨c₂, i₂, len₂, hc₂, hd₂, hf₂⟩ := hend
    have hcc : c₂ = c := by
      have h1 : t.code? g.method = U.code? g.method := by
        rw [State.code?_eq, State.code?_eq, hW'.alike.method?]
      exact Option.some.inj (hc₂.symm.trans (h1.trans h.code))
    subst hcc
    have hlen : len₂ = len := by rw [hdg] at hd₂; cases hd₂; rfl
    subst hlen
    have hs₂ : t = (xB U t).setTop { g with pc := g.pc + len₂, stack := v.toList ++ g.stack } := by
      refine e3.trans ?_
      rw [hf₂, State.calling_eq h.top, State.setFrames_setFrames, State.setTop_of_frames _ hr', hr]
      rfl
    rw [← hs₂]
    exact hsteps
  · subst hz
    have hf₂ : t.frames = .throwing z :: .java g :: U.frames.tail := hend
    have hs₂ : t = ((xB U t).setTop g).pushFrame (.throwing z) := by
      refine e3.trans ?_
      rw [hf₂, State.calling_eq h.top, State.setFrames_setFrames, State.pushFrame, State.frames_setTop _ hr', State.setTop_of_frames _ hr', State.setFrames_setFrames, hr]
      rfl
    rw [← hs₂]
    exact hsteps
/-- an invoking instruction goes to the method y -/
def Inv (x : MX) (y : MethodName) (T : State) (locs : List Loc) (cells slots : Nat) (g : JFrame) (a rest : List Value) : Prop :=
  ∃ (vm₁ : Vm) (mk : MethodId), xStand x (T.setVm vm₁) locs cells slots ∧ (T.setVm vm₁).methodNamed? y = some mk ∧ ∀ target, Steps x.p.tables x.e x.below (doInvoke x.e ((T.setVm vm₁).setTop { g with stack := rest }) [] mk a.toArray).1 target → Steps x.p.tables x.e x.below (T.setTop g) target
/-- the words of a callee -/
def CLk (own : String) (index : Nat) (y : MethodName) (cY : ByteArray) (nY : Nat) (retY : Option FieldType) (hY : List (Nat × Nat × Nat × Nat)) (n : Nat) : Prop :=
  Cond.methodLink own index y ∈ GW ∧ codeW y cY nY retY hY ∈ GW ∧ Cond.initialized y.cls ∈ GW ∧ y.cls ≠ "java/lang/invoke/MethodHandle" ∧ y.cls ≠ "java/lang/invoke/VarHandle" ∧ (parseMethodDescriptor y.desc).map (fun d => d.parameters.length) = some n
section CALLS
variable {x : MX} {w : XW} {rm : Room} {own : String} {cc : ByteArray} {nL : Nat} {ret : Option FieldType} {hx : List (Nat × Nat × Nat × Nat)} {cl : Bool} {cells slots pc : Nat} {Q : State → Prop} {lv : List (Nat × AV)} {st : List AV} {h : AH}
variable {y : MethodName} {cY : ByteArray} {nY : Nat} {retY : Option FieldType} {hY : List (Nat × Nat × Nat × Nat)} {index n : Nat}
theorem CLk.len (L : CLk own index y cY nY retY hY n) : ∀ sig, parseMethodDescriptor y.desc = some sig → n = sig.parameters.length := by
  intro sig hsig
  have h2 := L.2.2.2.2.2
  rw [hsig] at h2
  exact (Option.some.inj h2).symm
theorem CLk.sig (L : CLk own index y cY nY retY hY n) (C : Cx x w rm own cc nL ret hx) {mk : MethodId} (hn : x.s.methodNamed? y = some mk) {methM : Method} (hm : x.s.vm.method? mk = some methM) : parseMethodDescriptor y.desc = some methM.sig := by
  obtain ⟨meth, c, h1, -, -, -, -, -, -, h8⟩ := codeW_spec hn (C.ws _ L.2.1)
  cases hm.symm.trans h1
  exact h8
theorem inv_V (C : Cx x w rm own cc nL ret hx) (L : CLk own index y cY nY retY hY n) (hi : Cond.instanceMethod y ∈ GW) (hsl : Cond.selects y.cls y y ∈ GW) {T : State} {locs : List Loc} (X : xStand x T locs cells slots) {b : Addr} {cellB : Cell} (hcell : T.heap[b]? = some cellB) (hobj : cellB.vm.isStatics = false) (hcls : x.s.vm.findClass y.cls = some cellB.cls)
    {g : JFrame} (hg : g.method = x.m) {argsL rest : List Value} (hlen : argsL.length = n) (hstack : g.stack = argsL.reverse ++ .ref b :: rest) (hdg : decode cc g.pc = .ok (.invokevirtual index, 3)) : Inv x y T locs cells slots g (.ref b :: argsL) rest := by
  obtain ⟨p, l, e, R, s, m, args, below, meth, c⟩ := x
  obtain ⟨mk, methM, hnamed, hmethM, hstM, habM⟩ := Cond.instanceMethod_spec (C.ws _ hi)
  have hsigM := L.sig C hnamed hmethM
  have hy : y.cls ≠ "java/lang/invoke/MethodHandle" ∧ y.cls ≠ "java/lang/invoke/VarHandle" := ⟨L.2.2.2.1, L.2.2.2.2.1⟩
  obtain ⟨c2, r2, m2, q1, q2, q3, q4, kP, hkP, hkPi⟩ := Cond.selects_spec (C.ws _ hsl)
  cases hcls.symm.trans q1
  cases (State.methodFound?_of_named hnamed hy).symm.trans q2
  cases hnamed.symm.trans q3
  have hselP : selectMethod e.platform s.vm cellB.cls mk = .method mk := by rw [Launch.admits_selectMethod X.admits]; exact q4
  obtain ⟨vm₁, X₁, hstep₁⟩ := X.invokevirtual C.ex C.ow (C.ws _ L.1) hnamed hmethM hstM hkP hkPi hy (a := b) (cell := cellB) hcell
    (fun z h => by rw [h] at hobj; cases hobj) hselP hmethM habM hkP hkPi (g := g) hg (argsL := argsL) (rest := rest) (hlen.trans (L.len _ hsigM)) hstack (by rw [C.by]; exact hdg)
  exact ⟨vm₁, mk, X₁, X₁.named hnamed, fun target h => hstep₁ _ fun acts => by rw [doInvoke_state]; exact h⟩
theorem inv_S (C : Cx x w rm own cc nL ret hx) (L : CLk own index y cY nY retY hY n) (hi : Cond.static y ∈ GW) {T : State} {locs : List Loc} (X : xStand x T locs cells slots)
    {g : JFrame} (hg : g.method = x.m) {argsL rest : List Value} (hlen : argsL.length = n) (hstack : g.stack = argsL.reverse ++ rest) (hdg : decode cc g.pc = .ok (.invokestatic index, 3)) : Inv x y T locs cells slots g argsL rest := by
  obtain ⟨p, l, e, R, s, m, args, below, meth, c⟩ := x
  have hy : y.cls ≠ "java/lang/invoke/MethodHandle" ∧ y.cls ≠ "java/lang/invoke/VarHandle" := ⟨L.2.2.2.1, L.2.2.2.2.1⟩
  obtain ⟨kk, hkk, hcode⟩ : ∃ mk, s.methodNamed? y = some mk ∧ True := by
    have hcw := C.ws _ L.2.1
    cases hY with
    | nil => obtain ⟨mk, h⟩ := Cond.code_named hcw; exact ⟨mk, h, trivial⟩
    | cons a b => obtain ⟨mk, -, -, h, -⟩ := Cond.codeWith_spec hcw; exact ⟨mk, h, trivial⟩
  obtain ⟨methM, cM, hmethM, -, -, -, -, -, -, hsigM⟩ := codeW_spec hkk (C.ws _ L.2.1)
  have hstatic : methM.isStatic = true := Cond.static_spec hkk hmethM (C.ws _ hi)
  obtain ⟨kP, hkP, -⟩ := className_of_methodNamed hkk
  have hinitP : kP.init = .initialized := Cond.initialized_spec (findClass_of_methodNamed hkk) hkP (C.ws _ L.2.2.1)
  obtain ⟨vm₁, X₁, hstep₁⟩ := X.invokestatic C.ex C.ow (C.ws _ L.1) hkk hmethM hstatic hkP hinitP hy (g := g) hg (argsL := argsL) (rest := rest) (hlen.trans (L.len _ hsigM)) hstack (by rw [C.by]; exact hdg)
  exact ⟨vm₁, kk, X₁, X₁.named hkk, fun target h => hstep₁ _ fun acts => by rw [doInvoke_state]; exact h⟩
/-- an exception on its way out of the frame at pc -/
def AT (x : MX) (w : XW) (nL : Nat) (cells slots : Nat) (Q : State → Prop) (pc : Nat) (lv : List (Nat × AV)) (h : AH) (k : Nat) : Prop :=
  okH h → okL lv → ∀ (T : State) (ls : Array Slot) (locs : List Loc) (a : Nat) (rest : List Value), HRep w h T.heap → lv_has ls nL (lv.map (cP w)) → va_S (inU w x.s.heap.size) x.s.heap T.heap locs → xStand x T locs cells slots → excR k a T → ∃ t, Steps x.p.tables x.e x.below ((T.setTop (F0 x.m pc ls rest)).pushFrame (.throwing a)) t ∧ Q t
theorem a_call (C : Cx x w rm own cc nL ret hx) (L : CLk own index y cY nY retY hY n) {pu : Bool} {rmY : Room} {as : List AV} {Qy : AO → AH → Prop} (hM : AM x.l y (wsM y cY nY retY hY) pu rmY w as h Qy) (has : okS as) {len : Nat} {ig : Instr} (hdg : decode cc pc = .ok (ig, len))
    (hrm : rmY.frames + 1 ≤ rm.frames ∧ 8 + (nY + 11) + rmY.locals ≤ rm.locals ∧ cells + rmY.cells ≤ rm.cells ∧ slots + rmY.slots ≤ rm.slots) (hst : ((st.map (cV w)).map fun v => v.category).sum ≤ 8)
    {st0 : List AV} (hinv : ∀ (T : State) (locs : List Loc) (ls : Array Slot), HRep w h T.heap → xStand x T locs cells slots → ls.size = nL → Inv x y T locs cells slots (F0 x.m pc ls (st0.map (cV w))) (as.map (cV w)) (st.map (cV w)))
    (k1 : ∀ v h', Qy (.inl v) h' → AW x w nL (cl && pu) (if pu then cells else cells + rmY.cells) (if pu then slots else slots + rmY.slots) Q (pc + len) lv (v.toList ++ st) h')
    (k2 : ∀ k h', Qy (.inr k) h' → AT x w nL (cells + rmY.cells) (slots + rmY.slots) Q pc lv h' k) (hs0 : okS st) (hh : okH h) (hl : okL lv) {H : Heap} {ls : Array Slot} {locs : List Loc} (hR : HRep w h H) (hv : lv_has ls nL (lv.map (cP w))) (hS : frS cl x w H locs) : xW x H locs cells slots Q (F0 x.m pc ls (st0.map (cV w))) := by
  intro T hT X
  subst hT
  obtain ⟨vm₁, mk, X₁, hn, hstep⟩ := hinv T locs ls hR X hv.1
  have hcw := C.ws _ L.2.1
  have hpay : ∀ k ∈ GW, ∀ (a' : Array Value) (U : State), x.s.WarmedH U.vm → k.before a' U = true := fun k hk a' U hW => word_at hW (GWgood k hk) (C.ws k hk)
  have hcode1 : (codeW y cY nY retY hY).before (as.map (cV w)).toArray (T.setVm vm₁) = true := hpay _ L.2.1 _ _ X₁.warmed
  obtain ⟨methY, cY', hmY, hcY, -, hlY, -, -, -, -⟩ := codeW_spec hn hcode1
  have hRm : x.R = rm := C.ro
  obtain ⟨o, t, ⟨⟨ao, h', hqa, hok', ho, hR', hF⟩, hWt, ⟨L', hsb, hL'⟩, hpu⟩, hgo⟩ := x_back (g := { F0 x.m pc ls (st0.map (cV w)) with stack := st.map (cV w) }) (len := len) (Wd := 8) (maxL := nY) (hM hh has C.ij)
    (by rw [hRm]; exact hrm.1) (by rw [hRm]; exact hrm.2.1) X₁ rfl (by rw [C.ml]; exact hv.1) (ig := ig) (by rw [C.by]; exact hdg) (by simpa using hst) hn
    (atoms_intro fun k hk => by
      rcases List.mem_cons.mp hk with e | e
      · rw [e]; exact hcode1
      · exact hpay k e _ _ X₁.warmed) hmY hcY hlY (hpay _ L.2.2.1 _ _ X₁.warmed) (by rw [hRm]; exact hrm.2.2.1) (by rw [hRm]; exact hrm.2.2.2)
    ⟨rfl, hR, KW.at (U := (T.setVm vm₁).calling { F0 x.m pc ls (st0.map (cV w)) with stack := st.map (cV w) } mk (as.map (cV w)).toArray) C.kw X₁.warmed hS.weak⟩
  have hWt' : (T.setVm vm₁).WarmedH t.vm := hWt
  have hF' : va_F (inU w T.heap.size) T t := hF
  have hs1 : va_S (inU w x.s.heap.size) x.s.heap t.heap (locs ++ L') := by
    obtain ⟨f1, f2⟩ := hF'
    obtain ⟨g1, g2, g3⟩ := hS.weak
    refine ⟨Nat.le_trans g1 f1, fun q h1 h2 => ?_, fun q hq => ?_⟩
    · rw [f2 q (Nat.lt_of_lt_of_le h1 g1) fun z => h2 (by
        rcases z with z | z
        · exact Or.inl z
        · exact Or.inr (by omega)), g2 q h1 h2]
    · rcases List.mem_append.mp hq with z | z
      · exact g3 q z
      · rcases hL' q z with z | z
        · exact Or.inl z
        · exact Or.inr (Nat.le_trans g1 z)
  match ao, o, ho with
  | .inl v, o, ho =>
    obtain ⟨v', hv', ho'⟩ : ∃ v' : Option Value, o = .returned v' ∧ (v'.toList = (v.toList).map (cV w)) ∧ okS v.toList := by
      cases v with
      | none => exact ⟨none, ho, rfl, trivial⟩
      | some v => exact ⟨some (cV w v), ho.1, rfl, ho.2, trivial⟩
    have hmid : ∀ (locs2 : List Loc) (c2 s2 : Nat) (cl2 : Bool), xStand x (xB (T.setVm vm₁) t) locs2 c2 s2 → frS cl2 x w t.heap locs2 → AW x w nL cl2 c2 s2 Q (pc + len) lv (v.toList ++ st) h' → Steps x.p.tables x.e x.below (doInvoke x.e ((T.setVm vm₁).setTop { F0 x.m pc ls (st0.map (cV w)) with stack := st.map (cV w) }) [] mk (as.map (cV w)).toArray).1 ((xB (T.setVm vm₁) t).setTop { F0 x.m pc ls (st0.map (cV w)) with pc := pc + len, stack := v'.toList ++ st.map (cV w) }) → ∃ t, Steps x.p.tables x.e x.below (T.setTop (F0 x.m pc ls (st0.map (cV w)))) t ∧ Q t := by
      intro locs2 c2 s2 cl2 X2 hS2 hA hst2
      have hk := hA hok' hl (okS_of fun u hu => by
        rcases List.mem_append.mp hu with z | z
        · exact okS_mem ho'.2 u z
        · exact okS_mem hs0 u z) t.heap ls locs2 hR' hv hS2
      obtain ⟨t2, a2, b2⟩ := hk (xB (T.setVm vm₁) t) rfl X2
      refine ⟨t2, hstep _ (hst2.trans ?_), b2⟩
      rw [List.map_append, ← ho'.1] at a2
      exact a2
    cases pu with
    | false =>
      obtain ⟨X2, g1, -⟩ := hgo L' rmY.cells rmY.slots hWt' hsb
      refine hmid _ _ _ _ X2 ?_ (k1 v h' hqa) (g1 v' hv')
      rw [Bool.and_false]
      exact hs1
    | true =>
      obtain ⟨z1, z2⟩ := hpu rfl v' hv'
      obtain ⟨X2, g1, -⟩ := hgo [] 0 0 hWt' z2
      refine hmid _ _ _ cl X2 ?_ (by have := k1 v h' hqa; rwa [Bool.and_true] at this) (g1 v' hv')
      have z3 : t.heap = T.heap := z1
      rw [z3, List.append_nil]
      exact hS
  | .inr k, o, ho =>
    obtain ⟨a, rfl, hexc⟩ := ho
    obtain ⟨X2, -, g2⟩ := hgo L' rmY.cells rmY.slots hWt' hsb
    obtain ⟨t2, a2, b2⟩ := k2 k h' hqa hok' hl (xB (T.setVm vm₁) t) ls (locs ++ L') a (st.map (cV w)) hR' hv hs1 X2 hexc
    exact ⟨t2, hstep _ ((g2 a rfl).trans a2), b2⟩
end CALLS
section CALLROWS
variable {x : MX} {w : XW} {rm : Room} {own : String} {cc : ByteArray} {nL : Nat} {ret : Option FieldType} {hx : List (Nat × Nat × Nat × Nat)} {cl : Bool} {cells slots pc : Nat} {Q : State → Prop} {lv : List (Nat × AV)} {st : List AV} {h : AH}
variable {y : MethodName} {cY : ByteArray} {nY : Nat} {retY : Option FieldType} {hY : List (Nat × Nat × Nat × Nat)} {index n : Nat} {pu : Bool} {rmY : Room} {as : List AV} {Qy : AO → AH → Prop} {st0 : List AV}
theorem r_callS (C : Cx x w rm own cc nL ret hx) (L : CLk own index y cY nY retY hY n) (hi : Cond.static y ∈ GW) (hM : AM x.l y (wsM y cY nY retY hY) pu rmY w as h Qy) (hn : as.length = n) (hst0 : as.reverse ++ st = st0) (hdg : decode cc pc = .ok (.invokestatic index, 3))
    (hrm : rmY.frames + 1 ≤ rm.frames ∧ 8 + (nY + 11) + rmY.locals ≤ rm.locals ∧ cells + rmY.cells ≤ rm.cells ∧ slots + rmY.slots ≤ rm.slots) (hst : nargs st ≤ 8)
    (k1 : ∀ v h', Qy (.inl v) h' → AW x w nL (cl && pu) (if pu then cells else cells + rmY.cells) (if pu then slots else slots + rmY.slots) Q (pc + 3) lv (v.toList ++ st) h')
    (k2 : ∀ k h', Qy (.inr k) h' → AT x w nL (cells + rmY.cells) (slots + rmY.slots) Q pc lv h' k) : AW x w nL cl cells slots Q pc lv st0 h := by
  intro hh hl hs H ls locs hR hv hS
  subst hst0
  have ha := okS_app hs
  refine a_call C L hM (okS_rev ha.1) hdg hrm (by rw [sum_cat]; exact hst) (fun T locs ls hR X hsz => ?_) k1 k2 ha.2 hh hl hR hv hS
  exact inv_S C L hi X rfl (by rw [List.length_map]; exact hn) (by show (as.reverse ++ st).map (cV w) = _; rw [List.map_append, List.map_reverse]) hdg
theorem r_callV (C : Cx x w rm own cc nL ret hx) (L : CLk own index y cY nY retY hY n) (hi : Cond.instanceMethod y ∈ GW ∧ Cond.selects y.cls y y ∈ GW) {t i : Nat} (hk : kdT t = 0) {T0 : u_T} {N0 : Nat} (hcl : uCl[clT t]? = some (y.cls, T0, N0)) (hM : AM x.l y (wsM y cY nY retY hY) pu rmY w (vO t i :: as) h Qy) (hn : as.length = n) (hst0 : as.reverse ++ vO t i :: st = st0) (hdg : decode cc pc = .ok (.invokevirtual index, 3))
    (hrm : rmY.frames + 1 ≤ rm.frames ∧ 8 + (nY + 11) + rmY.locals ≤ rm.locals ∧ cells + rmY.cells ≤ rm.cells ∧ slots + rmY.slots ≤ rm.slots) (hst : nargs st ≤ 8)
    (k1 : ∀ v h', Qy (.inl v) h' → AW x w nL (cl && pu) (if pu then cells else cells + rmY.cells) (if pu then slots else slots + rmY.slots) Q (pc + 3) lv (v.toList ++ st) h')
    (k2 : ∀ k h', Qy (.inr k) h' → AT x w nL (cells + rmY.cells) (slots + rmY.slots) Q pc lv h' k) : AW x w nL cl cells slots Q pc lv st0 h := by
  intro hh hl hs H ls locs hR hv hS
  subst hst0
  have ha := okS_app hs
  refine a_call C L hM ⟨ha.2.1, okS_rev ha.1⟩ hdg hrm (by rw [sum_cat]; exact hst) (fun T locs ls hR X hsz => ?_) k1 k2 ha.2.2 hh hl hR hv hS
  obtain ⟨cell, q1, q2, q3, q4⟩ := cellR_obj hk (hR t i ha.2.1)
  obtain ⟨hS1, hfc, -⟩ := C.kw.1.1 (clT t) _ hcl
  exact inv_V C L hi.1 hi.2 X q1 (by rw [q3]; rfl) (by rw [q2]; exact hfc) rfl (by rw [List.length_map]; exact hn) (by show (as.reverse ++ vO t i :: st).map (cV w) = _; rw [List.map_append, List.map_reverse]; rfl) hdg
theorem t_out (C : Cx x w rm own cc nL ret []) {mc ms k : Nat} {Qa : AO → AH → Prop} (hq : Qa (.inr k) h) (hc : cells ≤ mc ∧ slots ≤ ms) : AT x w nL cells slots (AQ x w pu mc ms Qa) pc lv h k := by
  intro hh hl T ls locs a rest hR hv hS X he
  obtain ⟨h1, h2, h3, h4, h5⟩ := X.leaveThrown a (g := F0 x.m pc ls rest) rfl rfl rfl (by rw [C.tb]; intro z hz; cases hz) C.lk
  exact ⟨_, h1, .threw a, h2, h3, ⟨.inr k, h, hq, hh, ⟨a, rfl, he⟩, hR, hS.F rfl⟩, h4, ⟨locs, h5.mono hc.1 hc.2, hS.2.2⟩, fun _ v hv => by cases hv⟩
end CALLROWS
end
section
/-! Plain mathematics: sums, orders of fractions, Euclid's comparison. -/
def Ret (v : Option AV) (h0 : AH) : AO → AH → Prop := fun o h' => o = .inl v ∧ h' = h0
def sumF (n : Nat) (g : Nat → Int) : Int := match n with
  | 0 => 0
  | n + 1 => sumF n g + g n
theorem sumF_succ (n : Nat) (g : Nat → Int) : sumF (n + 1) g = sumF n g + g n := rfl
theorem sumF_congr {g g' : Nat → Int} : ∀ {n : Nat}, (∀ k, k < n → g k = g' k) → sumF n g = sumF n g' := by
  intro n
  induction n with
  | zero => intro _; rfl
  | succ n ih =>
    intro h
    rw [sumF_succ, sumF_succ, ih fun k hk => h k (by omega), h n (by omega)]
theorem sumF_nn {g : Nat → Int} : ∀ {n : Nat}, (∀ k, k < n → 0 ≤ g k) → 0 ≤ sumF n g := by
  intro n
  induction n with
  | zero => intro _; exact Int.le_refl 0
  | succ n ih =>
    intro h
    have h1 := ih fun k hk => h k (by omega)
    have h2 := h n (by omega)
    rw [sumF_succ]; omega
theorem sumF_le {g : Nat → Int} {M : Int} : ∀ {n : Nat}, (∀ k, k < n → g k ≤ M) → sumF n g ≤ M * n := by
  intro n
  induction n with
  | zero => intro _; simp [sumF]
  | succ n ih =>
    intro h
    have h1 := ih fun k hk => h k (by omega)
    have h2 := h n (by omega)
    rw [sumF_succ]
    have e : M * ((n + 1 : Nat) : Int) = M * (n : Int) + M := by rw [Int.natCast_add, Int.mul_add]; simp
    rw [e]; omega
theorem sumF_mono {g g' : Nat → Int} : ∀ {n : Nat}, (∀ k, k < n → g k ≤ g' k) → sumF n g ≤ sumF n g' := by
  intro n
  induction n with
  | zero => intro _; exact Int.le_refl 0
  | succ n ih =>
    intro h
    have h1 := ih fun k hk => h k (by omega)
    have h2 := h n (by omega)
    rw [sumF_succ, sumF_succ]; omega
theorem sumF_add (g g' : Nat → Int) : ∀ n : Nat, sumF n (fun k => g k + g' k) = sumF n g + sumF n g' := by
  intro n
  induction n with
  | zero => rfl
  | succ n ih => rw [sumF_succ, sumF_succ, sumF_succ, ih]; omega
theorem sumF_mul (c : Int) (g : Nat → Int) : ∀ n : Nat, sumF n (fun k => c * g k) = c * sumF n g := by
  intro n
  induction n with
  | zero => simp [sumF]
  | succ n ih => rw [sumF_succ, sumF_succ, ih, Int.mul_add]
theorem sumF_upd (g : Nat → Int) (j : Nat) (v : Int) : ∀ n : Nat, sumF n (fun k => if k = j then v else g k) = if j < n then sumF n g - g j + v else sumF n g := by
  intro n
  induction n with
  | zero => rfl
  | succ n ih =>
    rw [sumF_succ, sumF_succ, ih]
    by_cases h1 : n = j
    · subst h1
      simp
    · by_cases h2 : j < n
      · rw [if_pos h2, if_neg h1, if_pos (by omega)]; omega
      · rw [if_neg h2, if_neg h1, if_neg (by omega)]
/-- how many k < n have P -/
def cntF (n : Nat) (P : Nat → Bool) : Int := sumF n (fun k => if P k then 1 else 0)
/-- p / q > r / s, said without division -/
theorem mul_pos' {a b : Int} (ha : 0 < a) (hb : 0 < b) : 0 < a * b := Int.mul_pos ha hb
theorem mul_nn' {a b : Int} (ha : 0 ≤ a) (hb : 0 ≤ b) : 0 ≤ a * b := Int.mul_nonneg ha hb
theorem mul_le' {a b c d : Int} (h1 : a ≤ c) (h2 : b ≤ d) (ha : 0 ≤ b) (hc : 0 ≤ c) : a * b ≤ c * d := Int.le_trans (Int.mul_le_mul_of_nonneg_right h1 ha) (Int.mul_le_mul_of_nonneg_left h2 hc)
/-- one turn of Euclid: the whole parts are the same -/
theorem euc_step {p q r s : Int} (hq : 0 < q) (hs : 0 < s) (he : p / q = r / s) : (r * q < p * s ↔ (r % s) * q < (p % q) * s) ∧ (p * s < r * q ↔ (p % q) * s < (r % s) * q) := by
  have h1 := Int.emod_add_mul_ediv p q
  have h2 := Int.emod_add_mul_ediv r s
  have e1 : p * s = (p % q) * s + (p / q) * (q * s) := by
    conv => lhs; rw [← h1]
    rw [Int.add_mul, Int.mul_comm q (p / q), Int.mul_assoc]
  have e2 : r * q = (r % s) * q + (r / s) * (q * s) := by
    conv => lhs; rw [← h2]
    rw [Int.add_mul, Int.mul_comm s (r / s), Int.mul_assoc, Int.mul_comm s q]
  rw [e1, e2, he]
  omega
/-- the whole parts differ: they decide -/
theorem euc_end {p q r s : Int} (hq : 0 < q) (hs : 0 < s) (hne : ¬ p / q = r / s) : (r * q < p * s ↔ r / s < p / q) ∧ (p * s < r * q ↔ p / q < r / s) := by
  have key : ∀ {p q r s : Int}, 0 < q → 0 < s → r / s < p / q → r * q < p * s := by
    intro p q r s hq hs h
    have h1 := Int.emod_add_mul_ediv p q
    have h2 := Int.emod_add_mul_ediv r s
    have a1 := Int.emod_nonneg p (Int.ne_of_gt hq)
    have a2 := Int.emod_lt_of_pos r hs
    have b1 : r < s * (r / s + 1) := by rw [Int.mul_add]; omega
    have b2 : q * (p / q) ≤ p := by omega
    have c1 : r * q < s * (r / s + 1) * q := Int.mul_lt_mul_of_pos_right b1 hq
    have c2 : q * (p / q) * s ≤ p * s := Int.mul_le_mul_of_nonneg_right b2 (Int.le_of_lt hs)
    have c3 : s * (r / s + 1) * q ≤ q * (p / q) * s := by
      have d : r / s + 1 ≤ p / q := h
      have d1 : (r / s + 1) * (q * s) ≤ (p / q) * (q * s) := Int.mul_le_mul_of_nonneg_right d (Int.le_of_lt (Int.mul_pos hq hs))
      have f1 : s * (r / s + 1) * q = (r / s + 1) * (q * s) := by rw [Int.mul_comm s, Int.mul_assoc, Int.mul_comm s q]
      have f2 : q * (p / q) * s = (p / q) * (q * s) := by rw [Int.mul_comm q, Int.mul_assoc]
      rw [f1, f2]; exact d1
    omega
  have k1 := @key p q r s hq hs
  have k2 := @key r s p q hs hq
  constructor
  · constructor
    · intro h
      rcases Int.lt_trichotomy (r / s) (p / q) with z | z | z
      · exact z
      · exact absurd z.symm hne
      · have := k2 z; omega
    · exact k1
  · constructor
    · intro h
      rcases Int.lt_trichotomy (r / s) (p / q) with z | z | z
      · have := k1 z; omega
      · exact absurd z.symm hne
      · exact z
    · exact k2
/-- the least remainder is 0: it decides -/
theorem euc_zero {x y q s : Int} (hq : 0 < q) (hs : 0 < s) (hx : 0 ≤ x) (hy : 0 ≤ y) (h0 : x = 0 ∨ y = 0) : (y * q < x * s ↔ y < x) ∧ (x * s < y * q ↔ x < y) := by
  rcases h0 with h | h
  · subst h
    rw [Int.zero_mul]
    have h1 : 0 ≤ y * q := Int.mul_nonneg hy (Int.le_of_lt hq)
    refine ⟨by omega, ?_⟩
    constructor
    · intro h
      rcases Int.lt_or_eq_of_le hy with z | z
      · exact z
      · rw [← z, Int.zero_mul] at h; omega
    · intro h; exact Int.mul_pos h hq
  · subst h
    rw [Int.zero_mul]
    have h1 : 0 ≤ x * s := Int.mul_nonneg hx (Int.le_of_lt hs)
    refine ⟨?_, by omega⟩
    constructor
    · intro h
      rcases Int.lt_or_eq_of_le hx with z | z
      · exact z
      · rw [← z, Int.zero_mul] at h; omega
    · intro h; exact Int.mul_pos h hs
theorem tdiv_nn {a b : Int} (ha : 0 ≤ a) : a.tdiv b = a / b := Int.tdiv_eq_ediv_of_nonneg ha
theorem tmod_nn {a b : Int} (ha : 0 ≤ a) : a.tmod b = a % b := Int.tmod_eq_emod_of_nonneg ha
theorem ediv_le_self' {a b : Int} (ha : 0 ≤ a) (hb : 0 < b) : 0 ≤ a / b ∧ a / b ≤ a := ⟨Int.ediv_nonneg ha (Int.le_of_lt hb), Int.ediv_le_self b ha⟩
end
section
/-! Links of fields, constants and methods: one row an entry of a constant pool. -/
theorem fl_F_9 : FLk R_F 9 4 0 := ⟨R_F, T_F, 7, rfl, rfl, rfl, by decide, in_F, rfl, gwT 43 (by decide +kernel) (by decide +kernel)⟩
theorem pl_F_9 : PLk R_F 9 4 0 .int := ⟨R_F, T_F, 7, t_F, rfl, rfl, rfl, by decide, in_F, rfl, gwT 43 (by decide +kernel) (by decide +kernel), ok_F, nm_F, rfl, rfl⟩
theorem fl_O_22 : FLk R_O 22 4 0 := ⟨R_F, T_F, 7, rfl, rfl, rfl, by decide, in_F, rfl, gwT 44 (by decide +kernel) (by decide +kernel)⟩
theorem pl_O_22 : PLk R_O 22 4 0 .int := ⟨R_F, T_F, 7, t_F, rfl, rfl, rfl, by decide, in_F, rfl, gwT 44 (by decide +kernel) (by decide +kernel), ok_F, nm_F, rfl, rfl⟩
theorem fl_S_44 : FLk R_S 44 4 0 := ⟨R_F, T_F, 7, rfl, rfl, rfl, by decide, in_F, rfl, gwT 45 (by decide +kernel) (by decide +kernel)⟩
theorem pl_S_44 : PLk R_S 44 4 0 .int := ⟨R_F, T_F, 7, t_F, rfl, rfl, rfl, by decide, in_F, rfl, gwT 45 (by decide +kernel) (by decide +kernel), ok_F, nm_F, rfl, rfl⟩
theorem fl_M_70 : FLk R_M 70 4 0 := ⟨R_F, T_F, 7, rfl, rfl, rfl, by decide, in_F, rfl, gwT 46 (by decide +kernel) (by decide +kernel)⟩
theorem pl_M_70 : PLk R_M 70 4 0 .int := ⟨R_F, T_F, 7, t_F, rfl, rfl, rfl, by decide, in_F, rfl, gwT 46 (by decide +kernel) (by decide +kernel), ok_F, nm_F, rfl, rfl⟩
theorem fl_F_15 : FLk R_F 15 4 1 := ⟨R_F, T_F, 7, rfl, rfl, rfl, by decide, in_F, rfl, gwT 47 (by decide +kernel) (by decide +kernel)⟩
theorem pl_F_15 : PLk R_F 15 4 1 .int := ⟨R_F, T_F, 7, t_F, rfl, rfl, rfl, by decide, in_F, rfl, gwT 47 (by decide +kernel) (by decide +kernel), ok_F, nm_F, rfl, rfl⟩
theorem fl_O_25 : FLk R_O 25 4 1 := ⟨R_F, T_F, 7, rfl, rfl, rfl, by decide, in_F, rfl, gwT 48 (by decide +kernel) (by decide +kernel)⟩
theorem pl_O_25 : PLk R_O 25 4 1 .int := ⟨R_F, T_F, 7, t_F, rfl, rfl, rfl, by decide, in_F, rfl, gwT 48 (by decide +kernel) (by decide +kernel), ok_F, nm_F, rfl, rfl⟩
theorem fl_S_57 : FLk R_S 57 4 1 := ⟨R_F, T_F, 7, rfl, rfl, rfl, by decide, in_F, rfl, gwT 49 (by decide +kernel) (by decide +kernel)⟩
theorem pl_S_57 : PLk R_S 57 4 1 .int := ⟨R_F, T_F, 7, t_F, rfl, rfl, rfl, by decide, in_F, rfl, gwT 49 (by decide +kernel) (by decide +kernel), ok_F, nm_F, rfl, rfl⟩
theorem fl_F_18 : FLk R_F 18 4 2 := ⟨R_F, T_F, 7, rfl, rfl, rfl, by decide, in_F, rfl, gwT 50 (by decide +kernel) (by decide +kernel)⟩
theorem pl_F_18 : PLk R_F 18 4 2 .int := ⟨R_F, T_F, 7, t_F, rfl, rfl, rfl, by decide, in_F, rfl, gwT 50 (by decide +kernel) (by decide +kernel), ok_F, nm_F, rfl, rfl⟩
theorem fl_O_28 : FLk R_O 28 4 2 := ⟨R_F, T_F, 7, rfl, rfl, rfl, by decide, in_F, rfl, gwT 51 (by decide +kernel) (by decide +kernel)⟩
theorem pl_O_28 : PLk R_O 28 4 2 .int := ⟨R_F, T_F, 7, t_F, rfl, rfl, rfl, by decide, in_F, rfl, gwT 51 (by decide +kernel) (by decide +kernel), ok_F, nm_F, rfl, rfl⟩
theorem fl_F_21 : FLk R_F 21 4 3 := ⟨R_F, T_F, 7, rfl, rfl, rfl, by decide, in_F, rfl, gwT 52 (by decide +kernel) (by decide +kernel)⟩
theorem pl_F_21 : PLk R_F 21 4 3 .int := ⟨R_F, T_F, 7, t_F, rfl, rfl, rfl, by decide, in_F, rfl, gwT 52 (by decide +kernel) (by decide +kernel), ok_F, nm_F, rfl, rfl⟩
theorem fl_P_48 : FLk R_P 48 4 3 := ⟨R_F, T_F, 7, rfl, rfl, rfl, by decide, in_F, rfl, gwT 53 (by decide +kernel) (by decide +kernel)⟩
theorem pl_P_48 : PLk R_P 48 4 3 .int := ⟨R_F, T_F, 7, t_F, rfl, rfl, rfl, by decide, in_F, rfl, gwT 53 (by decide +kernel) (by decide +kernel), ok_F, nm_F, rfl, rfl⟩
theorem fl_F_24 : FLk R_F 24 4 4 := ⟨R_F, T_F, 7, rfl, rfl, rfl, by decide, in_F, rfl, gwT 54 (by decide +kernel) (by decide +kernel)⟩
theorem pl_F_24 : PLk R_F 24 4 4 .int := ⟨R_F, T_F, 7, t_F, rfl, rfl, rfl, by decide, in_F, rfl, gwT 54 (by decide +kernel) (by decide +kernel), ok_F, nm_F, rfl, rfl⟩
theorem fl_M_73 : FLk R_M 73 4 4 := ⟨R_F, T_F, 7, rfl, rfl, rfl, by decide, in_F, rfl, gwT 55 (by decide +kernel) (by decide +kernel)⟩
theorem pl_M_73 : PLk R_M 73 4 4 .int := ⟨R_F, T_F, 7, t_F, rfl, rfl, rfl, by decide, in_F, rfl, gwT 55 (by decide +kernel) (by decide +kernel), ok_F, nm_F, rfl, rfl⟩
theorem fl_H_235 : FLk R_H 235 4 4 := ⟨R_F, T_F, 7, rfl, rfl, rfl, by decide, in_F, rfl, gwT 56 (by decide +kernel) (by decide +kernel)⟩
theorem pl_H_235 : PLk R_H 235 4 4 .int := ⟨R_F, T_F, 7, t_F, rfl, rfl, rfl, by decide, in_F, rfl, gwT 56 (by decide +kernel) (by decide +kernel), ok_F, nm_F, rfl, rfl⟩
theorem fl_F_27 : FLk R_F 27 4 5 := ⟨R_F, T_F, 7, rfl, rfl, rfl, by decide, in_F, rfl, gwT 57 (by decide +kernel) (by decide +kernel)⟩
theorem fl_H_113 : FLk R_H 113 4 5 := ⟨R_F, T_F, 7, rfl, rfl, rfl, by decide, in_F, rfl, gwT 58 (by decide +kernel) (by decide +kernel)⟩
theorem fl_M_87 : FLk R_M 87 4 5 := ⟨R_F, T_F, 7, rfl, rfl, rfl, by decide, in_F, rfl, gwT 59 (by decide +kernel) (by decide +kernel)⟩
theorem fl_F_31 : FLk R_F 31 4 6 := ⟨R_F, T_F, 7, rfl, rfl, rfl, by decide, in_F, rfl, gwT 60 (by decide +kernel) (by decide +kernel)⟩
theorem fl_P_45 : FLk R_P 45 4 6 := ⟨R_F, T_F, 7, rfl, rfl, rfl, by decide, in_F, rfl, gwT 61 (by decide +kernel) (by decide +kernel)⟩
theorem fl_H_131 : FLk R_H 131 4 6 := ⟨R_F, T_F, 7, rfl, rfl, rfl, by decide, in_F, rfl, gwT 62 (by decide +kernel) (by decide +kernel)⟩
theorem fl_O_11 : FLk R_O 11 2 0 := ⟨R_O, T_O, 2, rfl, rfl, rfl, by decide, in_O, rfl, gwT 79 (by decide +kernel) (by decide +kernel)⟩
theorem fl_P_31 : FLk R_P 31 2 0 := ⟨R_O, T_O, 2, rfl, rfl, rfl, by decide, in_O, rfl, gwT 80 (by decide +kernel) (by decide +kernel)⟩
theorem fl_S_35 : FLk R_S 35 2 0 := ⟨R_O, T_O, 2, rfl, rfl, rfl, by decide, in_O, rfl, gwT 81 (by decide +kernel) (by decide +kernel)⟩
theorem fl_M_48 : FLk R_M 48 2 0 := ⟨R_O, T_O, 2, rfl, rfl, rfl, by decide, in_O, rfl, gwT 82 (by decide +kernel) (by decide +kernel)⟩
theorem fl_H_109 : FLk R_H 109 2 0 := ⟨R_O, T_O, 2, rfl, rfl, rfl, by decide, in_O, rfl, gwT 83 (by decide +kernel) (by decide +kernel)⟩
theorem fl_O_17 : FLk R_O 17 2 1 := ⟨R_O, T_O, 2, rfl, rfl, rfl, by decide, in_O, rfl, gwT 84 (by decide +kernel) (by decide +kernel)⟩
theorem pl_O_17 : PLk R_O 17 2 1 .int := ⟨R_O, T_O, 2, t_O, rfl, rfl, rfl, by decide, in_O, rfl, gwT 84 (by decide +kernel) (by decide +kernel), ok_O, nm_O, rfl, rfl⟩
theorem fl_P_28 : FLk R_P 28 2 1 := ⟨R_O, T_O, 2, rfl, rfl, rfl, by decide, in_O, rfl, gwT 85 (by decide +kernel) (by decide +kernel)⟩
theorem pl_P_28 : PLk R_P 28 2 1 .int := ⟨R_O, T_O, 2, t_O, rfl, rfl, rfl, by decide, in_O, rfl, gwT 85 (by decide +kernel) (by decide +kernel), ok_O, nm_O, rfl, rfl⟩
theorem fl_H_86 : FLk R_H 86 2 1 := ⟨R_O, T_O, 2, rfl, rfl, rfl, by decide, in_O, rfl, gwT 86 (by decide +kernel) (by decide +kernel)⟩
theorem pl_H_86 : PLk R_H 86 2 1 .int := ⟨R_O, T_O, 2, t_O, rfl, rfl, rfl, by decide, in_O, rfl, gwT 86 (by decide +kernel) (by decide +kernel), ok_O, nm_O, rfl, rfl⟩
theorem fl_M_43 : FLk R_M 43 2 1 := ⟨R_O, T_O, 2, rfl, rfl, rfl, by decide, in_O, rfl, gwT 87 (by decide +kernel) (by decide +kernel)⟩
theorem pl_M_43 : PLk R_M 43 2 1 .int := ⟨R_O, T_O, 2, t_O, rfl, rfl, rfl, by decide, in_O, rfl, gwT 87 (by decide +kernel) (by decide +kernel), ok_O, nm_O, rfl, rfl⟩
theorem fl_U_9 : FLk R_U 9 7 0 := ⟨R_U, T_U, 4, rfl, rfl, rfl, by decide, in_U, rfl, gwT 99 (by decide +kernel) (by decide +kernel)⟩
theorem fl_U_15 : FLk R_U 15 7 1 := ⟨R_U, T_U, 4, rfl, rfl, rfl, by decide, in_U, rfl, gwT 100 (by decide +kernel) (by decide +kernel)⟩
theorem fl_U_18 : FLk R_U 18 7 2 := ⟨R_U, T_U, 4, rfl, rfl, rfl, by decide, in_U, rfl, gwT 101 (by decide +kernel) (by decide +kernel)⟩
theorem pl_U_18 : PLk R_U 18 7 2 .int := ⟨R_U, T_U, 4, t_U, rfl, rfl, rfl, by decide, in_U, rfl, gwT 101 (by decide +kernel) (by decide +kernel), ok_U, nm_U, rfl, rfl⟩
theorem fl_H_136 : FLk R_H 136 7 2 := ⟨R_U, T_U, 4, rfl, rfl, rfl, by decide, in_U, rfl, gwT 102 (by decide +kernel) (by decide +kernel)⟩
theorem pl_H_136 : PLk R_H 136 7 2 .int := ⟨R_U, T_U, 4, t_U, rfl, rfl, rfl, by decide, in_U, rfl, gwT 102 (by decide +kernel) (by decide +kernel), ok_U, nm_U, rfl, rfl⟩
theorem fl_U_22 : FLk R_U 22 7 3 := ⟨R_U, T_U, 4, rfl, rfl, rfl, by decide, in_U, rfl, gwT 103 (by decide +kernel) (by decide +kernel)⟩
theorem pl_U_22 : PLk R_U 22 7 3 .int := ⟨R_U, T_U, 4, t_U, rfl, rfl, rfl, by decide, in_U, rfl, gwT 103 (by decide +kernel) (by decide +kernel), ok_U, nm_U, rfl, rfl⟩
theorem fl_H_149 : FLk R_H 149 7 3 := ⟨R_U, T_U, 4, rfl, rfl, rfl, by decide, in_U, rfl, gwT 104 (by decide +kernel) (by decide +kernel)⟩
theorem pl_H_149 : PLk R_H 149 7 3 .int := ⟨R_U, T_U, 4, t_U, rfl, rfl, rfl, by decide, in_U, rfl, gwT 104 (by decide +kernel) (by decide +kernel), ok_U, nm_U, rfl, rfl⟩
theorem fl_M_9 : FLk R_M 9 10 0 := ⟨R_M, T_M, 8, rfl, rfl, rfl, by decide, in_M, rfl, gwT 120 (by decide +kernel) (by decide +kernel)⟩
theorem fl_H_215 : FLk R_H 215 10 0 := ⟨R_M, T_M, 8, rfl, rfl, rfl, by decide, in_M, rfl, gwT 121 (by decide +kernel) (by decide +kernel)⟩
theorem fl_M_15 : FLk R_M 15 10 1 := ⟨R_M, T_M, 8, rfl, rfl, rfl, by decide, in_M, rfl, gwT 122 (by decide +kernel) (by decide +kernel)⟩
theorem fl_M_19 : FLk R_M 19 10 2 := ⟨R_M, T_M, 8, rfl, rfl, rfl, by decide, in_M, rfl, gwT 123 (by decide +kernel) (by decide +kernel)⟩
theorem pl_M_19 : PLk R_M 19 10 2 .long := ⟨R_M, T_M, 8, t_M, rfl, rfl, rfl, by decide, in_M, rfl, gwT 123 (by decide +kernel) (by decide +kernel), ok_M, nm_M, rfl, rfl⟩
theorem fl_M_23 : FLk R_M 23 10 3 := ⟨R_M, T_M, 8, rfl, rfl, rfl, by decide, in_M, rfl, gwT 124 (by decide +kernel) (by decide +kernel)⟩
theorem pl_M_23 : PLk R_M 23 10 3 .long := ⟨R_M, T_M, 8, t_M, rfl, rfl, rfl, by decide, in_M, rfl, gwT 124 (by decide +kernel) (by decide +kernel), ok_M, nm_M, rfl, rfl⟩
theorem fl_S_60 : FLk R_S 60 10 3 := ⟨R_M, T_M, 8, rfl, rfl, rfl, by decide, in_M, rfl, gwT 125 (by decide +kernel) (by decide +kernel)⟩
theorem pl_S_60 : PLk R_S 60 10 3 .long := ⟨R_M, T_M, 8, t_M, rfl, rfl, rfl, by decide, in_M, rfl, gwT 125 (by decide +kernel) (by decide +kernel), ok_M, nm_M, rfl, rfl⟩
theorem fl_M_26 : FLk R_M 26 10 4 := ⟨R_M, T_M, 8, rfl, rfl, rfl, by decide, in_M, rfl, gwT 126 (by decide +kernel) (by decide +kernel)⟩
theorem pl_M_26 : PLk R_M 26 10 4 .int := ⟨R_M, T_M, 8, t_M, rfl, rfl, rfl, by decide, in_M, rfl, gwT 126 (by decide +kernel) (by decide +kernel), ok_M, nm_M, rfl, rfl⟩
theorem fl_M_30 : FLk R_M 30 10 5 := ⟨R_M, T_M, 8, rfl, rfl, rfl, by decide, in_M, rfl, gwT 127 (by decide +kernel) (by decide +kernel)⟩
theorem pl_M_30 : PLk R_M 30 10 5 .int := ⟨R_M, T_M, 8, t_M, rfl, rfl, rfl, by decide, in_M, rfl, gwT 127 (by decide +kernel) (by decide +kernel), ok_M, nm_M, rfl, rfl⟩
theorem fl_M_33 : FLk R_M 33 10 6 := ⟨R_M, T_M, 8, rfl, rfl, rfl, by decide, in_M, rfl, gwT 128 (by decide +kernel) (by decide +kernel)⟩
theorem pl_M_33 : PLk R_M 33 10 6 .int := ⟨R_M, T_M, 8, t_M, rfl, rfl, rfl, by decide, in_M, rfl, gwT 128 (by decide +kernel) (by decide +kernel), ok_M, nm_M, rfl, rfl⟩
theorem fl_M_36 : FLk R_M 36 10 7 := ⟨R_M, T_M, 8, rfl, rfl, rfl, by decide, in_M, rfl, gwT 129 (by decide +kernel) (by decide +kernel)⟩
theorem pl_M_36 : PLk R_M 36 10 7 .int := ⟨R_M, T_M, 8, t_M, rfl, rfl, rfl, by decide, in_M, rfl, gwT 129 (by decide +kernel) (by decide +kernel), ok_M, nm_M, rfl, rfl⟩
theorem fl_P_9 : FLk R_P 9 13 0 := ⟨R_P, T_P, 5, rfl, rfl, rfl, by decide, in_P, rfl, gwT 154 (by decide +kernel) (by decide +kernel)⟩
theorem fl_S_41 : FLk R_S 41 13 0 := ⟨R_P, T_P, 5, rfl, rfl, rfl, by decide, in_P, rfl, gwT 155 (by decide +kernel) (by decide +kernel)⟩
theorem fl_P_15 : FLk R_P 15 13 1 := ⟨R_P, T_P, 5, rfl, rfl, rfl, by decide, in_P, rfl, gwT 156 (by decide +kernel) (by decide +kernel)⟩
theorem fl_S_77 : FLk R_S 77 13 1 := ⟨R_P, T_P, 5, rfl, rfl, rfl, by decide, in_P, rfl, gwT 157 (by decide +kernel) (by decide +kernel)⟩
theorem fl_P_18 : FLk R_P 18 13 2 := ⟨R_P, T_P, 5, rfl, rfl, rfl, by decide, in_P, rfl, gwT 158 (by decide +kernel) (by decide +kernel)⟩
theorem fl_S_86 : FLk R_S 86 13 2 := ⟨R_P, T_P, 5, rfl, rfl, rfl, by decide, in_P, rfl, gwT 159 (by decide +kernel) (by decide +kernel)⟩
theorem fl_P_21 : FLk R_P 21 13 3 := ⟨R_P, T_P, 5, rfl, rfl, rfl, by decide, in_P, rfl, gwT 160 (by decide +kernel) (by decide +kernel)⟩
theorem fl_H_298 : FLk R_H 298 13 3 := ⟨R_P, T_P, 5, rfl, rfl, rfl, by decide, in_P, rfl, gwT 161 (by decide +kernel) (by decide +kernel)⟩
theorem fl_P_24 : FLk R_P 24 13 4 := ⟨R_P, T_P, 5, rfl, rfl, rfl, by decide, in_P, rfl, gwT 162 (by decide +kernel) (by decide +kernel)⟩
theorem pl_P_24 : PLk R_P 24 13 4 .int := ⟨R_P, T_P, 5, t_P, rfl, rfl, rfl, by decide, in_P, rfl, gwT 162 (by decide +kernel) (by decide +kernel), ok_P, nm_P, rfl, rfl⟩
theorem fl_S_29 : FLk R_S 29 13 4 := ⟨R_P, T_P, 5, rfl, rfl, rfl, by decide, in_P, rfl, gwT 163 (by decide +kernel) (by decide +kernel)⟩
theorem pl_S_29 : PLk R_S 29 13 4 .int := ⟨R_P, T_P, 5, t_P, rfl, rfl, rfl, by decide, in_P, rfl, gwT 163 (by decide +kernel) (by decide +kernel), ok_P, nm_P, rfl, rfl⟩
theorem fl_H_294 : FLk R_H 294 13 4 := ⟨R_P, T_P, 5, rfl, rfl, rfl, by decide, in_P, rfl, gwT 164 (by decide +kernel) (by decide +kernel)⟩
theorem pl_H_294 : PLk R_H 294 13 4 .int := ⟨R_P, T_P, 5, t_P, rfl, rfl, rfl, by decide, in_P, rfl, gwT 164 (by decide +kernel) (by decide +kernel), ok_P, nm_P, rfl, rfl⟩
theorem fl_S_9 : FLk R_S 9 18 0 := ⟨R_S, T_S, 5, rfl, rfl, rfl, by decide, in_S, rfl, gwT 182 (by decide +kernel) (by decide +kernel)⟩
theorem fl_H_301 : FLk R_H 301 18 0 := ⟨R_S, T_S, 5, rfl, rfl, rfl, by decide, in_S, rfl, gwT 183 (by decide +kernel) (by decide +kernel)⟩
theorem fl_S_15 : FLk R_S 15 18 1 := ⟨R_S, T_S, 5, rfl, rfl, rfl, by decide, in_S, rfl, gwT 184 (by decide +kernel) (by decide +kernel)⟩
theorem fl_S_19 : FLk R_S 19 18 2 := ⟨R_S, T_S, 5, rfl, rfl, rfl, by decide, in_S, rfl, gwT 185 (by decide +kernel) (by decide +kernel)⟩
theorem fl_S_22 : FLk R_S 22 18 3 := ⟨R_S, T_S, 5, rfl, rfl, rfl, by decide, in_S, rfl, gwT 186 (by decide +kernel) (by decide +kernel)⟩
theorem fl_S_25 : FLk R_S 25 18 4 := ⟨R_S, T_S, 5, rfl, rfl, rfl, by decide, in_S, rfl, gwT 187 (by decide +kernel) (by decide +kernel)⟩
theorem pl_S_25 : PLk R_S 25 18 4 .long := ⟨R_S, T_S, 5, t_S, rfl, rfl, rfl, by decide, in_S, rfl, gwT 187 (by decide +kernel) (by decide +kernel), ok_S, nm_S, rfl, rfl⟩
theorem fl_A_11 : FLk R_A 11 23 0 := ⟨R_A, T_A, 5, rfl, rfl, rfl, by decide, in_A, rfl, gwT 207 (by decide +kernel) (by decide +kernel)⟩
theorem fl_H_211 : FLk R_H 211 23 0 := ⟨R_A, T_A, 5, rfl, rfl, rfl, by decide, in_A, rfl, gwT 208 (by decide +kernel) (by decide +kernel)⟩
theorem fl_A_16 : FLk R_A 16 23 1 := ⟨R_A, T_A, 5, rfl, rfl, rfl, by decide, in_A, rfl, gwT 209 (by decide +kernel) (by decide +kernel)⟩
theorem fl_H_221 : FLk R_H 221 23 1 := ⟨R_A, T_A, 5, rfl, rfl, rfl, by decide, in_A, rfl, gwT 210 (by decide +kernel) (by decide +kernel)⟩
theorem fl_A_20 : FLk R_A 20 23 2 := ⟨R_A, T_A, 5, rfl, rfl, rfl, by decide, in_A, rfl, gwT 211 (by decide +kernel) (by decide +kernel)⟩
theorem fl_H_166 : FLk R_H 166 23 2 := ⟨R_A, T_A, 5, rfl, rfl, rfl, by decide, in_A, rfl, gwT 212 (by decide +kernel) (by decide +kernel)⟩
theorem fl_A_23 : FLk R_A 23 23 3 := ⟨R_A, T_A, 5, rfl, rfl, rfl, by decide, in_A, rfl, gwT 213 (by decide +kernel) (by decide +kernel)⟩
theorem fl_A_26 : FLk R_A 26 23 4 := ⟨R_A, T_A, 5, rfl, rfl, rfl, by decide, in_A, rfl, gwT 214 (by decide +kernel) (by decide +kernel)⟩
theorem pl_A_26 : PLk R_A 26 23 4 .int := ⟨R_A, T_A, 5, t_A, rfl, rfl, rfl, by decide, in_A, rfl, gwT 214 (by decide +kernel) (by decide +kernel), ok_A, nm_A, rfl, rfl⟩
theorem fl_H_122 : FLk R_H 122 23 4 := ⟨R_A, T_A, 5, rfl, rfl, rfl, by decide, in_A, rfl, gwT 215 (by decide +kernel) (by decide +kernel)⟩
theorem pl_H_122 : PLk R_H 122 23 4 .int := ⟨R_A, T_A, 5, t_A, rfl, rfl, rfl, by decide, in_A, rfl, gwT 215 (by decide +kernel) (by decide +kernel), ok_A, nm_A, rfl, rfl⟩
theorem fl_H_12 : FLk R_H 12 1 0 := ⟨R_H, T_H, 13, rfl, rfl, rfl, by decide, in_H, rfl, gwT 227 (by decide +kernel) (by decide +kernel)⟩
theorem fl_H_19 : FLk R_H 19 1 1 := ⟨R_H, T_H, 13, rfl, rfl, rfl, by decide, in_H, rfl, gwT 228 (by decide +kernel) (by decide +kernel)⟩
theorem fl_H_26 : FLk R_H 26 1 2 := ⟨R_H, T_H, 13, rfl, rfl, rfl, by decide, in_H, rfl, gwT 229 (by decide +kernel) (by decide +kernel)⟩
theorem fl_H_33 : FLk R_H 33 1 3 := ⟨R_H, T_H, 13, rfl, rfl, rfl, by decide, in_H, rfl, gwT 230 (by decide +kernel) (by decide +kernel)⟩
theorem fl_H_40 : FLk R_H 40 1 4 := ⟨R_H, T_H, 13, rfl, rfl, rfl, by decide, in_H, rfl, gwT 231 (by decide +kernel) (by decide +kernel)⟩
theorem fl_H_47 : FLk R_H 47 1 5 := ⟨R_H, T_H, 13, rfl, rfl, rfl, by decide, in_H, rfl, gwT 232 (by decide +kernel) (by decide +kernel)⟩
theorem fl_H_51 : FLk R_H 51 1 6 := ⟨R_H, T_H, 13, rfl, rfl, rfl, by decide, in_H, rfl, gwT 233 (by decide +kernel) (by decide +kernel)⟩
theorem fl_H_55 : FLk R_H 55 1 7 := ⟨R_H, T_H, 13, rfl, rfl, rfl, by decide, in_H, rfl, gwT 234 (by decide +kernel) (by decide +kernel)⟩
theorem fl_H_58 : FLk R_H 58 1 8 := ⟨R_H, T_H, 13, rfl, rfl, rfl, by decide, in_H, rfl, gwT 235 (by decide +kernel) (by decide +kernel)⟩
theorem pl_H_58 : PLk R_H 58 1 8 .int := ⟨R_H, T_H, 13, t_H, rfl, rfl, rfl, by decide, in_H, rfl, gwT 235 (by decide +kernel) (by decide +kernel), ok_H, nm_H, rfl, rfl⟩
theorem fl_H_62 : FLk R_H 62 1 9 := ⟨R_H, T_H, 13, rfl, rfl, rfl, by decide, in_H, rfl, gwT 236 (by decide +kernel) (by decide +kernel)⟩
theorem pl_H_62 : PLk R_H 62 1 9 .int := ⟨R_H, T_H, 13, t_H, rfl, rfl, rfl, by decide, in_H, rfl, gwT 236 (by decide +kernel) (by decide +kernel), ok_H, nm_H, rfl, rfl⟩
theorem fl_H_65 : FLk R_H 65 1 10 := ⟨R_H, T_H, 13, rfl, rfl, rfl, by decide, in_H, rfl, gwT 237 (by decide +kernel) (by decide +kernel)⟩
theorem pl_H_65 : PLk R_H 65 1 10 .int := ⟨R_H, T_H, 13, t_H, rfl, rfl, rfl, by decide, in_H, rfl, gwT 237 (by decide +kernel) (by decide +kernel), ok_H, nm_H, rfl, rfl⟩
theorem fl_H_68 : FLk R_H 68 1 11 := ⟨R_H, T_H, 13, rfl, rfl, rfl, by decide, in_H, rfl, gwT 238 (by decide +kernel) (by decide +kernel)⟩
theorem pl_H_68 : PLk R_H 68 1 11 .int := ⟨R_H, T_H, 13, t_H, rfl, rfl, rfl, by decide, in_H, rfl, gwT 238 (by decide +kernel) (by decide +kernel), ok_H, nm_H, rfl, rfl⟩
theorem fl_H_71 : FLk R_H 71 1 12 := ⟨R_H, T_H, 13, rfl, rfl, rfl, by decide, in_H, rfl, gwT 239 (by decide +kernel) (by decide +kernel)⟩
theorem pl_H_71 : PLk R_H 71 1 12 .boolean := ⟨R_H, T_H, 13, t_H, rfl, rfl, rfl, by decide, in_H, rfl, gwT 239 (by decide +kernel) (by decide +kernel), ok_H, nm_H, rfl, rfl⟩
theorem k_M_76 : Jvm.Cond.constantLong R_M 76 (Int64.ofInt 200) ∈ GW := gwT 311 (by decide +kernel) (by decide +kernel)
theorem k_H_264 : Jvm.Cond.constantLong R_H 264 (Int64.ofInt 115) ∈ GW := gwT 378 (by decide +kernel) (by decide +kernel)
theorem k_H_266 : Jvm.Cond.constantLong R_H 266 (Int64.ofInt 100000) ∈ GW := gwT 379 (by decide +kernel) (by decide +kernel)
theorem k_H_262 : Jvm.Cond.constantLong R_H 262 (Int64.ofInt 1000) ∈ GW := gwT 381 (by decide +kernel) (by decide +kernel)
theorem k_H_154 : Jvm.Cond.constant R_H 154 (Int32.ofInt 10000000) ∈ GW := gwT 655 (by decide +kernel) (by decide +kernel)
theorem k_H_169 : Jvm.Cond.constant R_H 169 (Int32.ofInt 1000000) ∈ GW := gwT 686 (by decide +kernel) (by decide +kernel)
theorem fl_R_85 : FLk R_R 85 40 0 := ⟨R_R, T_R, 38, rfl, rfl, rfl, by decide, in_R, rfl, gwT 789 (by decide +kernel) (by decide +kernel)⟩
theorem pl_R_85 : PLk R_R 85 40 0 .int := ⟨R_R, T_R, 38, t_R, rfl, rfl, rfl, by decide, in_R, rfl, gwT 789 (by decide +kernel) (by decide +kernel), ok_R, nm_R, rfl, rfl⟩
theorem fl_R_88 : FLk R_R 88 40 1 := ⟨R_R, T_R, 38, rfl, rfl, rfl, by decide, in_R, rfl, gwT 790 (by decide +kernel) (by decide +kernel)⟩
theorem pl_R_88 : PLk R_R 88 40 1 .int := ⟨R_R, T_R, 38, t_R, rfl, rfl, rfl, by decide, in_R, rfl, gwT 790 (by decide +kernel) (by decide +kernel), ok_R, nm_R, rfl, rfl⟩
theorem fl_R_7 : FLk R_R 7 40 2 := ⟨R_R, T_R, 38, rfl, rfl, rfl, by decide, in_R, rfl, gwT 791 (by decide +kernel) (by decide +kernel)⟩
theorem fl_R_13 : FLk R_R 13 40 3 := ⟨R_R, T_R, 38, rfl, rfl, rfl, by decide, in_R, rfl, gwT 792 (by decide +kernel) (by decide +kernel)⟩
theorem fl_R_16 : FLk R_R 16 40 4 := ⟨R_R, T_R, 38, rfl, rfl, rfl, by decide, in_R, rfl, gwT 793 (by decide +kernel) (by decide +kernel)⟩
theorem fl_R_19 : FLk R_R 19 40 5 := ⟨R_R, T_R, 38, rfl, rfl, rfl, by decide, in_R, rfl, gwT 794 (by decide +kernel) (by decide +kernel)⟩
theorem fl_R_22 : FLk R_R 22 40 6 := ⟨R_R, T_R, 38, rfl, rfl, rfl, by decide, in_R, rfl, gwT 795 (by decide +kernel) (by decide +kernel)⟩
theorem fl_R_25 : FLk R_R 25 40 7 := ⟨R_R, T_R, 38, rfl, rfl, rfl, by decide, in_R, rfl, gwT 796 (by decide +kernel) (by decide +kernel)⟩
theorem fl_R_28 : FLk R_R 28 40 8 := ⟨R_R, T_R, 38, rfl, rfl, rfl, by decide, in_R, rfl, gwT 797 (by decide +kernel) (by decide +kernel)⟩
theorem fl_R_91 : FLk R_R 91 40 9 := ⟨R_R, T_R, 38, rfl, rfl, rfl, by decide, in_R, rfl, gwT 798 (by decide +kernel) (by decide +kernel)⟩
theorem pl_R_91 : PLk R_R 91 40 9 .int := ⟨R_R, T_R, 38, t_R, rfl, rfl, rfl, by decide, in_R, rfl, gwT 798 (by decide +kernel) (by decide +kernel), ok_R, nm_R, rfl, rfl⟩
theorem fl_R_110 : FLk R_R 110 40 10 := ⟨R_R, T_R, 38, rfl, rfl, rfl, by decide, in_R, rfl, gwT 799 (by decide +kernel) (by decide +kernel)⟩
theorem pl_R_110 : PLk R_R 110 40 10 .int := ⟨R_R, T_R, 38, t_R, rfl, rfl, rfl, by decide, in_R, rfl, gwT 799 (by decide +kernel) (by decide +kernel), ok_R, nm_R, rfl, rfl⟩
theorem fl_R_31 : FLk R_R 31 40 11 := ⟨R_R, T_R, 38, rfl, rfl, rfl, by decide, in_R, rfl, gwT 800 (by decide +kernel) (by decide +kernel)⟩
theorem fl_R_34 : FLk R_R 34 40 12 := ⟨R_R, T_R, 38, rfl, rfl, rfl, by decide, in_R, rfl, gwT 801 (by decide +kernel) (by decide +kernel)⟩
theorem fl_R_37 : FLk R_R 37 40 13 := ⟨R_R, T_R, 38, rfl, rfl, rfl, by decide, in_R, rfl, gwT 802 (by decide +kernel) (by decide +kernel)⟩
theorem pl_R_37 : PLk R_R 37 40 13 .int := ⟨R_R, T_R, 38, t_R, rfl, rfl, rfl, by decide, in_R, rfl, gwT 802 (by decide +kernel) (by decide +kernel), ok_R, nm_R, rfl, rfl⟩
theorem fl_R_117 : FLk R_R 117 40 14 := ⟨R_R, T_R, 38, rfl, rfl, rfl, by decide, in_R, rfl, gwT 803 (by decide +kernel) (by decide +kernel)⟩
theorem pl_R_117 : PLk R_R 117 40 14 .int := ⟨R_R, T_R, 38, t_R, rfl, rfl, rfl, by decide, in_R, rfl, gwT 803 (by decide +kernel) (by decide +kernel), ok_R, nm_R, rfl, rfl⟩
theorem fl_R_41 : FLk R_R 41 40 15 := ⟨R_R, T_R, 38, rfl, rfl, rfl, by decide, in_R, rfl, gwT 804 (by decide +kernel) (by decide +kernel)⟩
theorem pl_R_41 : PLk R_R 41 40 15 .int := ⟨R_R, T_R, 38, t_R, rfl, rfl, rfl, by decide, in_R, rfl, gwT 804 (by decide +kernel) (by decide +kernel), ok_R, nm_R, rfl, rfl⟩
theorem fl_R_121 : FLk R_R 121 40 16 := ⟨R_R, T_R, 38, rfl, rfl, rfl, by decide, in_R, rfl, gwT 805 (by decide +kernel) (by decide +kernel)⟩
theorem pl_R_121 : PLk R_R 121 40 16 .int := ⟨R_R, T_R, 38, t_R, rfl, rfl, rfl, by decide, in_R, rfl, gwT 805 (by decide +kernel) (by decide +kernel), ok_R, nm_R, rfl, rfl⟩
theorem fl_R_44 : FLk R_R 44 40 17 := ⟨R_R, T_R, 38, rfl, rfl, rfl, by decide, in_R, rfl, gwT 806 (by decide +kernel) (by decide +kernel)⟩
theorem pl_R_44 : PLk R_R 44 40 17 .int := ⟨R_R, T_R, 38, t_R, rfl, rfl, rfl, by decide, in_R, rfl, gwT 806 (by decide +kernel) (by decide +kernel), ok_R, nm_R, rfl, rfl⟩
theorem fl_R_47 : FLk R_R 47 40 18 := ⟨R_R, T_R, 38, rfl, rfl, rfl, by decide, in_R, rfl, gwT 807 (by decide +kernel) (by decide +kernel)⟩
theorem fl_R_98 : FLk R_R 98 40 19 := ⟨R_R, T_R, 38, rfl, rfl, rfl, by decide, in_R, rfl, gwT 808 (by decide +kernel) (by decide +kernel)⟩
theorem pl_R_98 : PLk R_R 98 40 19 .boolean := ⟨R_R, T_R, 38, t_R, rfl, rfl, rfl, by decide, in_R, rfl, gwT 808 (by decide +kernel) (by decide +kernel), ok_R, nm_R, rfl, rfl⟩
theorem fl_R_50 : FLk R_R 50 40 20 := ⟨R_R, T_R, 38, rfl, rfl, rfl, by decide, in_R, rfl, gwT 809 (by decide +kernel) (by decide +kernel)⟩
theorem fl_R_53 : FLk R_R 53 40 21 := ⟨R_R, T_R, 38, rfl, rfl, rfl, by decide, in_R, rfl, gwT 810 (by decide +kernel) (by decide +kernel)⟩
theorem fl_R_56 : FLk R_R 56 40 22 := ⟨R_R, T_R, 38, rfl, rfl, rfl, by decide, in_R, rfl, gwT 811 (by decide +kernel) (by decide +kernel)⟩
theorem fl_R_59 : FLk R_R 59 40 23 := ⟨R_R, T_R, 38, rfl, rfl, rfl, by decide, in_R, rfl, gwT 812 (by decide +kernel) (by decide +kernel)⟩
theorem fl_R_62 : FLk R_R 62 40 24 := ⟨R_R, T_R, 38, rfl, rfl, rfl, by decide, in_R, rfl, gwT 813 (by decide +kernel) (by decide +kernel)⟩
theorem fl_R_140 : FLk R_R 140 40 25 := ⟨R_R, T_R, 38, rfl, rfl, rfl, by decide, in_R, rfl, gwT 814 (by decide +kernel) (by decide +kernel)⟩
theorem pl_R_140 : PLk R_R 140 40 25 .int := ⟨R_R, T_R, 38, t_R, rfl, rfl, rfl, by decide, in_R, rfl, gwT 814 (by decide +kernel) (by decide +kernel), ok_R, nm_R, rfl, rfl⟩
theorem fl_R_143 : FLk R_R 143 40 26 := ⟨R_R, T_R, 38, rfl, rfl, rfl, by decide, in_R, rfl, gwT 815 (by decide +kernel) (by decide +kernel)⟩
theorem pl_R_143 : PLk R_R 143 40 26 .int := ⟨R_R, T_R, 38, t_R, rfl, rfl, rfl, by decide, in_R, rfl, gwT 815 (by decide +kernel) (by decide +kernel), ok_R, nm_R, rfl, rfl⟩
theorem fl_R_137 : FLk R_R 137 40 27 := ⟨R_R, T_R, 38, rfl, rfl, rfl, by decide, in_R, rfl, gwT 816 (by decide +kernel) (by decide +kernel)⟩
theorem pl_R_137 : PLk R_R 137 40 27 .int := ⟨R_R, T_R, 38, t_R, rfl, rfl, rfl, by decide, in_R, rfl, gwT 816 (by decide +kernel) (by decide +kernel), ok_R, nm_R, rfl, rfl⟩
theorem fl_R_131 : FLk R_R 131 40 28 := ⟨R_R, T_R, 38, rfl, rfl, rfl, by decide, in_R, rfl, gwT 817 (by decide +kernel) (by decide +kernel)⟩
theorem pl_R_131 : PLk R_R 131 40 28 .int := ⟨R_R, T_R, 38, t_R, rfl, rfl, rfl, by decide, in_R, rfl, gwT 817 (by decide +kernel) (by decide +kernel), ok_R, nm_R, rfl, rfl⟩
theorem fl_R_134 : FLk R_R 134 40 29 := ⟨R_R, T_R, 38, rfl, rfl, rfl, by decide, in_R, rfl, gwT 818 (by decide +kernel) (by decide +kernel)⟩
theorem pl_R_134 : PLk R_R 134 40 29 .int := ⟨R_R, T_R, 38, t_R, rfl, rfl, rfl, by decide, in_R, rfl, gwT 818 (by decide +kernel) (by decide +kernel), ok_R, nm_R, rfl, rfl⟩
theorem fl_R_150 : FLk R_R 150 40 30 := ⟨R_R, T_R, 38, rfl, rfl, rfl, by decide, in_R, rfl, gwT 819 (by decide +kernel) (by decide +kernel)⟩
theorem pl_R_150 : PLk R_R 150 40 30 .long := ⟨R_R, T_R, 38, t_R, rfl, rfl, rfl, by decide, in_R, rfl, gwT 819 (by decide +kernel) (by decide +kernel), ok_R, nm_R, rfl, rfl⟩
theorem fl_R_65 : FLk R_R 65 40 31 := ⟨R_R, T_R, 38, rfl, rfl, rfl, by decide, in_R, rfl, gwT 820 (by decide +kernel) (by decide +kernel)⟩
theorem fl_R_177 : FLk R_R 177 40 32 := ⟨R_R, T_R, 38, rfl, rfl, rfl, by decide, in_R, rfl, gwT 821 (by decide +kernel) (by decide +kernel)⟩
theorem pl_R_177 : PLk R_R 177 40 32 .int := ⟨R_R, T_R, 38, t_R, rfl, rfl, rfl, by decide, in_R, rfl, gwT 821 (by decide +kernel) (by decide +kernel), ok_R, nm_R, rfl, rfl⟩
theorem fl_R_69 : FLk R_R 69 40 33 := ⟨R_R, T_R, 38, rfl, rfl, rfl, by decide, in_R, rfl, gwT 822 (by decide +kernel) (by decide +kernel)⟩
theorem fl_R_72 : FLk R_R 72 40 34 := ⟨R_R, T_R, 38, rfl, rfl, rfl, by decide, in_R, rfl, gwT 823 (by decide +kernel) (by decide +kernel)⟩
theorem fl_R_75 : FLk R_R 75 40 35 := ⟨R_R, T_R, 38, rfl, rfl, rfl, by decide, in_R, rfl, gwT 824 (by decide +kernel) (by decide +kernel)⟩
theorem fl_R_78 : FLk R_R 78 40 36 := ⟨R_R, T_R, 38, rfl, rfl, rfl, by decide, in_R, rfl, gwT 825 (by decide +kernel) (by decide +kernel)⟩
theorem fl_R_81 : FLk R_R 81 40 37 := ⟨R_R, T_R, 38, rfl, rfl, rfl, by decide, in_R, rfl, gwT 826 (by decide +kernel) (by decide +kernel)⟩
theorem k_R_120 : Jvm.Cond.constant R_R 120 (Int32.ofInt 10000000) ∈ GW := gwT 956 (by decide +kernel) (by decide +kernel)
theorem k_R_127 : Jvm.Cond.constant R_R 127 (Int32.ofInt 1000000) ∈ GW := gwT 973 (by decide +kernel) (by decide +kernel)
theorem k_R_157 : Jvm.Cond.constantLong R_R 157 (Int64.ofInt 200) ∈ GW := gwT 998 (by decide +kernel) (by decide +kernel)
theorem k_R_168 : Jvm.Cond.constantLong R_R 168 (Int64.ofInt 115) ∈ GW := gwT 1035 (by decide +kernel) (by decide +kernel)
theorem k_R_170 : Jvm.Cond.constantLong R_R 170 (Int64.ofInt 100000) ∈ GW := gwT 1036 (by decide +kernel) (by decide +kernel)
theorem k_R_172 : Jvm.Cond.constantLong R_R 172 (Int64.ofInt 1000) ∈ GW := gwT 1037 (by decide +kernel) (by decide +kernel)
theorem k_R_186 : Jvm.Cond.constantLong R_R 186 (Int64.ofInt 12) ∈ GW := gwT 1054 (by decide +kernel) (by decide +kernel)
theorem cl_L_81 : CLk R_L 81 y_H_init b_H_init 1 none [] 0 := ⟨gwT 21 (by decide +kernel) (by decide +kernel), gwT 23 (by decide +kernel) (by decide +kernel), gwT 1 (by decide +kernel) (by decide +kernel), by decide +kernel, by decide +kernel, by decide +kernel⟩
theorem cl_H_11 : CLk R_H 11 y_O_init b_O_init 2 none [] 0 := ⟨gwT 29 (by decide +kernel) (by decide +kernel), gwT 31 (by decide +kernel) (by decide +kernel), gwT 2 (by decide +kernel) (by decide +kernel), by decide +kernel, by decide +kernel, by decide +kernel⟩
theorem cl_O_21 : CLk R_O 21 y_F_init b_F_init 1 none [] 0 := ⟨gwT 36 (by decide +kernel) (by decide +kernel), gwT 38 (by decide +kernel) (by decide +kernel), gwT 3 (by decide +kernel) (by decide +kernel), by decide +kernel, by decide +kernel, by decide +kernel⟩
theorem cl_F_34 : CLk R_F 34 y_J_fill b_J_fill 4 none [] 2 := ⟨gwT 40 (by decide +kernel) (by decide +kernel), gwT 42 (by decide +kernel) (by decide +kernel), gwT 4 (by decide +kernel) (by decide +kernel), by decide +kernel, by decide +kernel, by decide +kernel⟩
theorem cl_L_128 : CLk R_L 128 y_H_bill b_H_bill 2 (some (.int)) [] 0 := ⟨gwT 267 (by decide +kernel) (by decide +kernel), gwT 270 (by decide +kernel) (by decide +kernel), gwT 1 (by decide +kernel) (by decide +kernel), by decide +kernel, by decide +kernel, by decide +kernel⟩
theorem cl_H_170 : CLk R_H 170 y_U_isBurned b_U_isBurned 1 (some (.boolean)) [] 0 := ⟨gwT 271 (by decide +kernel) (by decide +kernel), gwT 274 (by decide +kernel) (by decide +kernel), gwT 5 (by decide +kernel) (by decide +kernel), by decide +kernel, by decide +kernel, by decide +kernel⟩
theorem cl_U_25 : CLk R_U 25 y_U_burnedUnits b_U_burnedUnits 1 (some (.int)) [] 0 := ⟨gwT 275 (by decide +kernel) (by decide +kernel), gwT 278 (by decide +kernel) (by decide +kernel), gwT 5 (by decide +kernel) (by decide +kernel), by decide +kernel, by decide +kernel, by decide +kernel⟩
theorem cl_U_29 : CLk R_U 29 y_U_allUnits b_U_allUnits 3 (some (.int)) [] 0 := ⟨gwT 279 (by decide +kernel) (by decide +kernel), gwT 282 (by decide +kernel) (by decide +kernel), gwT 5 (by decide +kernel) (by decide +kernel), by decide +kernel, by decide +kernel, by decide +kernel⟩
theorem cl_H_174 : CLk R_H 174 y_M_look b_M_look 8 none [] 1 := ⟨gwT 283 (by decide +kernel) (by decide +kernel), gwT 286 (by decide +kernel) (by decide +kernel), gwT 6 (by decide +kernel) (by decide +kernel), by decide +kernel, by decide +kernel, by decide +kernel⟩
theorem cl_M_39 : CLk R_M 39 y_M_sumRead b_M_sumRead 4 none [] 1 := ⟨gwT 287 (by decide +kernel) (by decide +kernel), gwT 290 (by decide +kernel) (by decide +kernel), gwT 6 (by decide +kernel) (by decide +kernel), by decide +kernel, by decide +kernel, by decide +kernel⟩
theorem cl_M_60 : CLk R_M 60 y_F_isMeterRead b_F_isMeterRead 3 (some (.boolean)) [] 0 := ⟨gwT 291 (by decide +kernel) (by decide +kernel), gwT 294 (by decide +kernel) (by decide +kernel), gwT 3 (by decide +kernel) (by decide +kernel), by decide +kernel, by decide +kernel, by decide +kernel⟩
theorem cl_M_66 : CLk R_M 66 y_F_unitsOfYear b_F_unitsOfYear 1 (some (.int)) [] 0 := ⟨gwT 295 (by decide +kernel) (by decide +kernel), gwT 298 (by decide +kernel) (by decide +kernel), gwT 3 (by decide +kernel) (by decide +kernel), by decide +kernel, by decide +kernel, by decide +kernel⟩
theorem cl_F_40 : CLk R_F 40 y_F_unitsBetween b_F_unitsBetween 3 (some (.int)) [] 2 := ⟨gwT 299 (by decide +kernel) (by decide +kernel), gwT 302 (by decide +kernel) (by decide +kernel), gwT 3 (by decide +kernel) (by decide +kernel), by decide +kernel, by decide +kernel, by decide +kernel⟩
theorem cl_M_52 : CLk R_M 52 y_M_kindOf b_M_kindOf 2 (some (.int)) [] 1 := ⟨gwT 303 (by decide +kernel) (by decide +kernel), gwT 306 (by decide +kernel) (by decide +kernel), gwT 6 (by decide +kernel) (by decide +kernel), by decide +kernel, by decide +kernel, by decide +kernel⟩
theorem cl_M_56 : CLk R_M 56 y_M_scaledUnits b_M_scaledUnits 9 (some (.long)) [] 4 := ⟨gwT 307 (by decide +kernel) (by decide +kernel), gwT 310 (by decide +kernel) (by decide +kernel), gwT 6 (by decide +kernel) (by decide +kernel), by decide +kernel, by decide +kernel, by decide +kernel⟩
theorem cl_M_78 : CLk R_M 78 y_J_minJ b_J_minJ 4 (some (.long)) [] 2 := ⟨gwT 312 (by decide +kernel) (by decide +kernel), gwT 314 (by decide +kernel) (by decide +kernel), gwT 18 (by decide +kernel) (by decide +kernel), by decide +kernel, by decide +kernel, by decide +kernel⟩
theorem cl_H_178 : CLk R_H 178 y_P_lay b_P_lay 3 none [] 1 := ⟨gwT 315 (by decide +kernel) (by decide +kernel), gwT 318 (by decide +kernel) (by decide +kernel), gwT 7 (by decide +kernel) (by decide +kernel), by decide +kernel, by decide +kernel, by decide +kernel⟩
theorem cl_P_35 : CLk R_P 35 y_P_layFlat b_P_layFlat 6 none [] 2 := ⟨gwT 319 (by decide +kernel) (by decide +kernel), gwT 322 (by decide +kernel) (by decide +kernel), gwT 7 (by decide +kernel) (by decide +kernel), by decide +kernel, by decide +kernel, by decide +kernel⟩
theorem cl_P_39 : CLk R_P 39 y_F_hasChange b_F_hasChange 2 (some (.boolean)) [] 1 := ⟨gwT 323 (by decide +kernel) (by decide +kernel), gwT 326 (by decide +kernel) (by decide +kernel), gwT 3 (by decide +kernel) (by decide +kernel), by decide +kernel, by decide +kernel, by decide +kernel⟩
theorem cl_P_51 : CLk R_P 51 y_P_addSpan b_P_addSpan 5 none [] 4 := ⟨gwT 327 (by decide +kernel) (by decide +kernel), gwT 330 (by decide +kernel) (by decide +kernel), gwT 7 (by decide +kernel) (by decide +kernel), by decide +kernel, by decide +kernel, by decide +kernel⟩
theorem cl_H_181 : CLk R_H 181 y_M_areFitFor b_M_areFitFor 4 (some (.boolean)) [] 1 := ⟨gwT 331 (by decide +kernel) (by decide +kernel), gwT 334 (by decide +kernel) (by decide +kernel), gwT 6 (by decide +kernel) (by decide +kernel), by decide +kernel, by decide +kernel, by decide +kernel⟩
theorem cl_M_84 : CLk R_M 84 y_O_allArea b_O_allArea 3 (some (.int)) [] 0 := ⟨gwT 335 (by decide +kernel) (by decide +kernel), gwT 338 (by decide +kernel) (by decide +kernel), gwT 2 (by decide +kernel) (by decide +kernel), by decide +kernel, by decide +kernel, by decide +kernel⟩
theorem cl_H_185 : CLk R_H 185 y_P_cutStretches b_P_cutStretches 5 (some (.boolean)) [] 2 := ⟨gwT 339 (by decide +kernel) (by decide +kernel), gwT 342 (by decide +kernel) (by decide +kernel), gwT 7 (by decide +kernel) (by decide +kernel), by decide +kernel, by decide +kernel, by decide +kernel⟩
theorem cl_P_55 : CLk R_P 55 y_M_endsStretch b_M_endsStretch 4 (some (.boolean)) [] 3 := ⟨gwT 343 (by decide +kernel) (by decide +kernel), gwT 346 (by decide +kernel) (by decide +kernel), gwT 6 (by decide +kernel) (by decide +kernel), by decide +kernel, by decide +kernel, by decide +kernel⟩
theorem cl_H_189 : CLk R_H 189 y_H_hasDegreesOfYear b_H_hasDegreesOfYear 3 (some (.boolean)) [] 0 := ⟨gwT 347 (by decide +kernel) (by decide +kernel), gwT 350 (by decide +kernel) (by decide +kernel), gwT 1 (by decide +kernel) (by decide +kernel), by decide +kernel, by decide +kernel, by decide +kernel⟩
theorem cl_H_192 : CLk R_H 192 y_H_setBillParts b_H_setBillParts 5 none [] 0 := ⟨gwT 351 (by decide +kernel) (by decide +kernel), gwT 354 (by decide +kernel) (by decide +kernel), gwT 1 (by decide +kernel) (by decide +kernel), by decide +kernel, by decide +kernel, by decide +kernel⟩
theorem cl_H_253 : CLk R_H 253 y_U_burnedUnits b_U_burnedUnits 1 (some (.int)) [] 0 := ⟨gwT 355 (by decide +kernel) (by decide +kernel), gwT 278 (by decide +kernel) (by decide +kernel), gwT 5 (by decide +kernel) (by decide +kernel), by decide +kernel, by decide +kernel, by decide +kernel⟩
theorem cl_H_256 : CLk R_H 256 y_U_burnedCents b_U_burnedCents 3 (some (.int)) [] 0 := ⟨gwT 356 (by decide +kernel) (by decide +kernel), gwT 359 (by decide +kernel) (by decide +kernel), gwT 5 (by decide +kernel) (by decide +kernel), by decide +kernel, by decide +kernel, by decide +kernel⟩
theorem cl_U_32 : CLk R_U 32 y_U_stockCents b_U_stockCents 3 (some (.int)) [] 1 := ⟨gwT 360 (by decide +kernel) (by decide +kernel), gwT 363 (by decide +kernel) (by decide +kernel), gwT 5 (by decide +kernel) (by decide +kernel), by decide +kernel, by decide +kernel, by decide +kernel⟩
theorem cl_U_45 : CLk R_U 45 y_U_stockUnits b_U_stockUnits 4 (some (.int)) [] 1 := ⟨gwT 364 (by decide +kernel) (by decide +kernel), gwT 367 (by decide +kernel) (by decide +kernel), gwT 5 (by decide +kernel) (by decide +kernel), by decide +kernel, by decide +kernel, by decide +kernel⟩
theorem cl_U_36 : CLk R_U 36 y_J_minI b_J_minI 2 (some (.int)) [] 2 := ⟨gwT 368 (by decide +kernel) (by decide +kernel), gwT 370 (by decide +kernel) (by decide +kernel), gwT 18 (by decide +kernel) (by decide +kernel), by decide +kernel, by decide +kernel, by decide +kernel⟩
theorem cl_U_42 : CLk R_U 42 y_J_maxI b_J_maxI 2 (some (.int)) [] 2 := ⟨gwT 371 (by decide +kernel) (by decide +kernel), gwT 373 (by decide +kernel) (by decide +kernel), gwT 18 (by decide +kernel) (by decide +kernel), by decide +kernel, by decide +kernel, by decide +kernel⟩
theorem cl_H_259 : CLk R_H 259 y_H_waterUnits b_H_waterUnits 4 (some (.int)) [] 1 := ⟨gwT 374 (by decide +kernel) (by decide +kernel), gwT 377 (by decide +kernel) (by decide +kernel), gwT 1 (by decide +kernel) (by decide +kernel), by decide +kernel, by decide +kernel, by decide +kernel⟩
theorem cl_H_268 : CLk R_H 268 y_J_minJ b_J_minJ 4 (some (.long)) [] 2 := ⟨gwT 380 (by decide +kernel) (by decide +kernel), gwT 314 (by decide +kernel) (by decide +kernel), gwT 18 (by decide +kernel) (by decide +kernel), by decide +kernel, by decide +kernel, by decide +kernel⟩
theorem cl_H_195 : CLk R_H 195 y_H_shareParts b_H_shareParts 2 none [] 1 := ⟨gwT 382 (by decide +kernel) (by decide +kernel), gwT 385 (by decide +kernel) (by decide +kernel), gwT 1 (by decide +kernel) (by decide +kernel), by decide +kernel, by decide +kernel, by decide +kernel⟩
theorem cl_H_274 : CLk R_H 274 y_A_clearOwed b_A_clearOwed 2 none [] 0 := ⟨gwT 386 (by decide +kernel) (by decide +kernel), gwT 389 (by decide +kernel) (by decide +kernel), gwT 9 (by decide +kernel) (by decide +kernel), by decide +kernel, by decide +kernel, by decide +kernel⟩
theorem cl_A_30 : CLk R_A 30 y_J_fill b_J_fill 4 none [] 2 := ⟨gwT 390 (by decide +kernel) (by decide +kernel), gwT 42 (by decide +kernel) (by decide +kernel), gwT 4 (by decide +kernel) (by decide +kernel), by decide +kernel, by decide +kernel, by decide +kernel⟩
theorem cl_H_277 : CLk R_H 277 y_S_weighByArea b_S_weighByArea 4 none [] 2 := ⟨gwT 391 (by decide +kernel) (by decide +kernel), gwT 394 (by decide +kernel) (by decide +kernel), gwT 8 (by decide +kernel) (by decide +kernel), by decide +kernel, by decide +kernel, by decide +kernel⟩
theorem cl_S_49 : CLk R_S 49 y_P_months b_P_months 2 (some (.int)) [] 1 := ⟨gwT 395 (by decide +kernel) (by decide +kernel), gwT 398 (by decide +kernel) (by decide +kernel), gwT 7 (by decide +kernel) (by decide +kernel), by decide +kernel, by decide +kernel, by decide +kernel⟩
theorem cl_S_53 : CLk R_S 53 y_S_setWhole b_S_setWhole 3 none [] 2 := ⟨gwT 399 (by decide +kernel) (by decide +kernel), gwT 402 (by decide +kernel) (by decide +kernel), gwT 8 (by decide +kernel) (by decide +kernel), by decide +kernel, by decide +kernel, by decide +kernel⟩
theorem cl_H_281 : CLk R_H 281 y_H_sharePart b_H_sharePart 4 none [] 2 := ⟨gwT 403 (by decide +kernel) (by decide +kernel), gwT 406 (by decide +kernel) (by decide +kernel), gwT 1 (by decide +kernel) (by decide +kernel), by decide +kernel, by decide +kernel, by decide +kernel⟩
theorem cl_H_295 : CLk R_H 295 y_S_split b_S_split 6 none [] 2 := ⟨gwT 407 (by decide +kernel) (by decide +kernel), gwT 410 (by decide +kernel) (by decide +kernel), gwT 8 (by decide +kernel) (by decide +kernel), by decide +kernel, by decide +kernel, by decide +kernel⟩
theorem cl_S_96 : CLk R_S 96 y_S_roundDown b_S_roundDown 7 none [] 2 := ⟨gwT 411 (by decide +kernel) (by decide +kernel), gwT 414 (by decide +kernel) (by decide +kernel), gwT 8 (by decide +kernel) (by decide +kernel), by decide +kernel, by decide +kernel, by decide +kernel⟩
theorem cl_S_99 : CLk R_S 99 y_S_greatestCutOff b_S_greatestCutOff 4 (some (.int)) [] 1 := ⟨gwT 415 (by decide +kernel) (by decide +kernel), gwT 418 (by decide +kernel) (by decide +kernel), gwT 8 (by decide +kernel) (by decide +kernel), by decide +kernel, by decide +kernel, by decide +kernel⟩
theorem cl_H_284 : CLk R_H 284 y_O_hasWaterArea b_O_hasWaterArea 2 (some (.boolean)) [] 0 := ⟨gwT 419 (by decide +kernel) (by decide +kernel), gwT 422 (by decide +kernel) (by decide +kernel), gwT 2 (by decide +kernel) (by decide +kernel), by decide +kernel, by decide +kernel, by decide +kernel⟩
theorem cl_H_287 : CLk R_H 287 y_S_weighByWaterArea b_S_weighByWaterArea 4 none [] 2 := ⟨gwT 423 (by decide +kernel) (by decide +kernel), gwT 426 (by decide +kernel) (by decide +kernel), gwT 8 (by decide +kernel) (by decide +kernel), by decide +kernel, by decide +kernel, by decide +kernel⟩
theorem cl_H_290 : CLk R_H 290 y_S_weighByMeters b_S_weighByMeters 12 none [] 4 := ⟨gwT 427 (by decide +kernel) (by decide +kernel), gwT 430 (by decide +kernel) (by decide +kernel), gwT 8 (by decide +kernel) (by decide +kernel), by decide +kernel, by decide +kernel, by decide +kernel⟩
theorem cl_S_65 : CLk R_S 65 y_M_endsStretch b_M_endsStretch 4 (some (.boolean)) [] 3 := ⟨gwT 431 (by decide +kernel) (by decide +kernel), gwT 346 (by decide +kernel) (by decide +kernel), gwT 6 (by decide +kernel) (by decide +kernel), by decide +kernel, by decide +kernel, by decide +kernel⟩
theorem cl_S_69 : CLk R_S 69 y_M_stretchUnits b_M_stretchUnits 5 (some (.long)) [] 4 := ⟨gwT 432 (by decide +kernel) (by decide +kernel), gwT 435 (by decide +kernel) (by decide +kernel), gwT 6 (by decide +kernel) (by decide +kernel), by decide +kernel, by decide +kernel, by decide +kernel⟩
theorem cl_M_90 : CLk R_M 90 y_F_unitsBetween b_F_unitsBetween 3 (some (.int)) [] 2 := ⟨gwT 436 (by decide +kernel) (by decide +kernel), gwT 302 (by decide +kernel) (by decide +kernel), gwT 3 (by decide +kernel) (by decide +kernel), by decide +kernel, by decide +kernel, by decide +kernel⟩
theorem cl_S_73 : CLk R_S 73 y_S_addStretch b_S_addStretch 14 none [] 6 := ⟨gwT 437 (by decide +kernel) (by decide +kernel), gwT 440 (by decide +kernel) (by decide +kernel), gwT 8 (by decide +kernel) (by decide +kernel), by decide +kernel, by decide +kernel, by decide +kernel⟩
theorem cl_S_80 : CLk R_S 80 y_J_maxI b_J_maxI 2 (some (.int)) [] 2 := ⟨gwT 441 (by decide +kernel) (by decide +kernel), gwT 373 (by decide +kernel) (by decide +kernel), gwT 18 (by decide +kernel) (by decide +kernel), by decide +kernel, by decide +kernel, by decide +kernel⟩
theorem cl_S_89 : CLk R_S 89 y_J_minI b_J_minI 2 (some (.int)) [] 2 := ⟨gwT 442 (by decide +kernel) (by decide +kernel), gwT 370 (by decide +kernel) (by decide +kernel), gwT 18 (by decide +kernel) (by decide +kernel), by decide +kernel, by decide +kernel, by decide +kernel⟩
theorem cl_S_92 : CLk R_S 92 y_S_sumBetween b_S_sumBetween 5 (some (.int)) [] 3 := ⟨gwT 443 (by decide +kernel) (by decide +kernel), gwT 445 (by decide +kernel) (by decide +kernel), gwT 8 (by decide +kernel) (by decide +kernel), by decide +kernel, by decide +kernel, by decide +kernel⟩
theorem cl_L_85 : CLk R_L 85 y_L_flat b_L_flat 6 (some (.int)) [(0, 12, 15, 13), (0, 12, 19, 15)] 5 := ⟨gwT 446 (by decide +kernel) (by decide +kernel), gwT 448 (by decide +kernel) (by decide +kernel), gwT 0 (by decide +kernel) (by decide +kernel), by decide +kernel, by decide +kernel, by decide +kernel⟩
theorem cl_L_7 : CLk R_L 7 y_H_flat b_H_flat 4 (some (.int)) [] 3 := ⟨gwT 451 (by decide +kernel) (by decide +kernel), gwT 454 (by decide +kernel) (by decide +kernel), gwT 1 (by decide +kernel) (by decide +kernel), by decide +kernel, by decide +kernel, by decide +kernel⟩
theorem cl_H_75 : CLk R_H 75 y_H_isOutside b_H_isOutside 3 (some (.boolean)) [] 3 := ⟨gwT 455 (by decide +kernel) (by decide +kernel), gwT 457 (by decide +kernel) (by decide +kernel), gwT 1 (by decide +kernel) (by decide +kernel), by decide +kernel, by decide +kernel, by decide +kernel⟩
theorem cl_H_94 : CLk R_H 94 y_O_addFlat b_O_addFlat 6 (some (.int)) [] 3 := ⟨gwT 543 (by decide +kernel) (by decide +kernel), gwT 546 (by decide +kernel) (by decide +kernel), gwT 2 (by decide +kernel) (by decide +kernel), by decide +kernel, by decide +kernel, by decide +kernel⟩
theorem cl_L_94 : CLk R_L 94 y_L_reading b_L_reading 5 (some (.int)) [(0, 7, 10, 21), (0, 7, 14, 13)] 4 := ⟨gwT 547 (by decide +kernel) (by decide +kernel), gwT 549 (by decide +kernel) (by decide +kernel), gwT 0 (by decide +kernel) (by decide +kernel), by decide +kernel, by decide +kernel, by decide +kernel⟩
theorem cl_L_17 : CLk R_L 17 y_H_reading b_H_reading 4 none [] 3 := ⟨gwT 551 (by decide +kernel) (by decide +kernel), gwT 554 (by decide +kernel) (by decide +kernel), gwT 1 (by decide +kernel) (by decide +kernel), by decide +kernel, by decide +kernel, by decide +kernel⟩
theorem cl_H_98 : CLk R_H 98 y_H_needFlat b_H_needFlat 2 none [] 1 := ⟨gwT 555 (by decide +kernel) (by decide +kernel), gwT 558 (by decide +kernel) (by decide +kernel), gwT 1 (by decide +kernel) (by decide +kernel), by decide +kernel, by decide +kernel, by decide +kernel⟩
theorem cl_L_98 : CLk R_L 98 y_L_enter b_L_enter 5 (some (.int)) [(0, 10, 13, 21), (0, 10, 17, 27), (0, 10, 21, 15)] 4 := ⟨gwT 577 (by decide +kernel) (by decide +kernel), gwT 579 (by decide +kernel) (by decide +kernel), gwT 0 (by decide +kernel) (by decide +kernel), by decide +kernel, by decide +kernel, by decide +kernel⟩
theorem cl_L_23 : CLk R_L 23 y_H_enter b_H_enter 4 (some (.int)) [] 2 := ⟨gwT 581 (by decide +kernel) (by decide +kernel), gwT 584 (by decide +kernel) (by decide +kernel), gwT 1 (by decide +kernel) (by decide +kernel), by decide +kernel, by decide +kernel, by decide +kernel⟩
theorem cl_H_118 : CLk R_H 118 y_H_needRoomForChange b_H_needRoomForChange 3 none [] 2 := ⟨gwT 585 (by decide +kernel) (by decide +kernel), gwT 588 (by decide +kernel) (by decide +kernel), gwT 1 (by decide +kernel) (by decide +kernel), by decide +kernel, by decide +kernel, by decide +kernel⟩
theorem cl_H_240 : CLk R_H 240 y_F_hasChange b_F_hasChange 2 (some (.boolean)) [] 1 := ⟨gwT 589 (by decide +kernel) (by decide +kernel), gwT 326 (by decide +kernel) (by decide +kernel), gwT 3 (by decide +kernel) (by decide +kernel), by decide +kernel, by decide +kernel, by decide +kernel⟩
theorem cl_H_127 : CLk R_H 127 y_A_addTenant b_A_addTenant 2 (some (.int)) [] 0 := ⟨gwT 607 (by decide +kernel) (by decide +kernel), gwT 610 (by decide +kernel) (by decide +kernel), gwT 9 (by decide +kernel) (by decide +kernel), by decide +kernel, by decide +kernel, by decide +kernel⟩
theorem cl_L_102 : CLk R_L 102 y_L_leave b_L_leave 4 (some (.int)) [(0, 6, 9, 21), (0, 6, 12, 27)] 3 := ⟨gwT 611 (by decide +kernel) (by decide +kernel), gwT 613 (by decide +kernel) (by decide +kernel), gwT 0 (by decide +kernel) (by decide +kernel), by decide +kernel, by decide +kernel, by decide +kernel⟩
theorem cl_L_29 : CLk R_L 29 y_H_leave b_H_leave 3 none [] 2 := ⟨gwT 614 (by decide +kernel) (by decide +kernel), gwT 617 (by decide +kernel) (by decide +kernel), gwT 1 (by decide +kernel) (by decide +kernel), by decide +kernel, by decide +kernel, by decide +kernel⟩
theorem cl_L_106 : CLk R_L 106 y_L_deliver b_L_deliver 4 (some (.int)) [(0, 6, 9, 13), (0, 6, 12, 15)] 3 := ⟨gwT 618 (by decide +kernel) (by decide +kernel), gwT 620 (by decide +kernel) (by decide +kernel), gwT 0 (by decide +kernel) (by decide +kernel), by decide +kernel, by decide +kernel, by decide +kernel⟩
theorem cl_L_33 : CLk R_L 33 y_H_deliver b_H_deliver 3 none [] 2 := ⟨gwT 621 (by decide +kernel) (by decide +kernel), gwT 624 (by decide +kernel) (by decide +kernel), gwT 1 (by decide +kernel) (by decide +kernel), by decide +kernel, by decide +kernel, by decide +kernel⟩
theorem cl_H_141 : CLk R_H 141 y_U_addLayer b_U_addLayer 3 none [] 2 := ⟨gwT 627 (by decide +kernel) (by decide +kernel), gwT 630 (by decide +kernel) (by decide +kernel), gwT 5 (by decide +kernel) (by decide +kernel), by decide +kernel, by decide +kernel, by decide +kernel⟩
theorem cl_L_109 : CLk R_L 109 y_L_endStock b_L_endStock 3 (some (.int)) [(0, 5, 8, 13)] 2 := ⟨gwT 631 (by decide +kernel) (by decide +kernel), gwT 633 (by decide +kernel) (by decide +kernel), gwT 0 (by decide +kernel) (by decide +kernel), by decide +kernel, by decide +kernel, by decide +kernel⟩
theorem cl_L_36 : CLk R_L 36 y_H_endStock b_H_endStock 2 none [] 1 := ⟨gwT 634 (by decide +kernel) (by decide +kernel), gwT 637 (by decide +kernel) (by decide +kernel), gwT 1 (by decide +kernel) (by decide +kernel), by decide +kernel, by decide +kernel, by decide +kernel⟩
theorem cl_H_144 : CLk R_H 144 y_U_allUnits b_U_allUnits 3 (some (.int)) [] 0 := ⟨gwT 638 (by decide +kernel) (by decide +kernel), gwT 282 (by decide +kernel) (by decide +kernel), gwT 5 (by decide +kernel) (by decide +kernel), by decide +kernel, by decide +kernel, by decide +kernel⟩
theorem cl_L_113 : CLk R_L 113 y_L_sideCosts b_L_sideCosts 3 (some (.int)) [(0, 5, 8, 13)] 2 := ⟨gwT 640 (by decide +kernel) (by decide +kernel), gwT 642 (by decide +kernel) (by decide +kernel), gwT 0 (by decide +kernel) (by decide +kernel), by decide +kernel, by decide +kernel, by decide +kernel⟩
theorem cl_L_40 : CLk R_L 40 y_H_sideCosts b_H_sideCosts 2 none [] 1 := ⟨gwT 643 (by decide +kernel) (by decide +kernel), gwT 646 (by decide +kernel) (by decide +kernel), gwT 1 (by decide +kernel) (by decide +kernel), by decide +kernel, by decide +kernel, by decide +kernel⟩
theorem cl_L_116 : CLk R_L 116 y_L_water b_L_water 4 (some (.int)) [(0, 6, 9, 13)] 3 := ⟨gwT 648 (by decide +kernel) (by decide +kernel), gwT 650 (by decide +kernel) (by decide +kernel), gwT 0 (by decide +kernel) (by decide +kernel), by decide +kernel, by decide +kernel, by decide +kernel⟩
theorem cl_L_43 : CLk R_L 43 y_H_water b_H_water 3 none [] 2 := ⟨gwT 651 (by decide +kernel) (by decide +kernel), gwT 654 (by decide +kernel) (by decide +kernel), gwT 1 (by decide +kernel) (by decide +kernel), by decide +kernel, by decide +kernel, by decide +kernel⟩
theorem cl_L_119 : CLk R_L 119 y_L_permille b_L_permille 3 (some (.int)) [(0, 5, 8, 13)] 2 := ⟨gwT 657 (by decide +kernel) (by decide +kernel), gwT 659 (by decide +kernel) (by decide +kernel), gwT 0 (by decide +kernel) (by decide +kernel), by decide +kernel, by decide +kernel, by decide +kernel⟩
theorem cl_L_46 : CLk R_L 46 y_H_permille b_H_permille 2 none [] 1 := ⟨gwT 660 (by decide +kernel) (by decide +kernel), gwT 663 (by decide +kernel) (by decide +kernel), gwT 1 (by decide +kernel) (by decide +kernel), by decide +kernel, by decide +kernel, by decide +kernel⟩
theorem cl_L_122 : CLk R_L 122 y_L_degrees b_L_degrees 4 (some (.int)) [(0, 6, 9, 21), (0, 6, 12, 13)] 3 := ⟨gwT 665 (by decide +kernel) (by decide +kernel), gwT 667 (by decide +kernel) (by decide +kernel), gwT 0 (by decide +kernel) (by decide +kernel), by decide +kernel, by decide +kernel, by decide +kernel⟩
theorem cl_L_49 : CLk R_L 49 y_H_degrees b_H_degrees 3 none [] 2 := ⟨gwT 668 (by decide +kernel) (by decide +kernel), gwT 671 (by decide +kernel) (by decide +kernel), gwT 1 (by decide +kernel) (by decide +kernel), by decide +kernel, by decide +kernel, by decide +kernel⟩
theorem cl_L_125 : CLk R_L 125 y_L_prepay b_L_prepay 4 (some (.int)) [(0, 6, 9, 21), (0, 6, 12, 13)] 3 := ⟨gwT 674 (by decide +kernel) (by decide +kernel), gwT 676 (by decide +kernel) (by decide +kernel), gwT 0 (by decide +kernel) (by decide +kernel), by decide +kernel, by decide +kernel, by decide +kernel⟩
theorem cl_L_52 : CLk R_L 52 y_H_prepay b_H_prepay 3 none [] 2 := ⟨gwT 677 (by decide +kernel) (by decide +kernel), gwT 680 (by decide +kernel) (by decide +kernel), gwT 1 (by decide +kernel) (by decide +kernel), by decide +kernel, by decide +kernel, by decide +kernel⟩
theorem cl_H_163 : CLk R_H 163 y_H_needTenant b_H_needTenant 2 none [] 1 := ⟨gwT 681 (by decide +kernel) (by decide +kernel), gwT 684 (by decide +kernel) (by decide +kernel), gwT 1 (by decide +kernel) (by decide +kernel), by decide +kernel, by decide +kernel, by decide +kernel⟩
theorem cl_L_132 : CLk R_L 132 y_L_amount b_L_amount 5 (some (.int)) [(0, 10, 13, 27), (0, 10, 17, 21)] 4 := ⟨gwT 687 (by decide +kernel) (by decide +kernel), gwT 689 (by decide +kernel) (by decide +kernel), gwT 0 (by decide +kernel) (by decide +kernel), by decide +kernel, by decide +kernel, by decide +kernel⟩
theorem cl_L_55 : CLk R_L 55 y_H_amount b_H_amount 3 (some (.int)) [] 2 := ⟨gwT 690 (by decide +kernel) (by decide +kernel), gwT 693 (by decide +kernel) (by decide +kernel), gwT 1 (by decide +kernel) (by decide +kernel), by decide +kernel, by decide +kernel, by decide +kernel⟩
theorem cl_H_199 : CLk R_H 199 y_H_needBill b_H_needBill 1 none [] 0 := ⟨gwT 694 (by decide +kernel) (by decide +kernel), gwT 697 (by decide +kernel) (by decide +kernel), gwT 1 (by decide +kernel) (by decide +kernel), by decide +kernel, by decide +kernel, by decide +kernel⟩
theorem cl_H_202 : CLk R_H 202 y_H_needTenantOrLandlord b_H_needTenantOrLandlord 2 none [] 1 := ⟨gwT 699 (by decide +kernel) (by decide +kernel), gwT 702 (by decide +kernel) (by decide +kernel), gwT 1 (by decide +kernel) (by decide +kernel), by decide +kernel, by decide +kernel, by decide +kernel⟩
theorem cl_H_207 : CLk R_H 207 y_A_owedInAll b_A_owedInAll 3 (some (.int)) [] 1 := ⟨gwT 704 (by decide +kernel) (by decide +kernel), gwT 707 (by decide +kernel) (by decide +kernel), gwT 9 (by decide +kernel) (by decide +kernel), by decide +kernel, by decide +kernel, by decide +kernel⟩
theorem cl_L_135 : CLk R_L 135 y_L_paid b_L_paid 4 (some (.int)) [(0, 9, 12, 21)] 3 := ⟨gwT 708 (by decide +kernel) (by decide +kernel), gwT 710 (by decide +kernel) (by decide +kernel), gwT 0 (by decide +kernel) (by decide +kernel), by decide +kernel, by decide +kernel, by decide +kernel⟩
theorem cl_L_58 : CLk R_L 58 y_H_paid b_H_paid 2 (some (.int)) [] 1 := ⟨gwT 711 (by decide +kernel) (by decide +kernel), gwT 714 (by decide +kernel) (by decide +kernel), gwT 1 (by decide +kernel) (by decide +kernel), by decide +kernel, by decide +kernel, by decide +kernel⟩
theorem cl_L_139 : CLk R_L 139 y_L_part b_L_part 4 (some (.int)) [(0, 9, 12, 27), (0, 9, 15, 21)] 3 := ⟨gwT 715 (by decide +kernel) (by decide +kernel), gwT 717 (by decide +kernel) (by decide +kernel), gwT 0 (by decide +kernel) (by decide +kernel), by decide +kernel, by decide +kernel, by decide +kernel⟩
theorem cl_L_62 : CLk R_L 62 y_H_part b_H_part 2 (some (.int)) [] 1 := ⟨gwT 718 (by decide +kernel) (by decide +kernel), gwT 721 (by decide +kernel) (by decide +kernel), gwT 1 (by decide +kernel) (by decide +kernel), by decide +kernel, by decide +kernel, by decide +kernel⟩
theorem cl_L_142 : CLk R_L 142 y_L_replaced b_L_replaced 4 (some (.int)) [(0, 9, 12, 21)] 3 := ⟨gwT 722 (by decide +kernel) (by decide +kernel), gwT 724 (by decide +kernel) (by decide +kernel), gwT 0 (by decide +kernel) (by decide +kernel), by decide +kernel, by decide +kernel, by decide +kernel⟩
theorem cl_L_65 : CLk R_L 65 y_H_replaced b_H_replaced 2 (some (.int)) [] 1 := ⟨gwT 725 (by decide +kernel) (by decide +kernel), gwT 728 (by decide +kernel) (by decide +kernel), gwT 1 (by decide +kernel) (by decide +kernel), by decide +kernel, by decide +kernel, by decide +kernel⟩
theorem cl_L_145 : CLk R_L 145 y_L_send b_L_send 3 (some (.int)) [(0, 8, 11, 27)] 2 := ⟨gwT 729 (by decide +kernel) (by decide +kernel), gwT 731 (by decide +kernel) (by decide +kernel), gwT 0 (by decide +kernel) (by decide +kernel), by decide +kernel, by decide +kernel, by decide +kernel⟩
theorem cl_L_68 : CLk R_L 68 y_H_send b_H_send 1 (some (.int)) [] 0 := ⟨gwT 732 (by decide +kernel) (by decide +kernel), gwT 735 (by decide +kernel) (by decide +kernel), gwT 1 (by decide +kernel) (by decide +kernel), by decide +kernel, by decide +kernel, by decide +kernel⟩
theorem cl_H_218 : CLk R_H 218 y_A_post b_A_post 4 (some (.int)) [] 0 := ⟨gwT 736 (by decide +kernel) (by decide +kernel), gwT 739 (by decide +kernel) (by decide +kernel), gwT 9 (by decide +kernel) (by decide +kernel), by decide +kernel, by decide +kernel, by decide +kernel⟩
theorem cl_A_36 : CLk R_A 36 y_A_owedInAll b_A_owedInAll 3 (some (.int)) [] 1 := ⟨gwT 740 (by decide +kernel) (by decide +kernel), gwT 707 (by decide +kernel) (by decide +kernel), gwT 9 (by decide +kernel) (by decide +kernel), by decide +kernel, by decide +kernel, by decide +kernel⟩
theorem cl_L_149 : CLk R_L 149 y_L_sent b_L_sent 4 (some (.int)) [(0, 9, 12, 21)] 3 := ⟨gwT 741 (by decide +kernel) (by decide +kernel), gwT 743 (by decide +kernel) (by decide +kernel), gwT 0 (by decide +kernel) (by decide +kernel), by decide +kernel, by decide +kernel, by decide +kernel⟩
theorem cl_L_72 : CLk R_L 72 y_H_sent b_H_sent 2 (some (.int)) [] 1 := ⟨gwT 744 (by decide +kernel) (by decide +kernel), gwT 747 (by decide +kernel) (by decide +kernel), gwT 1 (by decide +kernel) (by decide +kernel), by decide +kernel, by decide +kernel, by decide +kernel⟩
theorem cl_L_152 : CLk R_L 152 y_L_closeYear b_L_closeYear 3 (some (.int)) [(0, 8, 11, 27)] 2 := ⟨gwT 748 (by decide +kernel) (by decide +kernel), gwT 750 (by decide +kernel) (by decide +kernel), gwT 0 (by decide +kernel) (by decide +kernel), by decide +kernel, by decide +kernel, by decide +kernel⟩
theorem cl_L_75 : CLk R_L 75 y_H_closeYear b_H_closeYear 2 (some (.int)) [] 0 := ⟨gwT 751 (by decide +kernel) (by decide +kernel), gwT 754 (by decide +kernel) (by decide +kernel), gwT 1 (by decide +kernel) (by decide +kernel), by decide +kernel, by decide +kernel, by decide +kernel⟩
theorem cl_H_224 : CLk R_H 224 y_A_startYear b_A_startYear 1 none [] 0 := ⟨gwT 755 (by decide +kernel) (by decide +kernel), gwT 758 (by decide +kernel) (by decide +kernel), gwT 9 (by decide +kernel) (by decide +kernel), by decide +kernel, by decide +kernel, by decide +kernel⟩
theorem cl_H_227 : CLk R_H 227 y_M_wholeUnits b_M_wholeUnits 4 (some (.int)) [] 1 := ⟨gwT 759 (by decide +kernel) (by decide +kernel), gwT 762 (by decide +kernel) (by decide +kernel), gwT 6 (by decide +kernel) (by decide +kernel), by decide +kernel, by decide +kernel, by decide +kernel⟩
theorem cl_H_230 : CLk R_H 230 y_F_startYear b_F_startYear 3 none [] 1 := ⟨gwT 763 (by decide +kernel) (by decide +kernel), gwT 766 (by decide +kernel) (by decide +kernel), gwT 3 (by decide +kernel) (by decide +kernel), by decide +kernel, by decide +kernel, by decide +kernel⟩
theorem cl_F_48 : CLk R_F 48 y_F_holderAtEnd b_F_holderAtEnd 3 (some (.int)) [] 0 := ⟨gwT 767 (by decide +kernel) (by decide +kernel), gwT 770 (by decide +kernel) (by decide +kernel), gwT 3 (by decide +kernel) (by decide +kernel), by decide +kernel, by decide +kernel, by decide +kernel⟩
theorem cl_F_44 : CLk R_F 44 y_F_hasChange b_F_hasChange 2 (some (.boolean)) [] 1 := ⟨gwT 771 (by decide +kernel) (by decide +kernel), gwT 326 (by decide +kernel) (by decide +kernel), gwT 3 (by decide +kernel) (by decide +kernel), by decide +kernel, by decide +kernel, by decide +kernel⟩
theorem cl_H_232 : CLk R_H 232 y_U_keepStock b_U_keepStock 4 none [] 0 := ⟨gwT 772 (by decide +kernel) (by decide +kernel), gwT 775 (by decide +kernel) (by decide +kernel), gwT 5 (by decide +kernel) (by decide +kernel), by decide +kernel, by decide +kernel, by decide +kernel⟩
theorem cl_L_155 : CLk R_L 155 y_L_known b_L_known 4 (some (.int)) [(0, 9, 12, 21)] 3 := ⟨gwT 776 (by decide +kernel) (by decide +kernel), gwT 778 (by decide +kernel) (by decide +kernel), gwT 0 (by decide +kernel) (by decide +kernel), by decide +kernel, by decide +kernel, by decide +kernel⟩
theorem cl_L_78 : CLk R_L 78 y_H_known b_H_known 2 (some (.int)) [] 1 := ⟨gwT 779 (by decide +kernel) (by decide +kernel), gwT 782 (by decide +kernel) (by decide +kernel), gwT 1 (by decide +kernel) (by decide +kernel), by decide +kernel, by decide +kernel, by decide +kernel⟩
theorem cl_L_84 : CLk R_L 84 y_R_init b_R_init 1 none [] 0 := ⟨gwT 785 (by decide +kernel) (by decide +kernel), gwT 787 (by decide +kernel) (by decide +kernel), gwT 10 (by decide +kernel) (by decide +kernel), by decide +kernel, by decide +kernel, by decide +kernel⟩
theorem cl_L_91 : CLk R_L 91 y_R_thrown b_R_thrown 1 (some (.int)) [] 0 := ⟨gwT 905 (by decide +kernel) (by decide +kernel), gwT 908 (by decide +kernel) (by decide +kernel), gwT 10 (by decide +kernel) (by decide +kernel), by decide +kernel, by decide +kernel, by decide +kernel⟩
theorem cl_L_90 : CLk R_L 90 y_R_flat b_R_flat 5 (some (.int)) [] 3 := ⟨gwT 909 (by decide +kernel) (by decide +kernel), gwT 912 (by decide +kernel) (by decide +kernel), gwT 10 (by decide +kernel) (by decide +kernel), by decide +kernel, by decide +kernel, by decide +kernel⟩
theorem cl_R_94 : CLk R_R 94 y_R_within b_R_within 3 (some (.boolean)) [] 3 := ⟨gwT 913 (by decide +kernel) (by decide +kernel), gwT 915 (by decide +kernel) (by decide +kernel), gwT 10 (by decide +kernel) (by decide +kernel), by decide +kernel, by decide +kernel, by decide +kernel⟩
theorem cl_L_97 : CLk R_L 97 y_R_reading b_R_reading 4 none [] 3 := ⟨gwT 916 (by decide +kernel) (by decide +kernel), gwT 919 (by decide +kernel) (by decide +kernel), gwT 10 (by decide +kernel) (by decide +kernel), by decide +kernel, by decide +kernel, by decide +kernel⟩
theorem cl_R_102 : CLk R_R 102 y_R_isFlat b_R_isFlat 2 (some (.boolean)) [] 1 := ⟨gwT 920 (by decide +kernel) (by decide +kernel), gwT 923 (by decide +kernel) (by decide +kernel), gwT 10 (by decide +kernel) (by decide +kernel), by decide +kernel, by decide +kernel, by decide +kernel⟩
theorem cl_L_101 : CLk R_L 101 y_R_enter b_R_enter 3 (some (.int)) [] 2 := ⟨gwT 924 (by decide +kernel) (by decide +kernel), gwT 927 (by decide +kernel) (by decide +kernel), gwT 10 (by decide +kernel) (by decide +kernel), by decide +kernel, by decide +kernel, by decide +kernel⟩
theorem cl_R_106 : CLk R_R 106 y_R_wrongChange b_R_wrongChange 3 (some (.int)) [] 2 := ⟨gwT 928 (by decide +kernel) (by decide +kernel), gwT 931 (by decide +kernel) (by decide +kernel), gwT 10 (by decide +kernel) (by decide +kernel), by decide +kernel, by decide +kernel, by decide +kernel⟩
theorem cl_L_105 : CLk R_L 105 y_R_leave b_R_leave 3 none [] 2 := ⟨gwT 932 (by decide +kernel) (by decide +kernel), gwT 935 (by decide +kernel) (by decide +kernel), gwT 10 (by decide +kernel) (by decide +kernel), by decide +kernel, by decide +kernel, by decide +kernel⟩
theorem cl_L_108 : CLk R_L 108 y_R_deliver b_R_deliver 3 none [] 2 := ⟨gwT 936 (by decide +kernel) (by decide +kernel), gwT 939 (by decide +kernel) (by decide +kernel), gwT 10 (by decide +kernel) (by decide +kernel), by decide +kernel, by decide +kernel, by decide +kernel⟩
theorem cl_L_112 : CLk R_L 112 y_R_endStock b_R_endStock 2 none [] 1 := ⟨gwT 940 (by decide +kernel) (by decide +kernel), gwT 943 (by decide +kernel) (by decide +kernel), gwT 10 (by decide +kernel) (by decide +kernel), by decide +kernel, by decide +kernel, by decide +kernel⟩
theorem cl_R_113 : CLk R_R 113 y_R_allUnits b_R_allUnits 3 (some (.int)) [] 0 := ⟨gwT 944 (by decide +kernel) (by decide +kernel), gwT 947 (by decide +kernel) (by decide +kernel), gwT 10 (by decide +kernel) (by decide +kernel), by decide +kernel, by decide +kernel, by decide +kernel⟩
theorem cl_L_115 : CLk R_L 115 y_R_sideCosts b_R_sideCosts 2 none [] 1 := ⟨gwT 948 (by decide +kernel) (by decide +kernel), gwT 951 (by decide +kernel) (by decide +kernel), gwT 10 (by decide +kernel) (by decide +kernel), by decide +kernel, by decide +kernel, by decide +kernel⟩
theorem cl_L_118 : CLk R_L 118 y_R_water b_R_water 3 none [] 2 := ⟨gwT 952 (by decide +kernel) (by decide +kernel), gwT 955 (by decide +kernel) (by decide +kernel), gwT 10 (by decide +kernel) (by decide +kernel), by decide +kernel, by decide +kernel, by decide +kernel⟩
theorem cl_L_121 : CLk R_L 121 y_R_permille b_R_permille 2 none [] 1 := ⟨gwT 957 (by decide +kernel) (by decide +kernel), gwT 960 (by decide +kernel) (by decide +kernel), gwT 10 (by decide +kernel) (by decide +kernel), by decide +kernel, by decide +kernel, by decide +kernel⟩
theorem cl_L_124 : CLk R_L 124 y_R_degrees b_R_degrees 3 none [] 2 := ⟨gwT 961 (by decide +kernel) (by decide +kernel), gwT 964 (by decide +kernel) (by decide +kernel), gwT 10 (by decide +kernel) (by decide +kernel), by decide +kernel, by decide +kernel, by decide +kernel⟩
theorem cl_L_127 : CLk R_L 127 y_R_prepay b_R_prepay 3 none [] 2 := ⟨gwT 965 (by decide +kernel) (by decide +kernel), gwT 968 (by decide +kernel) (by decide +kernel), gwT 10 (by decide +kernel) (by decide +kernel), by decide +kernel, by decide +kernel, by decide +kernel⟩
theorem cl_R_124 : CLk R_R 124 y_R_isTenant b_R_isTenant 2 (some (.boolean)) [] 1 := ⟨gwT 969 (by decide +kernel) (by decide +kernel), gwT 972 (by decide +kernel) (by decide +kernel), gwT 10 (by decide +kernel) (by decide +kernel), by decide +kernel, by decide +kernel, by decide +kernel⟩
theorem cl_L_138 : CLk R_L 138 y_R_paid b_R_paid 2 (some (.int)) [] 1 := ⟨gwT 974 (by decide +kernel) (by decide +kernel), gwT 977 (by decide +kernel) (by decide +kernel), gwT 10 (by decide +kernel) (by decide +kernel), by decide +kernel, by decide +kernel, by decide +kernel⟩
theorem cl_L_144 : CLk R_L 144 y_R_replaced b_R_replaced 2 (some (.int)) [] 1 := ⟨gwT 978 (by decide +kernel) (by decide +kernel), gwT 981 (by decide +kernel) (by decide +kernel), gwT 10 (by decide +kernel) (by decide +kernel), by decide +kernel, by decide +kernel, by decide +kernel⟩
theorem cl_R_159 : CLk R_R 159 y_R_look b_R_look 9 none [] 0 := ⟨gwT 982 (by decide +kernel) (by decide +kernel), gwT 985 (by decide +kernel) (by decide +kernel), gwT 10 (by decide +kernel) (by decide +kernel), by decide +kernel, by decide +kernel, by decide +kernel⟩
theorem cl_R_128 : CLk R_R 128 y_R_isRead b_R_isRead 6 (some (.boolean)) [] 1 := ⟨gwT 986 (by decide +kernel) (by decide +kernel), gwT 989 (by decide +kernel) (by decide +kernel), gwT 10 (by decide +kernel) (by decide +kernel), by decide +kernel, by decide +kernel, by decide +kernel⟩
theorem cl_R_146 : CLk R_R 146 y_R_measured b_R_measured 2 (some (.int)) [] 1 := ⟨gwT 990 (by decide +kernel) (by decide +kernel), gwT 993 (by decide +kernel) (by decide +kernel), gwT 10 (by decide +kernel) (by decide +kernel), by decide +kernel, by decide +kernel, by decide +kernel⟩
theorem cl_R_154 : CLk R_R 154 y_R_kindOf b_R_kindOf 3 (some (.int)) [] 1 := ⟨gwT 994 (by decide +kernel) (by decide +kernel), gwT 997 (by decide +kernel) (by decide +kernel), gwT 10 (by decide +kernel) (by decide +kernel), by decide +kernel, by decide +kernel, by decide +kernel⟩
theorem cl_L_131 : CLk R_L 131 y_R_bill b_R_bill 3 (some (.int)) [] 0 := ⟨gwT 999 (by decide +kernel) (by decide +kernel), gwT 1002 (by decide +kernel) (by decide +kernel), gwT 10 (by decide +kernel) (by decide +kernel), by decide +kernel, by decide +kernel, by decide +kernel⟩
theorem cl_R_219 : CLk R_R 219 y_R_isByArea b_R_isByArea 7 (some (.boolean)) [] 0 := ⟨gwT 1003 (by decide +kernel) (by decide +kernel), gwT 1006 (by decide +kernel) (by decide +kernel), gwT 10 (by decide +kernel) (by decide +kernel), by decide +kernel, by decide +kernel, by decide +kernel⟩
theorem cl_R_223 : CLk R_R 223 y_R_needsDegrees b_R_needsDegrees 4 (some (.boolean)) [] 0 := ⟨gwT 1007 (by decide +kernel) (by decide +kernel), gwT 1010 (by decide +kernel) (by decide +kernel), gwT 10 (by decide +kernel) (by decide +kernel), by decide +kernel, by decide +kernel, by decide +kernel⟩
theorem cl_R_174 : CLk R_R 174 y_R_changeAt b_R_changeAt 3 (some (.int)) [] 2 := ⟨gwT 1011 (by decide +kernel) (by decide +kernel), gwT 1014 (by decide +kernel) (by decide +kernel), gwT 10 (by decide +kernel) (by decide +kernel), by decide +kernel, by decide +kernel, by decide +kernel⟩
theorem cl_R_195 : CLk R_R 195 y_R_stretchOf b_R_stretchOf 5 (some (.int)) [] 3 := ⟨gwT 1015 (by decide +kernel) (by decide +kernel), gwT 1018 (by decide +kernel) (by decide +kernel), gwT 10 (by decide +kernel) (by decide +kernel), by decide +kernel, by decide +kernel, by decide +kernel⟩
theorem cl_R_192 : CLk R_R 192 y_R_degreesOf b_R_degreesOf 5 (some (.int)) [] 2 := ⟨gwT 1019 (by decide +kernel) (by decide +kernel), gwT 1022 (by decide +kernel) (by decide +kernel), gwT 10 (by decide +kernel) (by decide +kernel), by decide +kernel, by decide +kernel, by decide +kernel⟩
theorem cl_R_226 : CLk R_R 226 y_R_findParts b_R_findParts 8 none [] 0 := ⟨gwT 1023 (by decide +kernel) (by decide +kernel), gwT 1026 (by decide +kernel) (by decide +kernel), gwT 10 (by decide +kernel) (by decide +kernel), by decide +kernel, by decide +kernel, by decide +kernel⟩
theorem cl_R_165 : CLk R_R 165 y_R_centsInStock b_R_centsInStock 2 (some (.int)) [] 1 := ⟨gwT 1027 (by decide +kernel) (by decide +kernel), gwT 1030 (by decide +kernel) (by decide +kernel), gwT 10 (by decide +kernel) (by decide +kernel), by decide +kernel, by decide +kernel, by decide +kernel⟩
theorem cl_R_162 : CLk R_R 162 y_R_inStock b_R_inStock 4 (some (.int)) [] 1 := ⟨gwT 1031 (by decide +kernel) (by decide +kernel), gwT 1034 (by decide +kernel) (by decide +kernel), gwT 10 (by decide +kernel) (by decide +kernel), by decide +kernel, by decide +kernel, by decide +kernel⟩
theorem cl_R_229 : CLk R_R 229 y_R_share b_R_share 10 none [] 3 := ⟨gwT 1038 (by decide +kernel) (by decide +kernel), gwT 1041 (by decide +kernel) (by decide +kernel), gwT 10 (by decide +kernel) (by decide +kernel), by decide +kernel, by decide +kernel, by decide +kernel⟩
theorem cl_R_207 : CLk R_R 207 y_R_spansBy b_R_spansBy 7 none [] 4 := ⟨gwT 1042 (by decide +kernel) (by decide +kernel), gwT 1045 (by decide +kernel) (by decide +kernel), gwT 10 (by decide +kernel) (by decide +kernel), by decide +kernel, by decide +kernel, by decide +kernel⟩
theorem cl_R_180 : CLk R_R 180 y_R_holderAt b_R_holderAt 4 (some (.int)) [] 2 := ⟨gwT 1046 (by decide +kernel) (by decide +kernel), gwT 1049 (by decide +kernel) (by decide +kernel), gwT 10 (by decide +kernel) (by decide +kernel), by decide +kernel, by decide +kernel, by decide +kernel⟩
theorem cl_R_183 : CLk R_R 183 y_R_endOf b_R_endOf 4 (some (.int)) [] 2 := ⟨gwT 1050 (by decide +kernel) (by decide +kernel), gwT 1053 (by decide +kernel) (by decide +kernel), gwT 10 (by decide +kernel) (by decide +kernel), by decide +kernel, by decide +kernel, by decide +kernel⟩
theorem cl_R_188 : CLk R_R 188 y_R_span b_R_span 6 none [] 3 := ⟨gwT 1055 (by decide +kernel) (by decide +kernel), gwT 1058 (by decide +kernel) (by decide +kernel), gwT 10 (by decide +kernel) (by decide +kernel), by decide +kernel, by decide +kernel, by decide +kernel⟩
theorem cl_R_211 : CLk R_R 211 y_R_spanByMeter b_R_spanByMeter 22 none [] 5 := ⟨gwT 1059 (by decide +kernel) (by decide +kernel), gwT 1062 (by decide +kernel) (by decide +kernel), gwT 10 (by decide +kernel) (by decide +kernel), by decide +kernel, by decide +kernel, by decide +kernel⟩
theorem cl_R_199 : CLk R_R 199 y_R_weight b_R_weight 5 (some (.int)) [] 4 := ⟨gwT 1063 (by decide +kernel) (by decide +kernel), gwT 1066 (by decide +kernel) (by decide +kernel), gwT 10 (by decide +kernel) (by decide +kernel), by decide +kernel, by decide +kernel, by decide +kernel⟩
theorem cl_R_215 : CLk R_R 215 y_R_handOut b_R_handOut 6 none [] 2 := ⟨gwT 1067 (by decide +kernel) (by decide +kernel), gwT 1070 (by decide +kernel) (by decide +kernel), gwT 10 (by decide +kernel) (by decide +kernel), by decide +kernel, by decide +kernel, by decide +kernel⟩
theorem cl_R_203 : CLk R_R 203 y_R_isMore b_R_isMore 21 (some (.boolean)) [] 4 := ⟨gwT 1071 (by decide +kernel) (by decide +kernel), gwT 1073 (by decide +kernel) (by decide +kernel), gwT 10 (by decide +kernel) (by decide +kernel), by decide +kernel, by decide +kernel, by decide +kernel⟩
theorem cl_L_134 : CLk R_L 134 y_R_amount b_R_amount 4 (some (.int)) [] 2 := ⟨gwT 1074 (by decide +kernel) (by decide +kernel), gwT 1077 (by decide +kernel) (by decide +kernel), gwT 10 (by decide +kernel) (by decide +kernel), by decide +kernel, by decide +kernel, by decide +kernel⟩
theorem cl_R_233 : CLk R_R 233 y_R_sumOf b_R_sumOf 2 (some (.int)) [] 1 := ⟨gwT 1078 (by decide +kernel) (by decide +kernel), gwT 1081 (by decide +kernel) (by decide +kernel), gwT 10 (by decide +kernel) (by decide +kernel), by decide +kernel, by decide +kernel, by decide +kernel⟩
theorem cl_L_141 : CLk R_L 141 y_R_part b_R_part 2 (some (.int)) [] 1 := ⟨gwT 1082 (by decide +kernel) (by decide +kernel), gwT 1085 (by decide +kernel) (by decide +kernel), gwT 10 (by decide +kernel) (by decide +kernel), by decide +kernel, by decide +kernel, by decide +kernel⟩
theorem cl_L_148 : CLk R_L 148 y_R_send b_R_send 1 (some (.int)) [] 0 := ⟨gwT 1086 (by decide +kernel) (by decide +kernel), gwT 1089 (by decide +kernel) (by decide +kernel), gwT 10 (by decide +kernel) (by decide +kernel), by decide +kernel, by decide +kernel, by decide +kernel⟩
theorem cl_R_236 : CLk R_R 236 y_R_sendAll b_R_sendAll 3 (some (.int)) [] 0 := ⟨gwT 1090 (by decide +kernel) (by decide +kernel), gwT 1093 (by decide +kernel) (by decide +kernel), gwT 10 (by decide +kernel) (by decide +kernel), by decide +kernel, by decide +kernel, by decide +kernel⟩
theorem cl_L_151 : CLk R_L 151 y_R_sent b_R_sent 2 (some (.int)) [] 1 := ⟨gwT 1094 (by decide +kernel) (by decide +kernel), gwT 1097 (by decide +kernel) (by decide +kernel), gwT 10 (by decide +kernel) (by decide +kernel), by decide +kernel, by decide +kernel, by decide +kernel⟩
theorem cl_L_154 : CLk R_L 154 y_R_closeYear b_R_closeYear 3 (some (.int)) [] 0 := ⟨gwT 1098 (by decide +kernel) (by decide +kernel), gwT 1101 (by decide +kernel) (by decide +kernel), gwT 10 (by decide +kernel) (by decide +kernel), by decide +kernel, by decide +kernel, by decide +kernel⟩
theorem cl_R_239 : CLk R_R 239 y_R_keepStock b_R_keepStock 5 none [] 0 := ⟨gwT 1102 (by decide +kernel) (by decide +kernel), gwT 1105 (by decide +kernel) (by decide +kernel), gwT 10 (by decide +kernel) (by decide +kernel), by decide +kernel, by decide +kernel, by decide +kernel⟩
theorem cl_R_242 : CLk R_R 242 y_R_nextYear b_R_nextYear 5 none [] 1 := ⟨gwT 1106 (by decide +kernel) (by decide +kernel), gwT 1109 (by decide +kernel) (by decide +kernel), gwT 10 (by decide +kernel) (by decide +kernel), by decide +kernel, by decide +kernel, by decide +kernel⟩
theorem cl_L_157 : CLk R_L 157 y_R_known b_R_known 2 (some (.int)) [] 1 := ⟨gwT 1110 (by decide +kernel) (by decide +kernel), gwT 1113 (by decide +kernel) (by decide +kernel), gwT 10 (by decide +kernel) (by decide +kernel), by decide +kernel, by decide +kernel, by decide +kernel⟩
theorem st_J_fill : Cond.static y_J_fill ∈ GW := gwT 41 (by decide +kernel) (by decide +kernel)
theorem im_H_bill : Cond.instanceMethod y_H_bill ∈ GW ∧ Cond.selects (y_H_bill).cls y_H_bill y_H_bill ∈ GW := ⟨gwT 268 (by decide +kernel) (by decide +kernel), gwT 269 (by decide +kernel) (by decide +kernel)⟩
theorem im_U_isBurned : Cond.instanceMethod y_U_isBurned ∈ GW ∧ Cond.selects (y_U_isBurned).cls y_U_isBurned y_U_isBurned ∈ GW := ⟨gwT 272 (by decide +kernel) (by decide +kernel), gwT 273 (by decide +kernel) (by decide +kernel)⟩
theorem im_U_burnedUnits : Cond.instanceMethod y_U_burnedUnits ∈ GW ∧ Cond.selects (y_U_burnedUnits).cls y_U_burnedUnits y_U_burnedUnits ∈ GW := ⟨gwT 276 (by decide +kernel) (by decide +kernel), gwT 277 (by decide +kernel) (by decide +kernel)⟩
theorem im_U_allUnits : Cond.instanceMethod y_U_allUnits ∈ GW ∧ Cond.selects (y_U_allUnits).cls y_U_allUnits y_U_allUnits ∈ GW := ⟨gwT 280 (by decide +kernel) (by decide +kernel), gwT 281 (by decide +kernel) (by decide +kernel)⟩
theorem im_M_look : Cond.instanceMethod y_M_look ∈ GW ∧ Cond.selects (y_M_look).cls y_M_look y_M_look ∈ GW := ⟨gwT 284 (by decide +kernel) (by decide +kernel), gwT 285 (by decide +kernel) (by decide +kernel)⟩
theorem im_M_sumRead : Cond.instanceMethod y_M_sumRead ∈ GW ∧ Cond.selects (y_M_sumRead).cls y_M_sumRead y_M_sumRead ∈ GW := ⟨gwT 289 (by decide +kernel) (by decide +kernel), gwS 0 (by decide +kernel) (by decide +kernel)⟩
theorem im_F_isMeterRead : Cond.instanceMethod y_F_isMeterRead ∈ GW ∧ Cond.selects (y_F_isMeterRead).cls y_F_isMeterRead y_F_isMeterRead ∈ GW := ⟨gwT 292 (by decide +kernel) (by decide +kernel), gwT 293 (by decide +kernel) (by decide +kernel)⟩
theorem im_F_unitsOfYear : Cond.instanceMethod y_F_unitsOfYear ∈ GW ∧ Cond.selects (y_F_unitsOfYear).cls y_F_unitsOfYear y_F_unitsOfYear ∈ GW := ⟨gwT 296 (by decide +kernel) (by decide +kernel), gwT 297 (by decide +kernel) (by decide +kernel)⟩
theorem im_F_unitsBetween : Cond.instanceMethod y_F_unitsBetween ∈ GW ∧ Cond.selects (y_F_unitsBetween).cls y_F_unitsBetween y_F_unitsBetween ∈ GW := ⟨gwT 300 (by decide +kernel) (by decide +kernel), gwT 301 (by decide +kernel) (by decide +kernel)⟩
theorem im_M_kindOf : Cond.instanceMethod y_M_kindOf ∈ GW ∧ Cond.selects (y_M_kindOf).cls y_M_kindOf y_M_kindOf ∈ GW := ⟨gwT 305 (by decide +kernel) (by decide +kernel), gwS 1 (by decide +kernel) (by decide +kernel)⟩
theorem im_M_scaledUnits : Cond.instanceMethod y_M_scaledUnits ∈ GW ∧ Cond.selects (y_M_scaledUnits).cls y_M_scaledUnits y_M_scaledUnits ∈ GW := ⟨gwT 309 (by decide +kernel) (by decide +kernel), gwS 2 (by decide +kernel) (by decide +kernel)⟩
theorem st_J_minJ : Cond.static y_J_minJ ∈ GW := gwT 313 (by decide +kernel) (by decide +kernel)
theorem im_P_lay : Cond.instanceMethod y_P_lay ∈ GW ∧ Cond.selects (y_P_lay).cls y_P_lay y_P_lay ∈ GW := ⟨gwT 316 (by decide +kernel) (by decide +kernel), gwT 317 (by decide +kernel) (by decide +kernel)⟩
theorem im_P_layFlat : Cond.instanceMethod y_P_layFlat ∈ GW ∧ Cond.selects (y_P_layFlat).cls y_P_layFlat y_P_layFlat ∈ GW := ⟨gwT 321 (by decide +kernel) (by decide +kernel), gwS 3 (by decide +kernel) (by decide +kernel)⟩
theorem im_F_hasChange : Cond.instanceMethod y_F_hasChange ∈ GW ∧ Cond.selects (y_F_hasChange).cls y_F_hasChange y_F_hasChange ∈ GW := ⟨gwT 324 (by decide +kernel) (by decide +kernel), gwT 325 (by decide +kernel) (by decide +kernel)⟩
theorem im_P_addSpan : Cond.instanceMethod y_P_addSpan ∈ GW ∧ Cond.selects (y_P_addSpan).cls y_P_addSpan y_P_addSpan ∈ GW := ⟨gwT 329 (by decide +kernel) (by decide +kernel), gwS 4 (by decide +kernel) (by decide +kernel)⟩
theorem im_M_areFitFor : Cond.instanceMethod y_M_areFitFor ∈ GW ∧ Cond.selects (y_M_areFitFor).cls y_M_areFitFor y_M_areFitFor ∈ GW := ⟨gwT 332 (by decide +kernel) (by decide +kernel), gwT 333 (by decide +kernel) (by decide +kernel)⟩
theorem im_O_allArea : Cond.instanceMethod y_O_allArea ∈ GW ∧ Cond.selects (y_O_allArea).cls y_O_allArea y_O_allArea ∈ GW := ⟨gwT 336 (by decide +kernel) (by decide +kernel), gwT 337 (by decide +kernel) (by decide +kernel)⟩
theorem im_P_cutStretches : Cond.instanceMethod y_P_cutStretches ∈ GW ∧ Cond.selects (y_P_cutStretches).cls y_P_cutStretches y_P_cutStretches ∈ GW := ⟨gwT 340 (by decide +kernel) (by decide +kernel), gwT 341 (by decide +kernel) (by decide +kernel)⟩
theorem im_M_endsStretch : Cond.instanceMethod y_M_endsStretch ∈ GW ∧ Cond.selects (y_M_endsStretch).cls y_M_endsStretch y_M_endsStretch ∈ GW := ⟨gwT 344 (by decide +kernel) (by decide +kernel), gwT 345 (by decide +kernel) (by decide +kernel)⟩
theorem im_H_hasDegreesOfYear : Cond.instanceMethod y_H_hasDegreesOfYear ∈ GW ∧ Cond.selects (y_H_hasDegreesOfYear).cls y_H_hasDegreesOfYear y_H_hasDegreesOfYear ∈ GW := ⟨gwT 349 (by decide +kernel) (by decide +kernel), gwS 5 (by decide +kernel) (by decide +kernel)⟩
theorem im_H_setBillParts : Cond.instanceMethod y_H_setBillParts ∈ GW ∧ Cond.selects (y_H_setBillParts).cls y_H_setBillParts y_H_setBillParts ∈ GW := ⟨gwT 353 (by decide +kernel) (by decide +kernel), gwS 6 (by decide +kernel) (by decide +kernel)⟩
theorem im_U_burnedCents : Cond.instanceMethod y_U_burnedCents ∈ GW ∧ Cond.selects (y_U_burnedCents).cls y_U_burnedCents y_U_burnedCents ∈ GW := ⟨gwT 357 (by decide +kernel) (by decide +kernel), gwT 358 (by decide +kernel) (by decide +kernel)⟩
theorem im_U_stockCents : Cond.instanceMethod y_U_stockCents ∈ GW ∧ Cond.selects (y_U_stockCents).cls y_U_stockCents y_U_stockCents ∈ GW := ⟨gwT 361 (by decide +kernel) (by decide +kernel), gwT 362 (by decide +kernel) (by decide +kernel)⟩
theorem im_U_stockUnits : Cond.instanceMethod y_U_stockUnits ∈ GW ∧ Cond.selects (y_U_stockUnits).cls y_U_stockUnits y_U_stockUnits ∈ GW := ⟨gwT 365 (by decide +kernel) (by decide +kernel), gwT 366 (by decide +kernel) (by decide +kernel)⟩
theorem st_J_minI : Cond.static y_J_minI ∈ GW := gwT 369 (by decide +kernel) (by decide +kernel)
theorem st_J_maxI : Cond.static y_J_maxI ∈ GW := gwT 372 (by decide +kernel) (by decide +kernel)
theorem im_H_waterUnits : Cond.instanceMethod y_H_waterUnits ∈ GW ∧ Cond.selects (y_H_waterUnits).cls y_H_waterUnits y_H_waterUnits ∈ GW := ⟨gwT 376 (by decide +kernel) (by decide +kernel), gwS 7 (by decide +kernel) (by decide +kernel)⟩
theorem im_H_shareParts : Cond.instanceMethod y_H_shareParts ∈ GW ∧ Cond.selects (y_H_shareParts).cls y_H_shareParts y_H_shareParts ∈ GW := ⟨gwT 384 (by decide +kernel) (by decide +kernel), gwS 8 (by decide +kernel) (by decide +kernel)⟩
theorem im_A_clearOwed : Cond.instanceMethod y_A_clearOwed ∈ GW ∧ Cond.selects (y_A_clearOwed).cls y_A_clearOwed y_A_clearOwed ∈ GW := ⟨gwT 387 (by decide +kernel) (by decide +kernel), gwT 388 (by decide +kernel) (by decide +kernel)⟩
theorem im_S_weighByArea : Cond.instanceMethod y_S_weighByArea ∈ GW ∧ Cond.selects (y_S_weighByArea).cls y_S_weighByArea y_S_weighByArea ∈ GW := ⟨gwT 392 (by decide +kernel) (by decide +kernel), gwT 393 (by decide +kernel) (by decide +kernel)⟩
theorem im_P_months : Cond.instanceMethod y_P_months ∈ GW ∧ Cond.selects (y_P_months).cls y_P_months y_P_months ∈ GW := ⟨gwT 396 (by decide +kernel) (by decide +kernel), gwT 397 (by decide +kernel) (by decide +kernel)⟩
theorem im_S_setWhole : Cond.instanceMethod y_S_setWhole ∈ GW ∧ Cond.selects (y_S_setWhole).cls y_S_setWhole y_S_setWhole ∈ GW := ⟨gwT 401 (by decide +kernel) (by decide +kernel), gwS 9 (by decide +kernel) (by decide +kernel)⟩
theorem im_H_sharePart : Cond.instanceMethod y_H_sharePart ∈ GW ∧ Cond.selects (y_H_sharePart).cls y_H_sharePart y_H_sharePart ∈ GW := ⟨gwT 405 (by decide +kernel) (by decide +kernel), gwS 10 (by decide +kernel) (by decide +kernel)⟩
theorem im_S_split : Cond.instanceMethod y_S_split ∈ GW ∧ Cond.selects (y_S_split).cls y_S_split y_S_split ∈ GW := ⟨gwT 408 (by decide +kernel) (by decide +kernel), gwT 409 (by decide +kernel) (by decide +kernel)⟩
theorem im_S_roundDown : Cond.instanceMethod y_S_roundDown ∈ GW ∧ Cond.selects (y_S_roundDown).cls y_S_roundDown y_S_roundDown ∈ GW := ⟨gwT 413 (by decide +kernel) (by decide +kernel), gwS 11 (by decide +kernel) (by decide +kernel)⟩
theorem im_S_greatestCutOff : Cond.instanceMethod y_S_greatestCutOff ∈ GW ∧ Cond.selects (y_S_greatestCutOff).cls y_S_greatestCutOff y_S_greatestCutOff ∈ GW := ⟨gwT 417 (by decide +kernel) (by decide +kernel), gwS 12 (by decide +kernel) (by decide +kernel)⟩
theorem im_O_hasWaterArea : Cond.instanceMethod y_O_hasWaterArea ∈ GW ∧ Cond.selects (y_O_hasWaterArea).cls y_O_hasWaterArea y_O_hasWaterArea ∈ GW := ⟨gwT 420 (by decide +kernel) (by decide +kernel), gwT 421 (by decide +kernel) (by decide +kernel)⟩
theorem im_S_weighByWaterArea : Cond.instanceMethod y_S_weighByWaterArea ∈ GW ∧ Cond.selects (y_S_weighByWaterArea).cls y_S_weighByWaterArea y_S_weighByWaterArea ∈ GW := ⟨gwT 424 (by decide +kernel) (by decide +kernel), gwT 425 (by decide +kernel) (by decide +kernel)⟩
theorem im_S_weighByMeters : Cond.instanceMethod y_S_weighByMeters ∈ GW ∧ Cond.selects (y_S_weighByMeters).cls y_S_weighByMeters y_S_weighByMeters ∈ GW := ⟨gwT 428 (by decide +kernel) (by decide +kernel), gwT 429 (by decide +kernel) (by decide +kernel)⟩
theorem im_M_stretchUnits : Cond.instanceMethod y_M_stretchUnits ∈ GW ∧ Cond.selects (y_M_stretchUnits).cls y_M_stretchUnits y_M_stretchUnits ∈ GW := ⟨gwT 433 (by decide +kernel) (by decide +kernel), gwT 434 (by decide +kernel) (by decide +kernel)⟩
theorem im_S_addStretch : Cond.instanceMethod y_S_addStretch ∈ GW ∧ Cond.selects (y_S_addStretch).cls y_S_addStretch y_S_addStretch ∈ GW := ⟨gwT 439 (by decide +kernel) (by decide +kernel), gwS 13 (by decide +kernel) (by decide +kernel)⟩
theorem st_S_sumBetween : Cond.static y_S_sumBetween ∈ GW := gwT 444 (by decide +kernel) (by decide +kernel)
theorem st_L_flat : Cond.static y_L_flat ∈ GW := gwT 447 (by decide +kernel) (by decide +kernel)
theorem im_H_flat : Cond.instanceMethod y_H_flat ∈ GW ∧ Cond.selects (y_H_flat).cls y_H_flat y_H_flat ∈ GW := ⟨gwT 452 (by decide +kernel) (by decide +kernel), gwT 453 (by decide +kernel) (by decide +kernel)⟩
theorem st_H_isOutside : Cond.static y_H_isOutside ∈ GW := gwT 456 (by decide +kernel) (by decide +kernel)
theorem im_O_addFlat : Cond.instanceMethod y_O_addFlat ∈ GW ∧ Cond.selects (y_O_addFlat).cls y_O_addFlat y_O_addFlat ∈ GW := ⟨gwT 544 (by decide +kernel) (by decide +kernel), gwT 545 (by decide +kernel) (by decide +kernel)⟩
theorem st_L_reading : Cond.static y_L_reading ∈ GW := gwT 548 (by decide +kernel) (by decide +kernel)
theorem im_H_reading : Cond.instanceMethod y_H_reading ∈ GW ∧ Cond.selects (y_H_reading).cls y_H_reading y_H_reading ∈ GW := ⟨gwT 552 (by decide +kernel) (by decide +kernel), gwT 553 (by decide +kernel) (by decide +kernel)⟩
theorem im_H_needFlat : Cond.instanceMethod y_H_needFlat ∈ GW ∧ Cond.selects (y_H_needFlat).cls y_H_needFlat y_H_needFlat ∈ GW := ⟨gwT 557 (by decide +kernel) (by decide +kernel), gwS 15 (by decide +kernel) (by decide +kernel)⟩
theorem st_L_enter : Cond.static y_L_enter ∈ GW := gwT 578 (by decide +kernel) (by decide +kernel)
theorem im_H_enter : Cond.instanceMethod y_H_enter ∈ GW ∧ Cond.selects (y_H_enter).cls y_H_enter y_H_enter ∈ GW := ⟨gwT 582 (by decide +kernel) (by decide +kernel), gwT 583 (by decide +kernel) (by decide +kernel)⟩
theorem im_H_needRoomForChange : Cond.instanceMethod y_H_needRoomForChange ∈ GW ∧ Cond.selects (y_H_needRoomForChange).cls y_H_needRoomForChange y_H_needRoomForChange ∈ GW := ⟨gwT 587 (by decide +kernel) (by decide +kernel), gwS 16 (by decide +kernel) (by decide +kernel)⟩
theorem im_A_addTenant : Cond.instanceMethod y_A_addTenant ∈ GW ∧ Cond.selects (y_A_addTenant).cls y_A_addTenant y_A_addTenant ∈ GW := ⟨gwT 608 (by decide +kernel) (by decide +kernel), gwT 609 (by decide +kernel) (by decide +kernel)⟩
theorem st_L_leave : Cond.static y_L_leave ∈ GW := gwT 612 (by decide +kernel) (by decide +kernel)
theorem im_H_leave : Cond.instanceMethod y_H_leave ∈ GW ∧ Cond.selects (y_H_leave).cls y_H_leave y_H_leave ∈ GW := ⟨gwT 615 (by decide +kernel) (by decide +kernel), gwT 616 (by decide +kernel) (by decide +kernel)⟩
theorem st_L_deliver : Cond.static y_L_deliver ∈ GW := gwT 619 (by decide +kernel) (by decide +kernel)
theorem im_H_deliver : Cond.instanceMethod y_H_deliver ∈ GW ∧ Cond.selects (y_H_deliver).cls y_H_deliver y_H_deliver ∈ GW := ⟨gwT 622 (by decide +kernel) (by decide +kernel), gwT 623 (by decide +kernel) (by decide +kernel)⟩
theorem im_U_addLayer : Cond.instanceMethod y_U_addLayer ∈ GW ∧ Cond.selects (y_U_addLayer).cls y_U_addLayer y_U_addLayer ∈ GW := ⟨gwT 628 (by decide +kernel) (by decide +kernel), gwT 629 (by decide +kernel) (by decide +kernel)⟩
theorem st_L_endStock : Cond.static y_L_endStock ∈ GW := gwT 632 (by decide +kernel) (by decide +kernel)
theorem im_H_endStock : Cond.instanceMethod y_H_endStock ∈ GW ∧ Cond.selects (y_H_endStock).cls y_H_endStock y_H_endStock ∈ GW := ⟨gwT 635 (by decide +kernel) (by decide +kernel), gwT 636 (by decide +kernel) (by decide +kernel)⟩
theorem st_L_sideCosts : Cond.static y_L_sideCosts ∈ GW := gwT 641 (by decide +kernel) (by decide +kernel)
theorem im_H_sideCosts : Cond.instanceMethod y_H_sideCosts ∈ GW ∧ Cond.selects (y_H_sideCosts).cls y_H_sideCosts y_H_sideCosts ∈ GW := ⟨gwT 644 (by decide +kernel) (by decide +kernel), gwT 645 (by decide +kernel) (by decide +kernel)⟩
theorem st_L_water : Cond.static y_L_water ∈ GW := gwT 649 (by decide +kernel) (by decide +kernel)
theorem im_H_water : Cond.instanceMethod y_H_water ∈ GW ∧ Cond.selects (y_H_water).cls y_H_water y_H_water ∈ GW := ⟨gwT 652 (by decide +kernel) (by decide +kernel), gwT 653 (by decide +kernel) (by decide +kernel)⟩
theorem st_L_permille : Cond.static y_L_permille ∈ GW := gwT 658 (by decide +kernel) (by decide +kernel)
theorem im_H_permille : Cond.instanceMethod y_H_permille ∈ GW ∧ Cond.selects (y_H_permille).cls y_H_permille y_H_permille ∈ GW := ⟨gwT 661 (by decide +kernel) (by decide +kernel), gwT 662 (by decide +kernel) (by decide +kernel)⟩
theorem st_L_degrees : Cond.static y_L_degrees ∈ GW := gwT 666 (by decide +kernel) (by decide +kernel)
theorem im_H_degrees : Cond.instanceMethod y_H_degrees ∈ GW ∧ Cond.selects (y_H_degrees).cls y_H_degrees y_H_degrees ∈ GW := ⟨gwT 669 (by decide +kernel) (by decide +kernel), gwT 670 (by decide +kernel) (by decide +kernel)⟩
theorem st_L_prepay : Cond.static y_L_prepay ∈ GW := gwT 675 (by decide +kernel) (by decide +kernel)
theorem im_H_prepay : Cond.instanceMethod y_H_prepay ∈ GW ∧ Cond.selects (y_H_prepay).cls y_H_prepay y_H_prepay ∈ GW := ⟨gwT 678 (by decide +kernel) (by decide +kernel), gwT 679 (by decide +kernel) (by decide +kernel)⟩
theorem im_H_needTenant : Cond.instanceMethod y_H_needTenant ∈ GW ∧ Cond.selects (y_H_needTenant).cls y_H_needTenant y_H_needTenant ∈ GW := ⟨gwT 683 (by decide +kernel) (by decide +kernel), gwS 17 (by decide +kernel) (by decide +kernel)⟩
theorem st_L_amount : Cond.static y_L_amount ∈ GW := gwT 688 (by decide +kernel) (by decide +kernel)
theorem im_H_amount : Cond.instanceMethod y_H_amount ∈ GW ∧ Cond.selects (y_H_amount).cls y_H_amount y_H_amount ∈ GW := ⟨gwT 691 (by decide +kernel) (by decide +kernel), gwT 692 (by decide +kernel) (by decide +kernel)⟩
theorem im_H_needBill : Cond.instanceMethod y_H_needBill ∈ GW ∧ Cond.selects (y_H_needBill).cls y_H_needBill y_H_needBill ∈ GW := ⟨gwT 696 (by decide +kernel) (by decide +kernel), gwS 18 (by decide +kernel) (by decide +kernel)⟩
theorem im_H_needTenantOrLandlord : Cond.instanceMethod y_H_needTenantOrLandlord ∈ GW ∧ Cond.selects (y_H_needTenantOrLandlord).cls y_H_needTenantOrLandlord y_H_needTenantOrLandlord ∈ GW := ⟨gwT 701 (by decide +kernel) (by decide +kernel), gwS 19 (by decide +kernel) (by decide +kernel)⟩
theorem im_A_owedInAll : Cond.instanceMethod y_A_owedInAll ∈ GW ∧ Cond.selects (y_A_owedInAll).cls y_A_owedInAll y_A_owedInAll ∈ GW := ⟨gwT 705 (by decide +kernel) (by decide +kernel), gwT 706 (by decide +kernel) (by decide +kernel)⟩
theorem st_L_paid : Cond.static y_L_paid ∈ GW := gwT 709 (by decide +kernel) (by decide +kernel)
theorem im_H_paid : Cond.instanceMethod y_H_paid ∈ GW ∧ Cond.selects (y_H_paid).cls y_H_paid y_H_paid ∈ GW := ⟨gwT 712 (by decide +kernel) (by decide +kernel), gwT 713 (by decide +kernel) (by decide +kernel)⟩
theorem st_L_part : Cond.static y_L_part ∈ GW := gwT 716 (by decide +kernel) (by decide +kernel)
theorem im_H_part : Cond.instanceMethod y_H_part ∈ GW ∧ Cond.selects (y_H_part).cls y_H_part y_H_part ∈ GW := ⟨gwT 719 (by decide +kernel) (by decide +kernel), gwT 720 (by decide +kernel) (by decide +kernel)⟩
theorem st_L_replaced : Cond.static y_L_replaced ∈ GW := gwT 723 (by decide +kernel) (by decide +kernel)
theorem im_H_replaced : Cond.instanceMethod y_H_replaced ∈ GW ∧ Cond.selects (y_H_replaced).cls y_H_replaced y_H_replaced ∈ GW := ⟨gwT 726 (by decide +kernel) (by decide +kernel), gwT 727 (by decide +kernel) (by decide +kernel)⟩
theorem st_L_send : Cond.static y_L_send ∈ GW := gwT 730 (by decide +kernel) (by decide +kernel)
theorem im_H_send : Cond.instanceMethod y_H_send ∈ GW ∧ Cond.selects (y_H_send).cls y_H_send y_H_send ∈ GW := ⟨gwT 733 (by decide +kernel) (by decide +kernel), gwT 734 (by decide +kernel) (by decide +kernel)⟩
theorem im_A_post : Cond.instanceMethod y_A_post ∈ GW ∧ Cond.selects (y_A_post).cls y_A_post y_A_post ∈ GW := ⟨gwT 737 (by decide +kernel) (by decide +kernel), gwT 738 (by decide +kernel) (by decide +kernel)⟩
theorem st_L_sent : Cond.static y_L_sent ∈ GW := gwT 742 (by decide +kernel) (by decide +kernel)
theorem im_H_sent : Cond.instanceMethod y_H_sent ∈ GW ∧ Cond.selects (y_H_sent).cls y_H_sent y_H_sent ∈ GW := ⟨gwT 745 (by decide +kernel) (by decide +kernel), gwT 746 (by decide +kernel) (by decide +kernel)⟩
theorem st_L_closeYear : Cond.static y_L_closeYear ∈ GW := gwT 749 (by decide +kernel) (by decide +kernel)
theorem im_H_closeYear : Cond.instanceMethod y_H_closeYear ∈ GW ∧ Cond.selects (y_H_closeYear).cls y_H_closeYear y_H_closeYear ∈ GW := ⟨gwT 752 (by decide +kernel) (by decide +kernel), gwT 753 (by decide +kernel) (by decide +kernel)⟩
theorem im_A_startYear : Cond.instanceMethod y_A_startYear ∈ GW ∧ Cond.selects (y_A_startYear).cls y_A_startYear y_A_startYear ∈ GW := ⟨gwT 756 (by decide +kernel) (by decide +kernel), gwT 757 (by decide +kernel) (by decide +kernel)⟩
theorem im_M_wholeUnits : Cond.instanceMethod y_M_wholeUnits ∈ GW ∧ Cond.selects (y_M_wholeUnits).cls y_M_wholeUnits y_M_wholeUnits ∈ GW := ⟨gwT 760 (by decide +kernel) (by decide +kernel), gwT 761 (by decide +kernel) (by decide +kernel)⟩
theorem im_F_startYear : Cond.instanceMethod y_F_startYear ∈ GW ∧ Cond.selects (y_F_startYear).cls y_F_startYear y_F_startYear ∈ GW := ⟨gwT 764 (by decide +kernel) (by decide +kernel), gwT 765 (by decide +kernel) (by decide +kernel)⟩
theorem im_F_holderAtEnd : Cond.instanceMethod y_F_holderAtEnd ∈ GW ∧ Cond.selects (y_F_holderAtEnd).cls y_F_holderAtEnd y_F_holderAtEnd ∈ GW := ⟨gwT 768 (by decide +kernel) (by decide +kernel), gwT 769 (by decide +kernel) (by decide +kernel)⟩
theorem im_U_keepStock : Cond.instanceMethod y_U_keepStock ∈ GW ∧ Cond.selects (y_U_keepStock).cls y_U_keepStock y_U_keepStock ∈ GW := ⟨gwT 773 (by decide +kernel) (by decide +kernel), gwT 774 (by decide +kernel) (by decide +kernel)⟩
theorem st_L_known : Cond.static y_L_known ∈ GW := gwT 777 (by decide +kernel) (by decide +kernel)
theorem im_H_known : Cond.instanceMethod y_H_known ∈ GW ∧ Cond.selects (y_H_known).cls y_H_known y_H_known ∈ GW := ⟨gwT 780 (by decide +kernel) (by decide +kernel), gwT 781 (by decide +kernel) (by decide +kernel)⟩
theorem im_R_thrown : Cond.instanceMethod y_R_thrown ∈ GW ∧ Cond.selects (y_R_thrown).cls y_R_thrown y_R_thrown ∈ GW := ⟨gwT 906 (by decide +kernel) (by decide +kernel), gwT 907 (by decide +kernel) (by decide +kernel)⟩
theorem im_R_flat : Cond.instanceMethod y_R_flat ∈ GW ∧ Cond.selects (y_R_flat).cls y_R_flat y_R_flat ∈ GW := ⟨gwT 910 (by decide +kernel) (by decide +kernel), gwT 911 (by decide +kernel) (by decide +kernel)⟩
theorem st_R_within : Cond.static y_R_within ∈ GW := gwT 914 (by decide +kernel) (by decide +kernel)
theorem im_R_reading : Cond.instanceMethod y_R_reading ∈ GW ∧ Cond.selects (y_R_reading).cls y_R_reading y_R_reading ∈ GW := ⟨gwT 917 (by decide +kernel) (by decide +kernel), gwT 918 (by decide +kernel) (by decide +kernel)⟩
theorem im_R_isFlat : Cond.instanceMethod y_R_isFlat ∈ GW ∧ Cond.selects (y_R_isFlat).cls y_R_isFlat y_R_isFlat ∈ GW := ⟨gwT 922 (by decide +kernel) (by decide +kernel), gwS 20 (by decide +kernel) (by decide +kernel)⟩
theorem im_R_enter : Cond.instanceMethod y_R_enter ∈ GW ∧ Cond.selects (y_R_enter).cls y_R_enter y_R_enter ∈ GW := ⟨gwT 925 (by decide +kernel) (by decide +kernel), gwT 926 (by decide +kernel) (by decide +kernel)⟩
theorem im_R_wrongChange : Cond.instanceMethod y_R_wrongChange ∈ GW ∧ Cond.selects (y_R_wrongChange).cls y_R_wrongChange y_R_wrongChange ∈ GW := ⟨gwT 930 (by decide +kernel) (by decide +kernel), gwS 21 (by decide +kernel) (by decide +kernel)⟩
theorem im_R_leave : Cond.instanceMethod y_R_leave ∈ GW ∧ Cond.selects (y_R_leave).cls y_R_leave y_R_leave ∈ GW := ⟨gwT 933 (by decide +kernel) (by decide +kernel), gwT 934 (by decide +kernel) (by decide +kernel)⟩
theorem im_R_deliver : Cond.instanceMethod y_R_deliver ∈ GW ∧ Cond.selects (y_R_deliver).cls y_R_deliver y_R_deliver ∈ GW := ⟨gwT 937 (by decide +kernel) (by decide +kernel), gwT 938 (by decide +kernel) (by decide +kernel)⟩
theorem im_R_endStock : Cond.instanceMethod y_R_endStock ∈ GW ∧ Cond.selects (y_R_endStock).cls y_R_endStock y_R_endStock ∈ GW := ⟨gwT 941 (by decide +kernel) (by decide +kernel), gwT 942 (by decide +kernel) (by decide +kernel)⟩
theorem im_R_allUnits : Cond.instanceMethod y_R_allUnits ∈ GW ∧ Cond.selects (y_R_allUnits).cls y_R_allUnits y_R_allUnits ∈ GW := ⟨gwT 946 (by decide +kernel) (by decide +kernel), gwS 22 (by decide +kernel) (by decide +kernel)⟩
theorem im_R_sideCosts : Cond.instanceMethod y_R_sideCosts ∈ GW ∧ Cond.selects (y_R_sideCosts).cls y_R_sideCosts y_R_sideCosts ∈ GW := ⟨gwT 949 (by decide +kernel) (by decide +kernel), gwT 950 (by decide +kernel) (by decide +kernel)⟩
theorem im_R_water : Cond.instanceMethod y_R_water ∈ GW ∧ Cond.selects (y_R_water).cls y_R_water y_R_water ∈ GW := ⟨gwT 953 (by decide +kernel) (by decide +kernel), gwT 954 (by decide +kernel) (by decide +kernel)⟩
theorem im_R_permille : Cond.instanceMethod y_R_permille ∈ GW ∧ Cond.selects (y_R_permille).cls y_R_permille y_R_permille ∈ GW := ⟨gwT 958 (by decide +kernel) (by decide +kernel), gwT 959 (by decide +kernel) (by decide +kernel)⟩
theorem im_R_degrees : Cond.instanceMethod y_R_degrees ∈ GW ∧ Cond.selects (y_R_degrees).cls y_R_degrees y_R_degrees ∈ GW := ⟨gwT 962 (by decide +kernel) (by decide +kernel), gwT 963 (by decide +kernel) (by decide +kernel)⟩
theorem im_R_prepay : Cond.instanceMethod y_R_prepay ∈ GW ∧ Cond.selects (y_R_prepay).cls y_R_prepay y_R_prepay ∈ GW := ⟨gwT 966 (by decide +kernel) (by decide +kernel), gwT 967 (by decide +kernel) (by decide +kernel)⟩
theorem im_R_isTenant : Cond.instanceMethod y_R_isTenant ∈ GW ∧ Cond.selects (y_R_isTenant).cls y_R_isTenant y_R_isTenant ∈ GW := ⟨gwT 971 (by decide +kernel) (by decide +kernel), gwS 23 (by decide +kernel) (by decide +kernel)⟩
theorem im_R_paid : Cond.instanceMethod y_R_paid ∈ GW ∧ Cond.selects (y_R_paid).cls y_R_paid y_R_paid ∈ GW := ⟨gwT 975 (by decide +kernel) (by decide +kernel), gwT 976 (by decide +kernel) (by decide +kernel)⟩
theorem im_R_replaced : Cond.instanceMethod y_R_replaced ∈ GW ∧ Cond.selects (y_R_replaced).cls y_R_replaced y_R_replaced ∈ GW := ⟨gwT 979 (by decide +kernel) (by decide +kernel), gwT 980 (by decide +kernel) (by decide +kernel)⟩
theorem im_R_look : Cond.instanceMethod y_R_look ∈ GW ∧ Cond.selects (y_R_look).cls y_R_look y_R_look ∈ GW := ⟨gwT 984 (by decide +kernel) (by decide +kernel), gwS 24 (by decide +kernel) (by decide +kernel)⟩
theorem im_R_isRead : Cond.instanceMethod y_R_isRead ∈ GW ∧ Cond.selects (y_R_isRead).cls y_R_isRead y_R_isRead ∈ GW := ⟨gwT 988 (by decide +kernel) (by decide +kernel), gwS 25 (by decide +kernel) (by decide +kernel)⟩
theorem im_R_measured : Cond.instanceMethod y_R_measured ∈ GW ∧ Cond.selects (y_R_measured).cls y_R_measured y_R_measured ∈ GW := ⟨gwT 992 (by decide +kernel) (by decide +kernel), gwS 26 (by decide +kernel) (by decide +kernel)⟩
theorem im_R_kindOf : Cond.instanceMethod y_R_kindOf ∈ GW ∧ Cond.selects (y_R_kindOf).cls y_R_kindOf y_R_kindOf ∈ GW := ⟨gwT 996 (by decide +kernel) (by decide +kernel), gwS 27 (by decide +kernel) (by decide +kernel)⟩
theorem im_R_bill : Cond.instanceMethod y_R_bill ∈ GW ∧ Cond.selects (y_R_bill).cls y_R_bill y_R_bill ∈ GW := ⟨gwT 1000 (by decide +kernel) (by decide +kernel), gwT 1001 (by decide +kernel) (by decide +kernel)⟩
theorem im_R_isByArea : Cond.instanceMethod y_R_isByArea ∈ GW ∧ Cond.selects (y_R_isByArea).cls y_R_isByArea y_R_isByArea ∈ GW := ⟨gwT 1005 (by decide +kernel) (by decide +kernel), gwS 28 (by decide +kernel) (by decide +kernel)⟩
theorem im_R_needsDegrees : Cond.instanceMethod y_R_needsDegrees ∈ GW ∧ Cond.selects (y_R_needsDegrees).cls y_R_needsDegrees y_R_needsDegrees ∈ GW := ⟨gwT 1009 (by decide +kernel) (by decide +kernel), gwS 29 (by decide +kernel) (by decide +kernel)⟩
theorem im_R_changeAt : Cond.instanceMethod y_R_changeAt ∈ GW ∧ Cond.selects (y_R_changeAt).cls y_R_changeAt y_R_changeAt ∈ GW := ⟨gwT 1013 (by decide +kernel) (by decide +kernel), gwS 30 (by decide +kernel) (by decide +kernel)⟩
theorem im_R_stretchOf : Cond.instanceMethod y_R_stretchOf ∈ GW ∧ Cond.selects (y_R_stretchOf).cls y_R_stretchOf y_R_stretchOf ∈ GW := ⟨gwT 1017 (by decide +kernel) (by decide +kernel), gwS 31 (by decide +kernel) (by decide +kernel)⟩
theorem im_R_degreesOf : Cond.instanceMethod y_R_degreesOf ∈ GW ∧ Cond.selects (y_R_degreesOf).cls y_R_degreesOf y_R_degreesOf ∈ GW := ⟨gwT 1021 (by decide +kernel) (by decide +kernel), gwS 32 (by decide +kernel) (by decide +kernel)⟩
theorem im_R_findParts : Cond.instanceMethod y_R_findParts ∈ GW ∧ Cond.selects (y_R_findParts).cls y_R_findParts y_R_findParts ∈ GW := ⟨gwT 1025 (by decide +kernel) (by decide +kernel), gwS 33 (by decide +kernel) (by decide +kernel)⟩
theorem im_R_centsInStock : Cond.instanceMethod y_R_centsInStock ∈ GW ∧ Cond.selects (y_R_centsInStock).cls y_R_centsInStock y_R_centsInStock ∈ GW := ⟨gwT 1029 (by decide +kernel) (by decide +kernel), gwS 34 (by decide +kernel) (by decide +kernel)⟩
theorem im_R_inStock : Cond.instanceMethod y_R_inStock ∈ GW ∧ Cond.selects (y_R_inStock).cls y_R_inStock y_R_inStock ∈ GW := ⟨gwT 1033 (by decide +kernel) (by decide +kernel), gwS 35 (by decide +kernel) (by decide +kernel)⟩
theorem im_R_share : Cond.instanceMethod y_R_share ∈ GW ∧ Cond.selects (y_R_share).cls y_R_share y_R_share ∈ GW := ⟨gwT 1040 (by decide +kernel) (by decide +kernel), gwS 36 (by decide +kernel) (by decide +kernel)⟩
theorem im_R_spansBy : Cond.instanceMethod y_R_spansBy ∈ GW ∧ Cond.selects (y_R_spansBy).cls y_R_spansBy y_R_spansBy ∈ GW := ⟨gwT 1044 (by decide +kernel) (by decide +kernel), gwS 37 (by decide +kernel) (by decide +kernel)⟩
theorem im_R_holderAt : Cond.instanceMethod y_R_holderAt ∈ GW ∧ Cond.selects (y_R_holderAt).cls y_R_holderAt y_R_holderAt ∈ GW := ⟨gwT 1048 (by decide +kernel) (by decide +kernel), gwS 38 (by decide +kernel) (by decide +kernel)⟩
theorem im_R_endOf : Cond.instanceMethod y_R_endOf ∈ GW ∧ Cond.selects (y_R_endOf).cls y_R_endOf y_R_endOf ∈ GW := ⟨gwT 1052 (by decide +kernel) (by decide +kernel), gwS 39 (by decide +kernel) (by decide +kernel)⟩
theorem im_R_span : Cond.instanceMethod y_R_span ∈ GW ∧ Cond.selects (y_R_span).cls y_R_span y_R_span ∈ GW := ⟨gwT 1057 (by decide +kernel) (by decide +kernel), gwS 40 (by decide +kernel) (by decide +kernel)⟩
theorem im_R_spanByMeter : Cond.instanceMethod y_R_spanByMeter ∈ GW ∧ Cond.selects (y_R_spanByMeter).cls y_R_spanByMeter y_R_spanByMeter ∈ GW := ⟨gwT 1061 (by decide +kernel) (by decide +kernel), gwS 41 (by decide +kernel) (by decide +kernel)⟩
theorem im_R_weight : Cond.instanceMethod y_R_weight ∈ GW ∧ Cond.selects (y_R_weight).cls y_R_weight y_R_weight ∈ GW := ⟨gwT 1065 (by decide +kernel) (by decide +kernel), gwS 42 (by decide +kernel) (by decide +kernel)⟩
theorem im_R_handOut : Cond.instanceMethod y_R_handOut ∈ GW ∧ Cond.selects (y_R_handOut).cls y_R_handOut y_R_handOut ∈ GW := ⟨gwT 1069 (by decide +kernel) (by decide +kernel), gwS 43 (by decide +kernel) (by decide +kernel)⟩
theorem st_R_isMore : Cond.static y_R_isMore ∈ GW := gwT 1072 (by decide +kernel) (by decide +kernel)
theorem im_R_amount : Cond.instanceMethod y_R_amount ∈ GW ∧ Cond.selects (y_R_amount).cls y_R_amount y_R_amount ∈ GW := ⟨gwT 1075 (by decide +kernel) (by decide +kernel), gwT 1076 (by decide +kernel) (by decide +kernel)⟩
theorem im_R_sumOf : Cond.instanceMethod y_R_sumOf ∈ GW ∧ Cond.selects (y_R_sumOf).cls y_R_sumOf y_R_sumOf ∈ GW := ⟨gwT 1080 (by decide +kernel) (by decide +kernel), gwS 44 (by decide +kernel) (by decide +kernel)⟩
theorem im_R_part : Cond.instanceMethod y_R_part ∈ GW ∧ Cond.selects (y_R_part).cls y_R_part y_R_part ∈ GW := ⟨gwT 1083 (by decide +kernel) (by decide +kernel), gwT 1084 (by decide +kernel) (by decide +kernel)⟩
theorem im_R_send : Cond.instanceMethod y_R_send ∈ GW ∧ Cond.selects (y_R_send).cls y_R_send y_R_send ∈ GW := ⟨gwT 1087 (by decide +kernel) (by decide +kernel), gwT 1088 (by decide +kernel) (by decide +kernel)⟩
theorem im_R_sendAll : Cond.instanceMethod y_R_sendAll ∈ GW ∧ Cond.selects (y_R_sendAll).cls y_R_sendAll y_R_sendAll ∈ GW := ⟨gwT 1092 (by decide +kernel) (by decide +kernel), gwS 45 (by decide +kernel) (by decide +kernel)⟩
theorem im_R_sent : Cond.instanceMethod y_R_sent ∈ GW ∧ Cond.selects (y_R_sent).cls y_R_sent y_R_sent ∈ GW := ⟨gwT 1095 (by decide +kernel) (by decide +kernel), gwT 1096 (by decide +kernel) (by decide +kernel)⟩
theorem im_R_closeYear : Cond.instanceMethod y_R_closeYear ∈ GW ∧ Cond.selects (y_R_closeYear).cls y_R_closeYear y_R_closeYear ∈ GW := ⟨gwT 1099 (by decide +kernel) (by decide +kernel), gwT 1100 (by decide +kernel) (by decide +kernel)⟩
theorem im_R_keepStock : Cond.instanceMethod y_R_keepStock ∈ GW ∧ Cond.selects (y_R_keepStock).cls y_R_keepStock y_R_keepStock ∈ GW := ⟨gwT 1104 (by decide +kernel) (by decide +kernel), gwS 46 (by decide +kernel) (by decide +kernel)⟩
theorem im_R_nextYear : Cond.instanceMethod y_R_nextYear ∈ GW ∧ Cond.selects (y_R_nextYear).cls y_R_nextYear y_R_nextYear ∈ GW := ⟨gwT 1108 (by decide +kernel) (by decide +kernel), gwS 47 (by decide +kernel) (by decide +kernel)⟩
theorem im_R_known : Cond.instanceMethod y_R_known ∈ GW ∧ Cond.selects (y_R_known).cls y_R_known y_R_known ∈ GW := ⟨gwT 1111 (by decide +kernel) (by decide +kernel), gwT 1112 (by decide +kernel) (by decide +kernel)⟩
end
