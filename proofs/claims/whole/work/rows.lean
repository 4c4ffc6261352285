section
-- ===== PART A: goes FIRST, ahead of the names: the tables' words, and 'selects' of the private methods out of them =====
/-- a private method of a class that the tables say can be made, by its rows of tables_1 -/
def lw_okq (q : MethodName × Nat) : Prop := (q.1.cls ≠ "java/lang/invoke/MethodHandle" ∧ q.1.cls ≠ "java/lang/invoke/VarHandle") ∧ Cond.instantiable q.1.cls q.2 ∈ tables_1 ∧ Cond.privateMethod q.1 ∈ tables_1 ∧ Cond.instanceMethod q.1 ∈ tables_1
theorem lw_p0 : lw_okq (⟨"HeatShares$Meters", "sumRead", "(LHeatShares$House;)V"⟩, 8) := ⟨⟨by decide +kernel, by decide +kernel⟩, List.mem_of_getElem? (i := 115) (by decide +kernel), List.mem_of_getElem? (i := 288) (by decide +kernel), List.mem_of_getElem? (i := 289) (by decide +kernel)⟩
theorem lw_p1 : lw_okq (⟨"HeatShares$Meters", "kindOf", "(LHeatShares$Flat;)I"⟩, 8) := ⟨⟨by decide +kernel, by decide +kernel⟩, List.mem_of_getElem? (i := 115) (by decide +kernel), List.mem_of_getElem? (i := 304) (by decide +kernel), List.mem_of_getElem? (i := 305) (by decide +kernel)⟩
theorem lw_p2 : lw_okq (⟨"HeatShares$Meters", "scaledUnits", "(LHeatShares$Flat;IJJ)J"⟩, 8) := ⟨⟨by decide +kernel, by decide +kernel⟩, List.mem_of_getElem? (i := 115) (by decide +kernel), List.mem_of_getElem? (i := 308) (by decide +kernel), List.mem_of_getElem? (i := 309) (by decide +kernel)⟩
theorem lw_p3 : lw_okq (⟨"HeatShares$Spans", "layFlat", "(ILHeatShares$Flat;)V"⟩, 5) := ⟨⟨by decide +kernel, by decide +kernel⟩, List.mem_of_getElem? (i := 149) (by decide +kernel), List.mem_of_getElem? (i := 320) (by decide +kernel), List.mem_of_getElem? (i := 321) (by decide +kernel)⟩
theorem lw_p4 : lw_okq (⟨"HeatShares$Spans", "addSpan", "(IIII)V"⟩, 5) := ⟨⟨by decide +kernel, by decide +kernel⟩, List.mem_of_getElem? (i := 149) (by decide +kernel), List.mem_of_getElem? (i := 328) (by decide +kernel), List.mem_of_getElem? (i := 329) (by decide +kernel)⟩
theorem lw_p5 : lw_okq (⟨"HeatShares", "hasDegreesOfYear", "()Z"⟩, 13) := ⟨⟨by decide +kernel, by decide +kernel⟩, List.mem_of_getElem? (i := 20) (by decide +kernel), List.mem_of_getElem? (i := 348) (by decide +kernel), List.mem_of_getElem? (i := 349) (by decide +kernel)⟩
theorem lw_p6 : lw_okq (⟨"HeatShares", "setBillParts", "()V"⟩, 13) := ⟨⟨by decide +kernel, by decide +kernel⟩, List.mem_of_getElem? (i := 20) (by decide +kernel), List.mem_of_getElem? (i := 352) (by decide +kernel), List.mem_of_getElem? (i := 353) (by decide +kernel)⟩
theorem lw_p7 : lw_okq (⟨"HeatShares", "waterUnits", "(I)I"⟩, 13) := ⟨⟨by decide +kernel, by decide +kernel⟩, List.mem_of_getElem? (i := 20) (by decide +kernel), List.mem_of_getElem? (i := 375) (by decide +kernel), List.mem_of_getElem? (i := 376) (by decide +kernel)⟩
theorem lw_p8 : lw_okq (⟨"HeatShares", "shareParts", "(Z)V"⟩, 13) := ⟨⟨by decide +kernel, by decide +kernel⟩, List.mem_of_getElem? (i := 20) (by decide +kernel), List.mem_of_getElem? (i := 383) (by decide +kernel), List.mem_of_getElem? (i := 384) (by decide +kernel)⟩
theorem lw_p9 : lw_okq (⟨"HeatShares$Shares", "setWhole", "(II)V"⟩, 5) := ⟨⟨by decide +kernel, by decide +kernel⟩, List.mem_of_getElem? (i := 177) (by decide +kernel), List.mem_of_getElem? (i := 400) (by decide +kernel), List.mem_of_getElem? (i := 401) (by decide +kernel)⟩
theorem lw_p10 : lw_okq (⟨"HeatShares", "sharePart", "(II)V"⟩, 13) := ⟨⟨by decide +kernel, by decide +kernel⟩, List.mem_of_getElem? (i := 20) (by decide +kernel), List.mem_of_getElem? (i := 404) (by decide +kernel), List.mem_of_getElem? (i := 405) (by decide +kernel)⟩
theorem lw_p11 : lw_okq (⟨"HeatShares$Shares", "roundDown", "(II)V"⟩, 5) := ⟨⟨by decide +kernel, by decide +kernel⟩, List.mem_of_getElem? (i := 177) (by decide +kernel), List.mem_of_getElem? (i := 412) (by decide +kernel), List.mem_of_getElem? (i := 413) (by decide +kernel)⟩
theorem lw_p12 : lw_okq (⟨"HeatShares$Shares", "greatestCutOff", "(I)I"⟩, 5) := ⟨⟨by decide +kernel, by decide +kernel⟩, List.mem_of_getElem? (i := 177) (by decide +kernel), List.mem_of_getElem? (i := 416) (by decide +kernel), List.mem_of_getElem? (i := 417) (by decide +kernel)⟩
theorem lw_p13 : lw_okq (⟨"HeatShares$Shares", "addStretch", "(LHeatShares$Spans;IIIJ[I)V"⟩, 5) := ⟨⟨by decide +kernel, by decide +kernel⟩, List.mem_of_getElem? (i := 177) (by decide +kernel), List.mem_of_getElem? (i := 438) (by decide +kernel), List.mem_of_getElem? (i := 439) (by decide +kernel)⟩
theorem lw_p14 : lw_okq (⟨"java/lang/Throwable", "fillInStackTrace", "(I)Ljava/lang/Throwable;"⟩, 6) := ⟨⟨by decide +kernel, by decide +kernel⟩, List.mem_of_getElem? (i := 498) (by decide +kernel), List.mem_of_getElem? (i := 496) (by decide +kernel), List.mem_of_getElem? (i := 497) (by decide +kernel)⟩
theorem lw_p15 : lw_okq (⟨"HeatShares", "needFlat", "(I)V"⟩, 13) := ⟨⟨by decide +kernel, by decide +kernel⟩, List.mem_of_getElem? (i := 20) (by decide +kernel), List.mem_of_getElem? (i := 556) (by decide +kernel), List.mem_of_getElem? (i := 557) (by decide +kernel)⟩
def lw_privs_1 : List (MethodName × Nat) := [(⟨"HeatShares$Meters", "sumRead", "(LHeatShares$House;)V"⟩, 8), (⟨"HeatShares$Meters", "kindOf", "(LHeatShares$Flat;)I"⟩, 8), (⟨"HeatShares$Meters", "scaledUnits", "(LHeatShares$Flat;IJJ)J"⟩, 8), (⟨"HeatShares$Spans", "layFlat", "(ILHeatShares$Flat;)V"⟩, 5), (⟨"HeatShares$Spans", "addSpan", "(IIII)V"⟩, 5), (⟨"HeatShares", "hasDegreesOfYear", "()Z"⟩, 13), (⟨"HeatShares", "setBillParts", "()V"⟩, 13), (⟨"HeatShares", "waterUnits", "(I)I"⟩, 13), (⟨"HeatShares", "shareParts", "(Z)V"⟩, 13), (⟨"HeatShares$Shares", "setWhole", "(II)V"⟩, 5), (⟨"HeatShares", "sharePart", "(II)V"⟩, 13), (⟨"HeatShares$Shares", "roundDown", "(II)V"⟩, 5), (⟨"HeatShares$Shares", "greatestCutOff", "(I)I"⟩, 5), (⟨"HeatShares$Shares", "addStretch", "(LHeatShares$Spans;IIIJ[I)V"⟩, 5), (⟨"java/lang/Throwable", "fillInStackTrace", "(I)Ljava/lang/Throwable;"⟩, 6), (⟨"HeatShares", "needFlat", "(I)V"⟩, 13)]
theorem lw_r1 : ∀ q ∈ lw_privs_1, lw_okq q := List.forall_mem_cons.mpr ⟨lw_p0, List.forall_mem_cons.mpr ⟨lw_p1, List.forall_mem_cons.mpr ⟨lw_p2, List.forall_mem_cons.mpr ⟨lw_p3, List.forall_mem_cons.mpr ⟨lw_p4, List.forall_mem_cons.mpr ⟨lw_p5, List.forall_mem_cons.mpr ⟨lw_p6, List.forall_mem_cons.mpr ⟨lw_p7, List.forall_mem_cons.mpr ⟨lw_p8, List.forall_mem_cons.mpr ⟨lw_p9, List.forall_mem_cons.mpr ⟨lw_p10, List.forall_mem_cons.mpr ⟨lw_p11, List.forall_mem_cons.mpr ⟨lw_p12, List.forall_mem_cons.mpr ⟨lw_p13, List.forall_mem_cons.mpr ⟨lw_p14, List.forall_mem_cons.mpr ⟨lw_p15, fun _ h => absurd h List.not_mem_nil⟩⟩⟩⟩⟩⟩⟩⟩⟩⟩⟩⟩⟩⟩⟩⟩
theorem lw_p16 : lw_okq (⟨"HeatShares", "needRoomForChange", "(II)V"⟩, 13) := ⟨⟨by decide +kernel, by decide +kernel⟩, List.mem_of_getElem? (i := 20) (by decide +kernel), List.mem_of_getElem? (i := 586) (by decide +kernel), List.mem_of_getElem? (i := 587) (by decide +kernel)⟩
theorem lw_p17 : lw_okq (⟨"HeatShares", "needTenant", "(I)V"⟩, 13) := ⟨⟨by decide +kernel, by decide +kernel⟩, List.mem_of_getElem? (i := 20) (by decide +kernel), List.mem_of_getElem? (i := 682) (by decide +kernel), List.mem_of_getElem? (i := 683) (by decide +kernel)⟩
theorem lw_p18 : lw_okq (⟨"HeatShares", "needBill", "()V"⟩, 13) := ⟨⟨by decide +kernel, by decide +kernel⟩, List.mem_of_getElem? (i := 20) (by decide +kernel), List.mem_of_getElem? (i := 695) (by decide +kernel), List.mem_of_getElem? (i := 696) (by decide +kernel)⟩
theorem lw_p19 : lw_okq (⟨"HeatShares", "needTenantOrLandlord", "(I)V"⟩, 13) := ⟨⟨by decide +kernel, by decide +kernel⟩, List.mem_of_getElem? (i := 20) (by decide +kernel), List.mem_of_getElem? (i := 700) (by decide +kernel), List.mem_of_getElem? (i := 701) (by decide +kernel)⟩
theorem lw_p20 : lw_okq (⟨"HeatSharesModel", "isFlat", "(I)Z"⟩, 38) := ⟨⟨by decide +kernel, by decide +kernel⟩, List.mem_of_getElem? (i := 784) (by decide +kernel), List.mem_of_getElem? (i := 921) (by decide +kernel), List.mem_of_getElem? (i := 922) (by decide +kernel)⟩
theorem lw_p21 : lw_okq (⟨"HeatSharesModel", "wrongChange", "(II)I"⟩, 38) := ⟨⟨by decide +kernel, by decide +kernel⟩, List.mem_of_getElem? (i := 784) (by decide +kernel), List.mem_of_getElem? (i := 929) (by decide +kernel), List.mem_of_getElem? (i := 930) (by decide +kernel)⟩
theorem lw_p22 : lw_okq (⟨"HeatSharesModel", "allUnits", "()I"⟩, 38) := ⟨⟨by decide +kernel, by decide +kernel⟩, List.mem_of_getElem? (i := 784) (by decide +kernel), List.mem_of_getElem? (i := 945) (by decide +kernel), List.mem_of_getElem? (i := 946) (by decide +kernel)⟩
theorem lw_p23 : lw_okq (⟨"HeatSharesModel", "isTenant", "(I)Z"⟩, 38) := ⟨⟨by decide +kernel, by decide +kernel⟩, List.mem_of_getElem? (i := 784) (by decide +kernel), List.mem_of_getElem? (i := 970) (by decide +kernel), List.mem_of_getElem? (i := 971) (by decide +kernel)⟩
theorem lw_p24 : lw_okq (⟨"HeatSharesModel", "look", "()V"⟩, 38) := ⟨⟨by decide +kernel, by decide +kernel⟩, List.mem_of_getElem? (i := 784) (by decide +kernel), List.mem_of_getElem? (i := 983) (by decide +kernel), List.mem_of_getElem? (i := 984) (by decide +kernel)⟩
theorem lw_p25 : lw_okq (⟨"HeatSharesModel", "isRead", "(I)Z"⟩, 38) := ⟨⟨by decide +kernel, by decide +kernel⟩, List.mem_of_getElem? (i := 784) (by decide +kernel), List.mem_of_getElem? (i := 987) (by decide +kernel), List.mem_of_getElem? (i := 988) (by decide +kernel)⟩
theorem lw_p26 : lw_okq (⟨"HeatSharesModel", "measured", "(I)I"⟩, 38) := ⟨⟨by decide +kernel, by decide +kernel⟩, List.mem_of_getElem? (i := 784) (by decide +kernel), List.mem_of_getElem? (i := 991) (by decide +kernel), List.mem_of_getElem? (i := 992) (by decide +kernel)⟩
theorem lw_p27 : lw_okq (⟨"HeatSharesModel", "kindOf", "(I)I"⟩, 38) := ⟨⟨by decide +kernel, by decide +kernel⟩, List.mem_of_getElem? (i := 784) (by decide +kernel), List.mem_of_getElem? (i := 995) (by decide +kernel), List.mem_of_getElem? (i := 996) (by decide +kernel)⟩
theorem lw_p28 : lw_okq (⟨"HeatSharesModel", "isByArea", "()Z"⟩, 38) := ⟨⟨by decide +kernel, by decide +kernel⟩, List.mem_of_getElem? (i := 784) (by decide +kernel), List.mem_of_getElem? (i := 1004) (by decide +kernel), List.mem_of_getElem? (i := 1005) (by decide +kernel)⟩
theorem lw_p29 : lw_okq (⟨"HeatSharesModel", "needsDegrees", "()Z"⟩, 38) := ⟨⟨by decide +kernel, by decide +kernel⟩, List.mem_of_getElem? (i := 784) (by decide +kernel), List.mem_of_getElem? (i := 1008) (by decide +kernel), List.mem_of_getElem? (i := 1009) (by decide +kernel)⟩
theorem lw_p30 : lw_okq (⟨"HeatSharesModel", "changeAt", "(II)I"⟩, 38) := ⟨⟨by decide +kernel, by decide +kernel⟩, List.mem_of_getElem? (i := 784) (by decide +kernel), List.mem_of_getElem? (i := 1012) (by decide +kernel), List.mem_of_getElem? (i := 1013) (by decide +kernel)⟩
theorem lw_p31 : lw_okq (⟨"HeatSharesModel", "stretchOf", "(IIZ)I"⟩, 38) := ⟨⟨by decide +kernel, by decide +kernel⟩, List.mem_of_getElem? (i := 784) (by decide +kernel), List.mem_of_getElem? (i := 1016) (by decide +kernel), List.mem_of_getElem? (i := 1017) (by decide +kernel)⟩
def lw_privs_2 : List (MethodName × Nat) := [(⟨"HeatShares", "needRoomForChange", "(II)V"⟩, 13), (⟨"HeatShares", "needTenant", "(I)V"⟩, 13), (⟨"HeatShares", "needBill", "()V"⟩, 13), (⟨"HeatShares", "needTenantOrLandlord", "(I)V"⟩, 13), (⟨"HeatSharesModel", "isFlat", "(I)Z"⟩, 38), (⟨"HeatSharesModel", "wrongChange", "(II)I"⟩, 38), (⟨"HeatSharesModel", "allUnits", "()I"⟩, 38), (⟨"HeatSharesModel", "isTenant", "(I)Z"⟩, 38), (⟨"HeatSharesModel", "look", "()V"⟩, 38), (⟨"HeatSharesModel", "isRead", "(I)Z"⟩, 38), (⟨"HeatSharesModel", "measured", "(I)I"⟩, 38), (⟨"HeatSharesModel", "kindOf", "(I)I"⟩, 38), (⟨"HeatSharesModel", "isByArea", "()Z"⟩, 38), (⟨"HeatSharesModel", "needsDegrees", "()Z"⟩, 38), (⟨"HeatSharesModel", "changeAt", "(II)I"⟩, 38), (⟨"HeatSharesModel", "stretchOf", "(IIZ)I"⟩, 38)]
theorem lw_r2 : ∀ q ∈ lw_privs_2, lw_okq q := List.forall_mem_cons.mpr ⟨lw_p16, List.forall_mem_cons.mpr ⟨lw_p17, List.forall_mem_cons.mpr ⟨lw_p18, List.forall_mem_cons.mpr ⟨lw_p19, List.forall_mem_cons.mpr ⟨lw_p20, List.forall_mem_cons.mpr ⟨lw_p21, List.forall_mem_cons.mpr ⟨lw_p22, List.forall_mem_cons.mpr ⟨lw_p23, List.forall_mem_cons.mpr ⟨lw_p24, List.forall_mem_cons.mpr ⟨lw_p25, List.forall_mem_cons.mpr ⟨lw_p26, List.forall_mem_cons.mpr ⟨lw_p27, List.forall_mem_cons.mpr ⟨lw_p28, List.forall_mem_cons.mpr ⟨lw_p29, List.forall_mem_cons.mpr ⟨lw_p30, List.forall_mem_cons.mpr ⟨lw_p31, fun _ h => absurd h List.not_mem_nil⟩⟩⟩⟩⟩⟩⟩⟩⟩⟩⟩⟩⟩⟩⟩⟩
theorem lw_p32 : lw_okq (⟨"HeatSharesModel", "degreesOf", "(II)I"⟩, 38) := ⟨⟨by decide +kernel, by decide +kernel⟩, List.mem_of_getElem? (i := 784) (by decide +kernel), List.mem_of_getElem? (i := 1020) (by decide +kernel), List.mem_of_getElem? (i := 1021) (by decide +kernel)⟩
theorem lw_p33 : lw_okq (⟨"HeatSharesModel", "findParts", "()V"⟩, 38) := ⟨⟨by decide +kernel, by decide +kernel⟩, List.mem_of_getElem? (i := 784) (by decide +kernel), List.mem_of_getElem? (i := 1024) (by decide +kernel), List.mem_of_getElem? (i := 1025) (by decide +kernel)⟩
theorem lw_p34 : lw_okq (⟨"HeatSharesModel", "centsInStock", "(I)I"⟩, 38) := ⟨⟨by decide +kernel, by decide +kernel⟩, List.mem_of_getElem? (i := 784) (by decide +kernel), List.mem_of_getElem? (i := 1028) (by decide +kernel), List.mem_of_getElem? (i := 1029) (by decide +kernel)⟩
theorem lw_p35 : lw_okq (⟨"HeatSharesModel", "inStock", "(I)I"⟩, 38) := ⟨⟨by decide +kernel, by decide +kernel⟩, List.mem_of_getElem? (i := 784) (by decide +kernel), List.mem_of_getElem? (i := 1032) (by decide +kernel), List.mem_of_getElem? (i := 1033) (by decide +kernel)⟩
theorem lw_p36 : lw_okq (⟨"HeatSharesModel", "share", "(IIZ)V"⟩, 38) := ⟨⟨by decide +kernel, by decide +kernel⟩, List.mem_of_getElem? (i := 784) (by decide +kernel), List.mem_of_getElem? (i := 1039) (by decide +kernel), List.mem_of_getElem? (i := 1040) (by decide +kernel)⟩
theorem lw_p37 : lw_okq (⟨"HeatSharesModel", "spansBy", "(IJII)V"⟩, 38) := ⟨⟨by decide +kernel, by decide +kernel⟩, List.mem_of_getElem? (i := 784) (by decide +kernel), List.mem_of_getElem? (i := 1043) (by decide +kernel), List.mem_of_getElem? (i := 1044) (by decide +kernel)⟩
theorem lw_p38 : lw_okq (⟨"HeatSharesModel", "holderAt", "(II)I"⟩, 38) := ⟨⟨by decide +kernel, by decide +kernel⟩, List.mem_of_getElem? (i := 784) (by decide +kernel), List.mem_of_getElem? (i := 1047) (by decide +kernel), List.mem_of_getElem? (i := 1048) (by decide +kernel)⟩
theorem lw_p39 : lw_okq (⟨"HeatSharesModel", "endOf", "(II)I"⟩, 38) := ⟨⟨by decide +kernel, by decide +kernel⟩, List.mem_of_getElem? (i := 784) (by decide +kernel), List.mem_of_getElem? (i := 1051) (by decide +kernel), List.mem_of_getElem? (i := 1052) (by decide +kernel)⟩
theorem lw_p40 : lw_okq (⟨"HeatSharesModel", "span", "(IJJ)V"⟩, 38) := ⟨⟨by decide +kernel, by decide +kernel⟩, List.mem_of_getElem? (i := 784) (by decide +kernel), List.mem_of_getElem? (i := 1056) (by decide +kernel), List.mem_of_getElem? (i := 1057) (by decide +kernel)⟩
theorem lw_p41 : lw_okq (⟨"HeatSharesModel", "spanByMeter", "(IIIJJ)V"⟩, 38) := ⟨⟨by decide +kernel, by decide +kernel⟩, List.mem_of_getElem? (i := 784) (by decide +kernel), List.mem_of_getElem? (i := 1060) (by decide +kernel), List.mem_of_getElem? (i := 1061) (by decide +kernel)⟩
theorem lw_p42 : lw_okq (⟨"HeatSharesModel", "weight", "(IIII)I"⟩, 38) := ⟨⟨by decide +kernel, by decide +kernel⟩, List.mem_of_getElem? (i := 784) (by decide +kernel), List.mem_of_getElem? (i := 1064) (by decide +kernel), List.mem_of_getElem? (i := 1065) (by decide +kernel)⟩
theorem lw_p43 : lw_okq (⟨"HeatSharesModel", "handOut", "(II)V"⟩, 38) := ⟨⟨by decide +kernel, by decide +kernel⟩, List.mem_of_getElem? (i := 784) (by decide +kernel), List.mem_of_getElem? (i := 1068) (by decide +kernel), List.mem_of_getElem? (i := 1069) (by decide +kernel)⟩
theorem lw_p44 : lw_okq (⟨"HeatSharesModel", "sumOf", "(I)I"⟩, 38) := ⟨⟨by decide +kernel, by decide +kernel⟩, List.mem_of_getElem? (i := 784) (by decide +kernel), List.mem_of_getElem? (i := 1079) (by decide +kernel), List.mem_of_getElem? (i := 1080) (by decide +kernel)⟩
theorem lw_p45 : lw_okq (⟨"HeatSharesModel", "sendAll", "()I"⟩, 38) := ⟨⟨by decide +kernel, by decide +kernel⟩, List.mem_of_getElem? (i := 784) (by decide +kernel), List.mem_of_getElem? (i := 1091) (by decide +kernel), List.mem_of_getElem? (i := 1092) (by decide +kernel)⟩
theorem lw_p46 : lw_okq (⟨"HeatSharesModel", "keepStock", "()V"⟩, 38) := ⟨⟨by decide +kernel, by decide +kernel⟩, List.mem_of_getElem? (i := 784) (by decide +kernel), List.mem_of_getElem? (i := 1103) (by decide +kernel), List.mem_of_getElem? (i := 1104) (by decide +kernel)⟩
theorem lw_p47 : lw_okq (⟨"HeatSharesModel", "nextYear", "(I)V"⟩, 38) := ⟨⟨by decide +kernel, by decide +kernel⟩, List.mem_of_getElem? (i := 784) (by decide +kernel), List.mem_of_getElem? (i := 1107) (by decide +kernel), List.mem_of_getElem? (i := 1108) (by decide +kernel)⟩
def lw_privs_3 : List (MethodName × Nat) := [(⟨"HeatSharesModel", "degreesOf", "(II)I"⟩, 38), (⟨"HeatSharesModel", "findParts", "()V"⟩, 38), (⟨"HeatSharesModel", "centsInStock", "(I)I"⟩, 38), (⟨"HeatSharesModel", "inStock", "(I)I"⟩, 38), (⟨"HeatSharesModel", "share", "(IIZ)V"⟩, 38), (⟨"HeatSharesModel", "spansBy", "(IJII)V"⟩, 38), (⟨"HeatSharesModel", "holderAt", "(II)I"⟩, 38), (⟨"HeatSharesModel", "endOf", "(II)I"⟩, 38), (⟨"HeatSharesModel", "span", "(IJJ)V"⟩, 38), (⟨"HeatSharesModel", "spanByMeter", "(IIIJJ)V"⟩, 38), (⟨"HeatSharesModel", "weight", "(IIII)I"⟩, 38), (⟨"HeatSharesModel", "handOut", "(II)V"⟩, 38), (⟨"HeatSharesModel", "sumOf", "(I)I"⟩, 38), (⟨"HeatSharesModel", "sendAll", "()I"⟩, 38), (⟨"HeatSharesModel", "keepStock", "()V"⟩, 38), (⟨"HeatSharesModel", "nextYear", "(I)V"⟩, 38)]
theorem lw_r3 : ∀ q ∈ lw_privs_3, lw_okq q := List.forall_mem_cons.mpr ⟨lw_p32, List.forall_mem_cons.mpr ⟨lw_p33, List.forall_mem_cons.mpr ⟨lw_p34, List.forall_mem_cons.mpr ⟨lw_p35, List.forall_mem_cons.mpr ⟨lw_p36, List.forall_mem_cons.mpr ⟨lw_p37, List.forall_mem_cons.mpr ⟨lw_p38, List.forall_mem_cons.mpr ⟨lw_p39, List.forall_mem_cons.mpr ⟨lw_p40, List.forall_mem_cons.mpr ⟨lw_p41, List.forall_mem_cons.mpr ⟨lw_p42, List.forall_mem_cons.mpr ⟨lw_p43, List.forall_mem_cons.mpr ⟨lw_p44, List.forall_mem_cons.mpr ⟨lw_p45, List.forall_mem_cons.mpr ⟨lw_p46, List.forall_mem_cons.mpr ⟨lw_p47, fun _ h => absurd h List.not_mem_nil⟩⟩⟩⟩⟩⟩⟩⟩⟩⟩⟩⟩⟩⟩⟩⟩
def lw_privs : List (MethodName × Nat) := lw_privs_1 ++ (lw_privs_2 ++ (lw_privs_3))
def lw_tbl : List Cond := k2_sels lw_privs ++ tables_1
theorem lw_privs_ok : ∀ q ∈ lw_privs, lw_okq q := by
  show ∀ q ∈ lw_privs_1 ++ (lw_privs_2 ++ (lw_privs_3)), lw_okq q
  exact List.forall_mem_append.mpr ⟨lw_r1, List.forall_mem_append.mpr ⟨lw_r2, lw_r3⟩⟩
end
section
/-! Names: classes, fields, methods. -/
def R_H : String := "HeatShares"
def T_H : u_T := fun k => match k with
  | 0 => ("HeatShares", "house", "LHeatShares$House;", true)
  | 1 => ("HeatShares", "fuel", "LHeatShares$Fuel;", true)
  | 2 => ("HeatShares", "meters", "LHeatShares$Meters;", true)
  | 3 => ("HeatShares", "spans", "LHeatShares$Spans;", true)
  | 4 => ("HeatShares", "shares", "LHeatShares$Shares;", true)
  | 5 => ("HeatShares", "accounts", "LHeatShares$Accounts;", true)
  | 6 => ("HeatShares", "monthDegrees", "[I", true)
  | 7 => ("HeatShares", "billParts", "[I", true)
  | 8 => ("HeatShares", "sideCents", "I", false)
  | 9 => ("HeatShares", "waterLitres", "I", false)
  | 10 => ("HeatShares", "waterGap", "I", false)
  | 11 => ("HeatShares", "fixedPermille", "I", false)
  | _ => ("HeatShares", "billed", "Z", false)
def t_H : Nat → FieldType := fun k => match k with
  | 0 => .object "HeatShares$House"
  | 1 => .object "HeatShares$Fuel"
  | 2 => .object "HeatShares$Meters"
  | 3 => .object "HeatShares$Spans"
  | 4 => .object "HeatShares$Shares"
  | 5 => .object "HeatShares$Accounts"
  | 6 => .array .int
  | 7 => .array .int
  | 8 => .int
  | 9 => .int
  | 10 => .int
  | 11 => .int
  | _ => .boolean
theorem nm_H : ∀ a, a < 13 → ∀ b, b < 13 → a ≠ b → (T_H a).2.1 ≠ (T_H b).2.1 := by decide +kernel
theorem ok_H : ∀ k, k < 13 → parseFieldDescriptor (T_H k).2.2.1 = some (t_H k) := by decide +kernel
def R_O : String := "HeatShares$House"
def T_O : u_T := fun k => match k with
  | 0 => ("HeatShares$House", "flats", "[LHeatShares$Flat;", true)
  | _ => ("HeatShares$House", "count", "I", false)
def t_O : Nat → FieldType := fun k => match k with
  | 0 => .array (.object "HeatShares$Flat")
  | _ => .int
theorem nm_O : ∀ a, a < 2 → ∀ b, b < 2 → a ≠ b → (T_O a).2.1 ≠ (T_O b).2.1 := by decide +kernel
theorem ok_O : ∀ k, k < 2 → parseFieldDescriptor (T_O k).2.2.1 = some (t_O k) := by decide +kernel
def R_F : String := "HeatShares$Flat"
def T_F : u_T := fun k => match k with
  | 0 => ("HeatShares$Flat", "area", "I", false)
  | 1 => ("HeatShares$Flat", "waterArea", "I", false)
  | 2 => ("HeatShares$Flat", "factor", "I", false)
  | 3 => ("HeatShares$Flat", "firstHolder", "I", false)
  | 4 => ("HeatShares$Flat", "lastUnits", "I", false)
  | 5 => ("HeatShares$Flat", "readings", "[I", true)
  | _ => ("HeatShares$Flat", "changes", "[I", true)
def t_F : Nat → FieldType := fun k => match k with
  | 0 => .int
  | 1 => .int
  | 2 => .int
  | 3 => .int
  | 4 => .int
  | 5 => .array .int
  | _ => .array .int
theorem nm_F : ∀ a, a < 7 → ∀ b, b < 7 → a ≠ b → (T_F a).2.1 ≠ (T_F b).2.1 := by decide +kernel
theorem ok_F : ∀ k, k < 7 → parseFieldDescriptor (T_F k).2.2.1 = some (t_F k) := by decide +kernel
def R_U : String := "HeatShares$Fuel"
def T_U : u_T := fun k => match k with
  | 0 => ("HeatShares$Fuel", "units", "[I", true)
  | 1 => ("HeatShares$Fuel", "cents", "[I", true)
  | 2 => ("HeatShares$Fuel", "layers", "I", false)
  | _ => ("HeatShares$Fuel", "stock", "I", false)
def t_U : Nat → FieldType := fun k => match k with
  | 0 => .array .int
  | 1 => .array .int
  | 2 => .int
  | _ => .int
theorem nm_U : ∀ a, a < 4 → ∀ b, b < 4 → a ≠ b → (T_U a).2.1 ≠ (T_U b).2.1 := by decide +kernel
theorem ok_U : ∀ k, k < 4 → parseFieldDescriptor (T_U k).2.2.1 = some (t_U k) := by decide +kernel
def R_M : String := "HeatShares$Meters"
def T_M : u_T := fun k => match k with
  | 0 => ("HeatShares$Meters", "kinds", "[I", true)
  | 1 => ("HeatShares$Meters", "units", "[J", true)
  | 2 => ("HeatShares$Meters", "scale", "J", false)
  | 3 => ("HeatShares$Meters", "allUnits", "J", false)
  | 4 => ("HeatShares$Meters", "readUnits", "I", false)
  | 5 => ("HeatShares$Meters", "readArea", "I", false)
  | 6 => ("HeatShares$Meters", "pairedUnits", "I", false)
  | _ => ("HeatShares$Meters", "pairedLastUnits", "I", false)
def t_M : Nat → FieldType := fun k => match k with
  | 0 => .array .int
  | 1 => .array .long
  | 2 => .long
  | 3 => .long
  | 4 => .int
  | 5 => .int
  | 6 => .int
  | _ => .int
theorem nm_M : ∀ a, a < 8 → ∀ b, b < 8 → a ≠ b → (T_M a).2.1 ≠ (T_M b).2.1 := by decide +kernel
theorem ok_M : ∀ k, k < 8 → parseFieldDescriptor (T_M k).2.2.1 = some (t_M k) := by decide +kernel
def R_P : String := "HeatShares$Spans"
def T_P : u_T := fun k => match k with
  | 0 => ("HeatShares$Spans", "flat", "[I", true)
  | 1 => ("HeatShares$Spans", "from", "[I", true)
  | 2 => ("HeatShares$Spans", "to", "[I", true)
  | 3 => ("HeatShares$Spans", "holder", "[I", true)
  | _ => ("HeatShares$Spans", "count", "I", false)
def t_P : Nat → FieldType := fun k => match k with
  | 0 => .array .int
  | 1 => .array .int
  | 2 => .array .int
  | 3 => .array .int
  | _ => .int
theorem nm_P : ∀ a, a < 5 → ∀ b, b < 5 → a ≠ b → (T_P a).2.1 ≠ (T_P b).2.1 := by decide +kernel
theorem ok_P : ∀ k, k < 5 → parseFieldDescriptor (T_P k).2.2.1 = some (t_P k) := by decide +kernel
def R_S : String := "HeatShares$Shares"
def T_S : u_T := fun k => match k with
  | 0 => ("HeatShares$Shares", "cents", "[I", true)
  | 1 => ("HeatShares$Shares", "weight", "[J", true)
  | 2 => ("HeatShares$Shares", "divisor", "[J", true)
  | 3 => ("HeatShares$Shares", "cutOff", "[J", true)
  | _ => ("HeatShares$Shares", "allWeight", "J", false)
def t_S : Nat → FieldType := fun k => match k with
  | 0 => .array .int
  | 1 => .array .long
  | 2 => .array .long
  | 3 => .array .long
  | _ => .long
theorem nm_S : ∀ a, a < 5 → ∀ b, b < 5 → a ≠ b → (T_S a).2.1 ≠ (T_S b).2.1 := by decide +kernel
theorem ok_S : ∀ k, k < 5 → parseFieldDescriptor (T_S k).2.2.1 = some (t_S k) := by decide +kernel
def R_A : String := "HeatShares$Accounts"
def T_A : u_T := fun k => match k with
  | 0 => ("HeatShares$Accounts", "owed", "[[I", true)
  | 1 => ("HeatShares$Accounts", "latest", "[I", true)
  | 2 => ("HeatShares$Accounts", "paidBefore", "[I", true)
  | 3 => ("HeatShares$Accounts", "sentInYear", "[I", true)
  | _ => ("HeatShares$Accounts", "tenants", "I", false)
def t_A : Nat → FieldType := fun k => match k with
  | 0 => .array (.array .int)
  | 1 => .array .int
  | 2 => .array .int
  | 3 => .array .int
  | _ => .int
theorem nm_A : ∀ a, a < 5 → ∀ b, b < 5 → a ≠ b → (T_A a).2.1 ≠ (T_A b).2.1 := by decide +kernel
theorem ok_A : ∀ k, k < 5 → parseFieldDescriptor (T_A k).2.2.1 = some (t_A k) := by decide +kernel
def R_R : String := "HeatSharesModel"
def T_R : u_T := fun k => match k with
  | 0 => ("HeatSharesModel", "thrown", "I", false)
  | 1 => ("HeatSharesModel", "flats", "I", false)
  | 2 => ("HeatSharesModel", "area", "[I", true)
  | 3 => ("HeatSharesModel", "waterArea", "[I", true)
  | 4 => ("HeatSharesModel", "factor", "[I", true)
  | 5 => ("HeatSharesModel", "readings", "[I", true)
  | 6 => ("HeatSharesModel", "changes", "[I", true)
  | 7 => ("HeatSharesModel", "owner", "[I", true)
  | 8 => ("HeatSharesModel", "known", "[I", true)
  | 9 => ("HeatSharesModel", "tenants", "I", false)
  | 10 => ("HeatSharesModel", "layers", "I", false)
  | 11 => ("HeatSharesModel", "units", "[I", true)
  | 12 => ("HeatSharesModel", "cents", "[I", true)
  | 13 => ("HeatSharesModel", "stock", "I", false)
  | 14 => ("HeatSharesModel", "side", "I", false)
  | 15 => ("HeatSharesModel", "litres", "I", false)
  | 16 => ("HeatSharesModel", "gap", "I", false)
  | 17 => ("HeatSharesModel", "permille", "I", false)
  | 18 => ("HeatSharesModel", "degrees", "[I", true)
  | 19 => ("HeatSharesModel", "billed", "Z", false)
  | 20 => ("HeatSharesModel", "parts", "[I", true)
  | 21 => ("HeatSharesModel", "shares", "[I", true)
  | 22 => ("HeatSharesModel", "paid", "[I", true)
  | 23 => ("HeatSharesModel", "before", "[I", true)
  | 24 => ("HeatSharesModel", "now", "[I", true)
  | 25 => ("HeatSharesModel", "readUnits", "I", false)
  | 26 => ("HeatSharesModel", "readArea", "I", false)
  | 27 => ("HeatSharesModel", "readCount", "I", false)
  | 28 => ("HeatSharesModel", "knownUnits", "I", false)
  | 29 => ("HeatSharesModel", "nowUnits", "I", false)
  | 30 => ("HeatSharesModel", "below", "J", false)
  | 31 => ("HeatSharesModel", "told", "[J", true)
  | 32 => ("HeatSharesModel", "spans", "I", false)
  | 33 => ("HeatSharesModel", "whose", "[I", true)
  | 34 => ("HeatSharesModel", "up", "[J", true)
  | 35 => ("HeatSharesModel", "down", "[J", true)
  | 36 => ("HeatSharesModel", "given", "[I", true)
  | _ => ("HeatSharesModel", "done", "[Z", true)
def t_R : Nat → FieldType := fun k => match k with
  | 0 => .int
  | 1 => .int
  | 2 => .array .int
  | 3 => .array .int
  | 4 => .array .int
  | 5 => .array .int
  | 6 => .array .int
  | 7 => .array .int
  | 8 => .array .int
  | 9 => .int
  | 10 => .int
  | 11 => .array .int
  | 12 => .array .int
  | 13 => .int
  | 14 => .int
  | 15 => .int
  | 16 => .int
  | 17 => .int
  | 18 => .array .int
  | 19 => .boolean
  | 20 => .array .int
  | 21 => .array .int
  | 22 => .array .int
  | 23 => .array .int
  | 24 => .array .int
  | 25 => .int
  | 26 => .int
  | 27 => .int
  | 28 => .int
  | 29 => .int
  | 30 => .long
  | 31 => .array .long
  | 32 => .int
  | 33 => .array .int
  | 34 => .array .long
  | 35 => .array .long
  | 36 => .array .int
  | _ => .array .boolean
theorem nm_R : ∀ a, a < 38 → ∀ b, b < 38 → a ≠ b → (T_R a).2.1 ≠ (T_R b).2.1 := by decide +kernel
theorem ok_R : ∀ k, k < 38 → parseFieldDescriptor (T_R k).2.2.1 = some (t_R k) := by decide +kernel
def R_L : String := "HeatSharesLaw"
abbrev uCl : List vw_C := [(R_H, T_H, 13), (R_O, T_O, 2), (R_F, T_F, 7), (R_U, T_U, 4), (R_M, T_M, 8), (R_P, T_P, 5), (R_S, T_S, 5), (R_A, T_A, 5), (R_R, T_R, 38)]
def y_H_init : MethodName := ⟨R_H, "<init>", "()V"⟩
abbrev b_H_init : ByteArray := prog_1_method_1_code
def y_O_init : MethodName := ⟨R_O, "<init>", "()V"⟩
abbrev b_O_init : ByteArray := prog_5_method_1_code
def y_F_init : MethodName := ⟨R_F, "<init>", "()V"⟩
abbrev b_F_init : ByteArray := prog_3_method_1_code
def y_J_fill : MethodName := ⟨"java/util/Arrays", "fill", "([II)V"⟩
abbrev b_J_fill : ByteArray := prog_20_method_103_code
def y_U_init : MethodName := ⟨R_U, "<init>", "()V"⟩
abbrev b_U_init : ByteArray := prog_4_method_1_code
def y_M_init : MethodName := ⟨R_M, "<init>", "()V"⟩
abbrev b_M_init : ByteArray := prog_6_method_1_code
def y_P_init : MethodName := ⟨R_P, "<init>", "()V"⟩
abbrev b_P_init : ByteArray := prog_8_method_1_code
def y_S_init : MethodName := ⟨R_S, "<init>", "()V"⟩
abbrev b_S_init : ByteArray := prog_7_method_1_code
def y_A_init : MethodName := ⟨R_A, "<init>", "()V"⟩
abbrev b_A_init : ByteArray := prog_2_method_1_code
def y_H_bill : MethodName := ⟨R_H, "bill", "()I"⟩
abbrev b_H_bill : ByteArray := prog_1_method_13_code
def y_U_isBurned : MethodName := ⟨R_U, "isBurned", "()Z"⟩
abbrev b_U_isBurned : ByteArray := prog_4_method_4_code
def y_U_burnedUnits : MethodName := ⟨R_U, "burnedUnits", "()I"⟩
abbrev b_U_burnedUnits : ByteArray := prog_4_method_5_code
def y_U_allUnits : MethodName := ⟨R_U, "allUnits", "()I"⟩
abbrev b_U_allUnits : ByteArray := prog_4_method_3_code
def y_M_look : MethodName := ⟨R_M, "look", "(LHeatShares$House;)V"⟩
abbrev b_M_look : ByteArray := prog_6_method_2_code
def y_M_sumRead : MethodName := ⟨R_M, "sumRead", "(LHeatShares$House;)V"⟩
abbrev b_M_sumRead : ByteArray := prog_6_method_3_code
def y_F_isMeterRead : MethodName := ⟨R_F, "isMeterRead", "()Z"⟩
abbrev b_F_isMeterRead : ByteArray := prog_3_method_3_code
def y_F_unitsOfYear : MethodName := ⟨R_F, "unitsOfYear", "()I"⟩
abbrev b_F_unitsOfYear : ByteArray := prog_3_method_5_code
def y_F_unitsBetween : MethodName := ⟨R_F, "unitsBetween", "(II)I"⟩
abbrev b_F_unitsBetween : ByteArray := prog_3_method_4_code
def y_M_kindOf : MethodName := ⟨R_M, "kindOf", "(LHeatShares$Flat;)I"⟩
abbrev b_M_kindOf : ByteArray := prog_6_method_4_code
def y_M_scaledUnits : MethodName := ⟨R_M, "scaledUnits", "(LHeatShares$Flat;IJJ)J"⟩
abbrev b_M_scaledUnits : ByteArray := prog_6_method_5_code
def y_J_minJ : MethodName := ⟨"java/lang/Math", "min", "(JJ)J"⟩
abbrev b_J_minJ : ByteArray := prog_15_method_70_code
def y_P_lay : MethodName := ⟨R_P, "lay", "(LHeatShares$House;)V"⟩
abbrev b_P_lay : ByteArray := prog_8_method_2_code
def y_P_layFlat : MethodName := ⟨R_P, "layFlat", "(ILHeatShares$Flat;)V"⟩
abbrev b_P_layFlat : ByteArray := prog_8_method_3_code
def y_F_hasChange : MethodName := ⟨R_F, "hasChange", "(I)Z"⟩
abbrev b_F_hasChange : ByteArray := prog_3_method_2_code
def y_P_addSpan : MethodName := ⟨R_P, "addSpan", "(IIII)V"⟩
abbrev b_P_addSpan : ByteArray := prog_8_method_4_code
def y_M_areFitFor : MethodName := ⟨R_M, "areFitFor", "(LHeatShares$House;)Z"⟩
abbrev b_M_areFitFor : ByteArray := prog_6_method_6_code
def y_O_allArea : MethodName := ⟨R_O, "allArea", "()I"⟩
abbrev b_O_allArea : ByteArray := prog_5_method_3_code
def y_P_cutStretches : MethodName := ⟨R_P, "cutStretches", "(LHeatShares$House;LHeatShares$Meters;)Z"⟩
abbrev b_P_cutStretches : ByteArray := prog_8_method_6_code
def y_M_endsStretch : MethodName := ⟨R_M, "endsStretch", "(LHeatShares$Flat;II)Z"⟩
abbrev b_M_endsStretch : ByteArray := prog_6_method_8_code
def y_H_hasDegreesOfYear : MethodName := ⟨R_H, "hasDegreesOfYear", "()Z"⟩
abbrev b_H_hasDegreesOfYear : ByteArray := prog_1_method_28_code
def y_H_setBillParts : MethodName := ⟨R_H, "setBillParts", "()V"⟩
abbrev b_H_setBillParts : ByteArray := prog_1_method_29_code
def y_U_burnedCents : MethodName := ⟨R_U, "burnedCents", "()I"⟩
abbrev b_U_burnedCents : ByteArray := prog_4_method_6_code
def y_U_stockCents : MethodName := ⟨R_U, "stockCents", "(I)I"⟩
abbrev b_U_stockCents : ByteArray := prog_4_method_8_code
def y_U_stockUnits : MethodName := ⟨R_U, "stockUnits", "(I)I"⟩
abbrev b_U_stockUnits : ByteArray := prog_4_method_7_code
def y_J_minI : MethodName := ⟨"java/lang/Math", "min", "(II)I"⟩
abbrev b_J_minI : ByteArray := prog_15_method_69_code
def y_J_maxI : MethodName := ⟨"java/lang/Math", "max", "(II)I"⟩
abbrev b_J_maxI : ByteArray := prog_15_method_65_code
def y_H_waterUnits : MethodName := ⟨R_H, "waterUnits", "(I)I"⟩
abbrev b_H_waterUnits : ByteArray := prog_1_method_30_code
def y_H_shareParts : MethodName := ⟨R_H, "shareParts", "(Z)V"⟩
abbrev b_H_shareParts : ByteArray := prog_1_method_31_code
def y_A_clearOwed : MethodName := ⟨R_A, "clearOwed", "()V"⟩
abbrev b_A_clearOwed : ByteArray := prog_2_method_3_code
def y_S_weighByArea : MethodName := ⟨R_S, "weighByArea", "(LHeatShares$House;LHeatShares$Spans;)V"⟩
abbrev b_S_weighByArea : ByteArray := prog_7_method_2_code
def y_P_months : MethodName := ⟨R_P, "months", "(I)I"⟩
abbrev b_P_months : ByteArray := prog_8_method_5_code
def y_S_setWhole : MethodName := ⟨R_S, "setWhole", "(II)V"⟩
abbrev b_S_setWhole : ByteArray := prog_7_method_4_code
def y_H_sharePart : MethodName := ⟨R_H, "sharePart", "(II)V"⟩
abbrev b_H_sharePart : ByteArray := prog_1_method_32_code
def y_S_split : MethodName := ⟨R_S, "split", "(II)V"⟩
abbrev b_S_split : ByteArray := prog_7_method_8_code
def y_S_roundDown : MethodName := ⟨R_S, "roundDown", "(II)V"⟩
abbrev b_S_roundDown : ByteArray := prog_7_method_9_code
def y_S_greatestCutOff : MethodName := ⟨R_S, "greatestCutOff", "(I)I"⟩
abbrev b_S_greatestCutOff : ByteArray := prog_7_method_10_code
def y_O_hasWaterArea : MethodName := ⟨R_O, "hasWaterArea", "()Z"⟩
abbrev b_O_hasWaterArea : ByteArray := prog_5_method_4_code
def y_S_weighByWaterArea : MethodName := ⟨R_S, "weighByWaterArea", "(LHeatShares$House;LHeatShares$Spans;)V"⟩
abbrev b_S_weighByWaterArea : ByteArray := prog_7_method_3_code
def y_S_weighByMeters : MethodName := ⟨R_S, "weighByMeters", "(LHeatShares$House;LHeatShares$Spans;LHeatShares$Meters;[I)V"⟩
abbrev b_S_weighByMeters : ByteArray := prog_7_method_5_code
def y_M_stretchUnits : MethodName := ⟨R_M, "stretchUnits", "(LHeatShares$Flat;III)J"⟩
abbrev b_M_stretchUnits : ByteArray := prog_6_method_9_code
def y_S_addStretch : MethodName := ⟨R_S, "addStretch", "(LHeatShares$Spans;IIIJ[I)V"⟩
abbrev b_S_addStretch : ByteArray := prog_7_method_6_code
def y_S_sumBetween : MethodName := ⟨R_S, "sumBetween", "([III)I"⟩
abbrev b_S_sumBetween : ByteArray := prog_7_method_7_code
def y_L_flat : MethodName := ⟨R_L, "flat", "(LHeatShares;III[J)I"⟩
abbrev b_L_flat : ByteArray := method_3_code
def y_H_flat : MethodName := ⟨R_H, "flat", "(III)I"⟩
abbrev b_H_flat : ByteArray := prog_1_method_2_code
def y_H_isOutside : MethodName := ⟨R_H, "isOutside", "(III)Z"⟩
abbrev b_H_isOutside : ByteArray := prog_1_method_22_code
def y_O_addFlat : MethodName := ⟨R_O, "addFlat", "(III)I"⟩
abbrev b_O_addFlat : ByteArray := prog_5_method_2_code
def y_L_reading : MethodName := ⟨R_L, "reading", "(LHeatShares;III)I"⟩
abbrev b_L_reading : ByteArray := method_4_code
def y_H_reading : MethodName := ⟨R_H, "reading", "(III)V"⟩
abbrev b_H_reading : ByteArray := prog_1_method_3_code
def y_H_needFlat : MethodName := ⟨R_H, "needFlat", "(I)V"⟩
abbrev b_H_needFlat : ByteArray := prog_1_method_23_code
def y_L_enter : MethodName := ⟨R_L, "enter", "(LHeatShares;II[J)I"⟩
abbrev b_L_enter : ByteArray := method_5_code
def y_H_enter : MethodName := ⟨R_H, "enter", "(II)I"⟩
abbrev b_H_enter : ByteArray := prog_1_method_4_code
def y_H_needRoomForChange : MethodName := ⟨R_H, "needRoomForChange", "(II)V"⟩
abbrev b_H_needRoomForChange : ByteArray := prog_1_method_24_code
def y_A_addTenant : MethodName := ⟨R_A, "addTenant", "()I"⟩
abbrev b_A_addTenant : ByteArray := prog_2_method_2_code
def y_L_leave : MethodName := ⟨R_L, "leave", "(LHeatShares;II)I"⟩
abbrev b_L_leave : ByteArray := method_6_code
def y_H_leave : MethodName := ⟨R_H, "leave", "(II)V"⟩
abbrev b_H_leave : ByteArray := prog_1_method_5_code
def y_L_deliver : MethodName := ⟨R_L, "deliver", "(LHeatShares;II)I"⟩
abbrev b_L_deliver : ByteArray := method_7_code
def y_H_deliver : MethodName := ⟨R_H, "deliver", "(II)V"⟩
abbrev b_H_deliver : ByteArray := prog_1_method_6_code
def y_U_addLayer : MethodName := ⟨R_U, "addLayer", "(II)V"⟩
abbrev b_U_addLayer : ByteArray := prog_4_method_2_code
def y_L_endStock : MethodName := ⟨R_L, "endStock", "(LHeatShares;I)I"⟩
abbrev b_L_endStock : ByteArray := method_8_code
def y_H_endStock : MethodName := ⟨R_H, "endStock", "(I)V"⟩
abbrev b_H_endStock : ByteArray := prog_1_method_7_code
def y_L_sideCosts : MethodName := ⟨R_L, "sideCosts", "(LHeatShares;I)I"⟩
abbrev b_L_sideCosts : ByteArray := method_9_code
def y_H_sideCosts : MethodName := ⟨R_H, "sideCosts", "(I)V"⟩
abbrev b_H_sideCosts : ByteArray := prog_1_method_8_code
def y_L_water : MethodName := ⟨R_L, "water", "(LHeatShares;II)I"⟩
abbrev b_L_water : ByteArray := method_10_code
def y_H_water : MethodName := ⟨R_H, "water", "(II)V"⟩
abbrev b_H_water : ByteArray := prog_1_method_9_code
def y_L_permille : MethodName := ⟨R_L, "permille", "(LHeatShares;I)I"⟩
abbrev b_L_permille : ByteArray := method_11_code
def y_H_permille : MethodName := ⟨R_H, "permille", "(I)V"⟩
abbrev b_H_permille : ByteArray := prog_1_method_10_code
def y_L_degrees : MethodName := ⟨R_L, "degrees", "(LHeatShares;II)I"⟩
abbrev b_L_degrees : ByteArray := method_12_code
def y_H_degrees : MethodName := ⟨R_H, "degrees", "(II)V"⟩
abbrev b_H_degrees : ByteArray := prog_1_method_11_code
def y_L_prepay : MethodName := ⟨R_L, "prepay", "(LHeatShares;II)I"⟩
abbrev b_L_prepay : ByteArray := method_13_code
def y_H_prepay : MethodName := ⟨R_H, "prepay", "(II)V"⟩
abbrev b_H_prepay : ByteArray := prog_1_method_12_code
def y_H_needTenant : MethodName := ⟨R_H, "needTenant", "(I)V"⟩
abbrev b_H_needTenant : ByteArray := prog_1_method_25_code
def y_L_amount : MethodName := ⟨R_L, "amount", "(LHeatShares;II[J)I"⟩
abbrev b_L_amount : ByteArray := method_14_code
def y_H_amount : MethodName := ⟨R_H, "amount", "(II)I"⟩
abbrev b_H_amount : ByteArray := prog_1_method_14_code
def y_H_needBill : MethodName := ⟨R_H, "needBill", "()V"⟩
abbrev b_H_needBill : ByteArray := prog_1_method_27_code
def y_H_needTenantOrLandlord : MethodName := ⟨R_H, "needTenantOrLandlord", "(I)V"⟩
abbrev b_H_needTenantOrLandlord : ByteArray := prog_1_method_26_code
def y_A_owedInAll : MethodName := ⟨R_A, "owedInAll", "(I)I"⟩
abbrev b_A_owedInAll : ByteArray := prog_2_method_4_code
def y_L_paid : MethodName := ⟨R_L, "paid", "(LHeatShares;I[J)I"⟩
abbrev b_L_paid : ByteArray := method_15_code
def y_H_paid : MethodName := ⟨R_H, "paid", "(I)I"⟩
abbrev b_H_paid : ByteArray := prog_1_method_15_code
def y_L_part : MethodName := ⟨R_L, "part", "(LHeatShares;I[J)I"⟩
abbrev b_L_part : ByteArray := method_16_code
def y_H_part : MethodName := ⟨R_H, "part", "(I)I"⟩
abbrev b_H_part : ByteArray := prog_1_method_16_code
def y_L_replaced : MethodName := ⟨R_L, "replaced", "(LHeatShares;I[J)I"⟩
abbrev b_L_replaced : ByteArray := method_17_code
def y_H_replaced : MethodName := ⟨R_H, "replaced", "(I)I"⟩
abbrev b_H_replaced : ByteArray := prog_1_method_17_code
def y_L_send : MethodName := ⟨R_L, "send", "(LHeatShares;[J)I"⟩
abbrev b_L_send : ByteArray := method_18_code
def y_H_send : MethodName := ⟨R_H, "send", "()I"⟩
abbrev b_H_send : ByteArray := prog_1_method_18_code
def y_A_post : MethodName := ⟨R_A, "post", "()I"⟩
abbrev b_A_post : ByteArray := prog_2_method_5_code
def y_L_sent : MethodName := ⟨R_L, "sent", "(LHeatShares;I[J)I"⟩
abbrev b_L_sent : ByteArray := method_19_code
def y_H_sent : MethodName := ⟨R_H, "sent", "(I)I"⟩
abbrev b_H_sent : ByteArray := prog_1_method_19_code
def y_L_closeYear : MethodName := ⟨R_L, "closeYear", "(LHeatShares;[J)I"⟩
abbrev b_L_closeYear : ByteArray := method_20_code
def y_H_closeYear : MethodName := ⟨R_H, "closeYear", "()I"⟩
abbrev b_H_closeYear : ByteArray := prog_1_method_20_code
def y_A_startYear : MethodName := ⟨R_A, "startYear", "()V"⟩
abbrev b_A_startYear : ByteArray := prog_2_method_6_code
def y_M_wholeUnits : MethodName := ⟨R_M, "wholeUnits", "(I)I"⟩
abbrev b_M_wholeUnits : ByteArray := prog_6_method_7_code
def y_F_startYear : MethodName := ⟨R_F, "startYear", "(I)V"⟩
abbrev b_F_startYear : ByteArray := prog_3_method_7_code
def y_F_holderAtEnd : MethodName := ⟨R_F, "holderAtEnd", "()I"⟩
abbrev b_F_holderAtEnd : ByteArray := prog_3_method_6_code
def y_U_keepStock : MethodName := ⟨R_U, "keepStock", "()V"⟩
abbrev b_U_keepStock : ByteArray := prog_4_method_9_code
def y_L_known : MethodName := ⟨R_L, "known", "(LHeatShares;I[J)I"⟩
abbrev b_L_known : ByteArray := method_21_code
def y_H_known : MethodName := ⟨R_H, "known", "(I)I"⟩
abbrev b_H_known : ByteArray := prog_1_method_21_code
def y_R_init : MethodName := ⟨R_R, "<init>", "()V"⟩
abbrev b_R_init : ByteArray := prog_10_method_1_code
def y_R_thrown : MethodName := ⟨R_R, "thrown", "()I"⟩
abbrev b_R_thrown : ByteArray := prog_10_method_2_code
def y_R_flat : MethodName := ⟨R_R, "flat", "(III)I"⟩
abbrev b_R_flat : ByteArray := prog_10_method_6_code
def y_R_within : MethodName := ⟨R_R, "within", "(III)Z"⟩
abbrev b_R_within : ByteArray := prog_10_method_3_code
def y_R_reading : MethodName := ⟨R_R, "reading", "(III)V"⟩
abbrev b_R_reading : ByteArray := prog_10_method_7_code
def y_R_isFlat : MethodName := ⟨R_R, "isFlat", "(I)Z"⟩
abbrev b_R_isFlat : ByteArray := prog_10_method_4_code
def y_R_enter : MethodName := ⟨R_R, "enter", "(II)I"⟩
abbrev b_R_enter : ByteArray := prog_10_method_9_code
def y_R_wrongChange : MethodName := ⟨R_R, "wrongChange", "(II)I"⟩
abbrev b_R_wrongChange : ByteArray := prog_10_method_8_code
def y_R_leave : MethodName := ⟨R_R, "leave", "(II)V"⟩
abbrev b_R_leave : ByteArray := prog_10_method_10_code
def y_R_deliver : MethodName := ⟨R_R, "deliver", "(II)V"⟩
abbrev b_R_deliver : ByteArray := prog_10_method_11_code
def y_R_endStock : MethodName := ⟨R_R, "endStock", "(I)V"⟩
abbrev b_R_endStock : ByteArray := prog_10_method_13_code
def y_R_allUnits : MethodName := ⟨R_R, "allUnits", "()I"⟩
abbrev b_R_allUnits : ByteArray := prog_10_method_12_code
def y_R_sideCosts : MethodName := ⟨R_R, "sideCosts", "(I)V"⟩
abbrev b_R_sideCosts : ByteArray := prog_10_method_14_code
def y_R_water : MethodName := ⟨R_R, "water", "(II)V"⟩
abbrev b_R_water : ByteArray := prog_10_method_15_code
def y_R_permille : MethodName := ⟨R_R, "permille", "(I)V"⟩
abbrev b_R_permille : ByteArray := prog_10_method_16_code
def y_R_degrees : MethodName := ⟨R_R, "degrees", "(II)V"⟩
abbrev b_R_degrees : ByteArray := prog_10_method_17_code
def y_R_prepay : MethodName := ⟨R_R, "prepay", "(II)V"⟩
abbrev b_R_prepay : ByteArray := prog_10_method_18_code
def y_R_isTenant : MethodName := ⟨R_R, "isTenant", "(I)Z"⟩
abbrev b_R_isTenant : ByteArray := prog_10_method_5_code
def y_R_paid : MethodName := ⟨R_R, "paid", "(I)I"⟩
abbrev b_R_paid : ByteArray := prog_10_method_19_code
def y_R_replaced : MethodName := ⟨R_R, "replaced", "(I)I"⟩
abbrev b_R_replaced : ByteArray := prog_10_method_24_code
def y_R_look : MethodName := ⟨R_R, "look", "()V"⟩
abbrev b_R_look : ByteArray := prog_10_method_23_code
def y_R_isRead : MethodName := ⟨R_R, "isRead", "(I)Z"⟩
abbrev b_R_isRead : ByteArray := prog_10_method_20_code
def y_R_measured : MethodName := ⟨R_R, "measured", "(I)I"⟩
abbrev b_R_measured : ByteArray := prog_10_method_21_code
def y_R_kindOf : MethodName := ⟨R_R, "kindOf", "(I)I"⟩
abbrev b_R_kindOf : ByteArray := prog_10_method_22_code
def y_R_bill : MethodName := ⟨R_R, "bill", "()I"⟩
abbrev b_R_bill : ByteArray := prog_10_method_42_code
def y_R_isByArea : MethodName := ⟨R_R, "isByArea", "()Z"⟩
abbrev b_R_isByArea : ByteArray := prog_10_method_40_code
def y_R_needsDegrees : MethodName := ⟨R_R, "needsDegrees", "()Z"⟩
abbrev b_R_needsDegrees : ByteArray := prog_10_method_41_code
def y_R_changeAt : MethodName := ⟨R_R, "changeAt", "(II)I"⟩
abbrev b_R_changeAt : ByteArray := prog_10_method_28_code
def y_R_stretchOf : MethodName := ⟨R_R, "stretchOf", "(IIZ)I"⟩
abbrev b_R_stretchOf : ByteArray := prog_10_method_33_code
def y_R_degreesOf : MethodName := ⟨R_R, "degreesOf", "(II)I"⟩
abbrev b_R_degreesOf : ByteArray := prog_10_method_34_code
def y_R_findParts : MethodName := ⟨R_R, "findParts", "()V"⟩
abbrev b_R_findParts : ByteArray := prog_10_method_27_code
def y_R_centsInStock : MethodName := ⟨R_R, "centsInStock", "(I)I"⟩
abbrev b_R_centsInStock : ByteArray := prog_10_method_26_code
def y_R_inStock : MethodName := ⟨R_R, "inStock", "(I)I"⟩
abbrev b_R_inStock : ByteArray := prog_10_method_25_code
def y_R_share : MethodName := ⟨R_R, "share", "(IIZ)V"⟩
abbrev b_R_share : ByteArray := prog_10_method_39_code
def y_R_spansBy : MethodName := ⟨R_R, "spansBy", "(IJII)V"⟩
abbrev b_R_spansBy : ByteArray := prog_10_method_32_code
def y_R_holderAt : MethodName := ⟨R_R, "holderAt", "(II)I"⟩
abbrev b_R_holderAt : ByteArray := prog_10_method_30_code
def y_R_endOf : MethodName := ⟨R_R, "endOf", "(II)I"⟩
abbrev b_R_endOf : ByteArray := prog_10_method_29_code
def y_R_span : MethodName := ⟨R_R, "span", "(IJJ)V"⟩
abbrev b_R_span : ByteArray := prog_10_method_31_code
def y_R_spanByMeter : MethodName := ⟨R_R, "spanByMeter", "(IIIJJ)V"⟩
abbrev b_R_spanByMeter : ByteArray := prog_10_method_36_code
def y_R_weight : MethodName := ⟨R_R, "weight", "(IIII)I"⟩
abbrev b_R_weight : ByteArray := prog_10_method_35_code
def y_R_handOut : MethodName := ⟨R_R, "handOut", "(II)V"⟩
abbrev b_R_handOut : ByteArray := prog_10_method_38_code
def y_R_isMore : MethodName := ⟨R_R, "isMore", "(JJJJ)Z"⟩
abbrev b_R_isMore : ByteArray := prog_10_method_37_code
def y_R_amount : MethodName := ⟨R_R, "amount", "(II)I"⟩
abbrev b_R_amount : ByteArray := prog_10_method_44_code
def y_R_sumOf : MethodName := ⟨R_R, "sumOf", "(I)I"⟩
abbrev b_R_sumOf : ByteArray := prog_10_method_43_code
def y_R_part : MethodName := ⟨R_R, "part", "(I)I"⟩
abbrev b_R_part : ByteArray := prog_10_method_45_code
def y_R_send : MethodName := ⟨R_R, "send", "()I"⟩
abbrev b_R_send : ByteArray := prog_10_method_47_code
def y_R_sendAll : MethodName := ⟨R_R, "sendAll", "()I"⟩
abbrev b_R_sendAll : ByteArray := prog_10_method_46_code
def y_R_sent : MethodName := ⟨R_R, "sent", "(I)I"⟩
abbrev b_R_sent : ByteArray := prog_10_method_48_code
def y_R_closeYear : MethodName := ⟨R_R, "closeYear", "()I"⟩
abbrev b_R_closeYear : ByteArray := prog_10_method_51_code
def y_R_keepStock : MethodName := ⟨R_R, "keepStock", "()V"⟩
abbrev b_R_keepStock : ByteArray := prog_10_method_49_code
def y_R_nextYear : MethodName := ⟨R_R, "nextYear", "(I)V"⟩
abbrev b_R_nextYear : ByteArray := prog_10_method_50_code
def y_R_known : MethodName := ⟨R_R, "known", "(I)I"⟩
abbrev b_R_known : ByteArray := prog_10_method_52_code
/-! The universe: all objects that the law and the two classes make, by tag and number. -/
def cntT (t : Nat) : Nat := match t with
  | 1 => 1
  | 2 => 1
  | 3 => 1
  | 4 => 6
  | 5 => 6
  | 6 => 6
  | 7 => 1
  | 8 => 1
  | 9 => 1
  | 10 => 1
  | 11 => 1
  | 12 => 1
  | 13 => 1
  | 14 => 1
  | 15 => 1
  | 16 => 1
  | 17 => 1
  | 18 => 1
  | 19 => 1
  | 20 => 1
  | 21 => 1
  | 22 => 1
  | 23 => 1
  | 24 => 1
  | 25 => 3
  | 26 => 1
  | 27 => 1
  | 28 => 1
  | 29 => 1
  | 30 => 1
  | 40 => 1
  | 41 => 1
  | 42 => 1
  | 43 => 1
  | 44 => 1
  | 45 => 1
  | 46 => 1
  | 47 => 1
  | 48 => 1
  | 49 => 1
  | 50 => 1
  | 51 => 1
  | 52 => 1
  | 53 => 1
  | 54 => 1
  | 55 => 1
  | 56 => 1
  | 57 => 1
  | 58 => 1
  | 59 => 1
  | 60 => 1
  | 61 => 1
  | 70 => 1
  | _ => 0
def kdT (t : Nat) : Nat := match t with
  | 3 => 4
  | 5 => 1
  | 6 => 1
  | 8 => 1
  | 9 => 1
  | 11 => 1
  | 12 => 2
  | 14 => 1
  | 15 => 1
  | 16 => 1
  | 17 => 1
  | 19 => 1
  | 20 => 2
  | 21 => 2
  | 22 => 2
  | 24 => 5
  | 25 => 1
  | 26 => 1
  | 27 => 1
  | 28 => 1
  | 29 => 1
  | 30 => 1
  | 41 => 1
  | 42 => 1
  | 43 => 1
  | 44 => 1
  | 45 => 1
  | 46 => 1
  | 47 => 1
  | 48 => 1
  | 49 => 1
  | 50 => 1
  | 51 => 1
  | 52 => 1
  | 53 => 1
  | 54 => 1
  | 55 => 1
  | 56 => 2
  | 57 => 1
  | 58 => 2
  | 59 => 2
  | 60 => 1
  | 61 => 3
  | 70 => 2
  | _ => 0
def lnT (t : Nat) : Nat := match t with
  | 3 => 6
  | 5 => 13
  | 6 => 12
  | 8 => 12
  | 9 => 12
  | 11 => 6
  | 12 => 6
  | 14 => 72
  | 15 => 72
  | 16 => 72
  | 17 => 72
  | 19 => 72
  | 20 => 72
  | 21 => 72
  | 22 => 72
  | 24 => 3
  | 25 => 21
  | 26 => 21
  | 27 => 20
  | 28 => 21
  | 29 => 12
  | 30 => 5
  | 41 => 6
  | 42 => 6
  | 43 => 6
  | 44 => 78
  | 45 => 72
  | 46 => 6
  | 47 => 6
  | 48 => 12
  | 49 => 12
  | 50 => 12
  | 51 => 5
  | 52 => 63
  | 53 => 20
  | 54 => 21
  | 55 => 21
  | 56 => 6
  | 57 => 72
  | 58 => 72
  | 59 => 72
  | 60 => 72
  | 61 => 72
  | 70 => 1
  | _ => 0
def clT (t : Nat) : Nat := match t with
  | 1 => 0
  | 2 => 1
  | 4 => 2
  | 7 => 3
  | 10 => 4
  | 13 => 5
  | 18 => 6
  | 23 => 7
  | 40 => 8
  | _ => 9999
def nfT (t : Nat) : Nat := match t with
  | 1 => 13
  | 2 => 2
  | 4 => 7
  | 7 => 4
  | 10 => 8
  | 13 => 5
  | 18 => 5
  | 23 => 5
  | 40 => 38
  | _ => 0
def ftT (t j : Nat) : Nat := match t with
  | 1 => match j with
    | 0 => 2
    | 1 => 2
    | 2 => 2
    | 3 => 2
    | 4 => 2
    | 5 => 2
    | 6 => 2
    | 7 => 2
    | _ => 0
  | 2 => match j with
    | 0 => 2
    | _ => 0
  | 3 => 2
  | 4 => match j with
    | 5 => 2
    | 6 => 2
    | _ => 0
  | 7 => match j with
    | 0 => 2
    | 1 => 2
    | _ => 0
  | 10 => match j with
    | 0 => 2
    | 1 => 2
    | 2 => 1
    | 3 => 1
    | _ => 0
  | 12 => 1
  | 13 => match j with
    | 0 => 2
    | 1 => 2
    | 2 => 2
    | 3 => 2
    | _ => 0
  | 18 => match j with
    | 0 => 2
    | 1 => 2
    | 2 => 2
    | 3 => 2
    | 4 => 1
    | _ => 0
  | 20 => 1
  | 21 => 1
  | 22 => 1
  | 23 => match j with
    | 0 => 2
    | 1 => 2
    | 2 => 2
    | 3 => 2
    | _ => 0
  | 24 => 2
  | 40 => match j with
    | 2 => 2
    | 3 => 2
    | 4 => 2
    | 5 => 2
    | 6 => 2
    | 7 => 2
    | 8 => 2
    | 11 => 2
    | 12 => 2
    | 18 => 2
    | 20 => 2
    | 21 => 2
    | 22 => 2
    | 23 => 2
    | 24 => 2
    | 30 => 1
    | 31 => 2
    | 33 => 2
    | 34 => 2
    | 35 => 2
    | 36 => 2
    | 37 => 2
    | _ => 0
  | 56 => 1
  | 58 => 1
  | 59 => 1
  | 70 => 1
  | _ => 0
def rfT (t i j : Nat) : Nat × Nat := match t with
  | 1 => match j with
    | 0 => (2, 0)
    | 1 => (7, 0)
    | 2 => (10, 0)
    | 3 => (13, 0)
    | 4 => (18, 0)
    | 5 => (23, 0)
    | 6 => (29, 0)
    | 7 => (30, 0)
    | _ => (0, 0)
  | 2 => match j with
    | 0 => (3, 0)
    | _ => (0, 0)
  | 3 => (4, j)
  | 4 => match j with
    | 5 => (5, i)
    | 6 => (6, i)
    | _ => (0, 0)
  | 7 => match j with
    | 0 => (8, 0)
    | 1 => (9, 0)
    | _ => (0, 0)
  | 10 => match j with
    | 0 => (11, 0)
    | 1 => (12, 0)
    | _ => (0, 0)
  | 13 => match j with
    | 0 => (14, 0)
    | 1 => (15, 0)
    | 2 => (16, 0)
    | 3 => (17, 0)
    | _ => (0, 0)
  | 18 => match j with
    | 0 => (19, 0)
    | 1 => (20, 0)
    | 2 => (21, 0)
    | 3 => (22, 0)
    | _ => (0, 0)
  | 23 => match j with
    | 0 => (24, 0)
    | 1 => (26, 0)
    | 2 => (27, 0)
    | 3 => (28, 0)
    | _ => (0, 0)
  | 24 => (25, j)
  | 40 => match j with
    | 2 => (41, 0)
    | 3 => (42, 0)
    | 4 => (43, 0)
    | 5 => (44, 0)
    | 6 => (45, 0)
    | 7 => (46, 0)
    | 8 => (47, 0)
    | 11 => (48, 0)
    | 12 => (49, 0)
    | 18 => (50, 0)
    | 20 => (51, 0)
    | 21 => (52, 0)
    | 22 => (53, 0)
    | 23 => (54, 0)
    | 24 => (55, 0)
    | 31 => (56, 0)
    | 33 => (57, 0)
    | 34 => (58, 0)
    | 35 => (59, 0)
    | 36 => (60, 0)
    | 37 => (61, 0)
    | _ => (0, 0)
  | _ => (0, 0)
/-! The words that every method has at hand: those of the tables that stay true. -/
def GW : List Cond := lw_tbl.filter goodWord
theorem GWgood : ∀ k ∈ GW, (k.onTables && k.keeps) = true ∨ ∃ ty, k = .arrayClass ty := fun _ hk => good_of_word (List.mem_filter.mp hk).2
theorem gwT (i : Nat) {k : Cond} (h : tables_1[i]? = some k) (hg : goodWord k = true) : k ∈ GW := List.mem_filter.mpr ⟨List.mem_append_right _ (List.mem_of_getElem? h), hg⟩
theorem gwS (i : Nat) {k : Cond} (h : (k2_sels lw_privs)[i]? = some k) (hg : goodWord k = true) : k ∈ GW := List.mem_filter.mpr ⟨List.mem_append_left _ (List.mem_of_getElem? h), hg⟩
theorem in_of (ws : List Cond) (ps : List Nat) (h : ws = ps.filterMap (fun i => tables_1[i]?)) (hg : ws.all goodWord = true) : ∀ k ∈ ws, k ∈ GW := fun k hk => by
  have h1 := List.all_eq_true.mp hg k hk
  rw [h] at hk
  obtain ⟨i, -, hi⟩ := List.mem_filterMap.mp hk
  exact gwT i hi h1
set_option maxRecDepth 20000 in
theorem in_H : ∀ k ∈ u_ws R_H T_H 13, k ∈ GW := in_of _ [240, 242, 244, 246, 248, 250, 252, 254, 256, 258, 260, 262, 264] (by decide +kernel) (by decide +kernel)
set_option maxRecDepth 20000 in
theorem in_O : ∀ k ∈ u_ws R_O T_O 2, k ∈ GW := in_of _ [88, 90] (by decide +kernel) (by decide +kernel)
set_option maxRecDepth 20000 in
theorem in_F : ∀ k ∈ u_ws R_F T_F 7, k ∈ GW := in_of _ [63, 65, 67, 69, 71, 73, 75] (by decide +kernel) (by decide +kernel)
set_option maxRecDepth 20000 in
theorem in_U : ∀ k ∈ u_ws R_U T_U 4, k ∈ GW := in_of _ [105, 107, 109, 111] (by decide +kernel) (by decide +kernel)
set_option maxRecDepth 20000 in
theorem in_M : ∀ k ∈ u_ws R_M T_M 8, k ∈ GW := in_of _ [130, 132, 134, 136, 138, 140, 142, 144] (by decide +kernel) (by decide +kernel)
set_option maxRecDepth 20000 in
theorem in_P : ∀ k ∈ u_ws R_P T_P 5, k ∈ GW := in_of _ [165, 167, 169, 171, 173] (by decide +kernel) (by decide +kernel)
set_option maxRecDepth 20000 in
theorem in_S : ∀ k ∈ u_ws R_S T_S 5, k ∈ GW := in_of _ [188, 190, 192, 194, 196] (by decide +kernel) (by decide +kernel)
set_option maxRecDepth 20000 in
theorem in_A : ∀ k ∈ u_ws R_A T_A 5, k ∈ GW := in_of _ [216, 218, 220, 222, 224] (by decide +kernel) (by decide +kernel)
set_option maxRecDepth 20000 in
theorem in_R : ∀ k ∈ u_ws R_R T_R 38, k ∈ GW := in_of _ [827, 829, 831, 833, 835, 837, 839, 841, 843, 845, 847, 849, 851, 853, 855, 857, 859, 861, 863, 865, 867, 869, 871, 873, 875, 877, 879, 881, 883, 885, 887, 889, 891, 893, 895, 897, 899, 901] (by decide +kernel) (by decide +kernel)
def strL : List (String × Nat × String) := [("HeatShares", 81, "area, water area or factor"), ("HeatShares", 91, "six flats"), ("HeatShares", 238, "flat"), ("HeatShares", 104, "time"), ("HeatShares", 107, "value"), ("HeatShares", 246, "a change at that time"), ("HeatShares", 125, "twenty tenants"), ("HeatShares", 134, "units or cents"), ("HeatShares", 139, "twelve layers"), ("HeatShares", 147, "units"), ("HeatShares", 152, "cents"), ("HeatShares", 155, "litres or gap"), ("HeatShares", 157, "permille"), ("HeatShares", 159, "month"), ("HeatShares", 161, "degrees"), ("HeatShares", 249, "tenant"), ("HeatShares", 251, "no bill"), ("HeatShares", 205, "what")]
end
section
/-! What a link says. -/
/-- a field's link: the class own names by index the field j of the objects of tag t -/
def FLk (own : String) (index t j : Nat) : Prop := ∃ (C : String) (T : u_T) (N : Nat), uCl[clT t]? = some (C, T, N) ∧ kdT t = 0 ∧ nfT t = N ∧ j < N ∧ (∀ k ∈ u_ws C T N, k ∈ GW) ∧ (T j).1 = C ∧ Cond.fieldLink own index C (T j).2.1 (T j).2.2.1 ∈ GW
/-- it may be written, and is of type ty -/
def PLk (own : String) (index t j : Nat) (ty : FieldType) : Prop := ∃ (C : String) (T : u_T) (N : Nat) (ty0 : Nat → FieldType), uCl[clT t]? = some (C, T, N) ∧ kdT t = 0 ∧ nfT t = N ∧ j < N ∧ (∀ k ∈ u_ws C T N, k ∈ GW) ∧ (T j).1 = C ∧ Cond.fieldLink own index C (T j).2.1 (T j).2.2.1 ∈ GW ∧
  (∀ k, k < N → parseFieldDescriptor (T k).2.2.1 = some (ty0 k)) ∧ (∀ a, a < N → ∀ b, b < N → a ≠ b → (T a).2.1 ≠ (T b).2.1) ∧ (T j).2.2.2 = false ∧ ty0 j = ty
def codeW (y : MethodName) (cc : ByteArray) (nL : Nat) (ret : Option FieldType) (hs : List (Nat × Nat × Nat × Nat)) : Cond := match hs with
  | [] => .code y cc nL ret
  | _ :: _ => .codeWith y cc nL ret hs
/-- the words of a callee -/
def CLk (own : String) (index : Nat) (y : MethodName) (cY : ByteArray) (nY : Nat) (retY : Option FieldType) (hY : List (Nat × Nat × Nat × Nat)) (n : Nat) : Prop :=
  Cond.methodLink own index y ∈ GW ∧ codeW y cY nY retY hY ∈ GW ∧ Cond.initialized y.cls ∈ GW ∧ y.cls ≠ "java/lang/invoke/MethodHandle" ∧ y.cls ≠ "java/lang/invoke/VarHandle" ∧ (parseMethodDescriptor y.desc).map (fun d => d.parameters.length) = some n
end
section
/-! Links of fields, constants and methods: one row an entry of a constant pool. -/
theorem fl_F_9 : FLk R_F 9 4 0 := ⟨R_F, T_F, 7, rfl, rfl, rfl, by decide, in_F, rfl, gwT 43 (by decide +kernel) (by decide +kernel)⟩
theorem pl_F_9 : PLk R_F 9 4 0 .int := ⟨R_F, T_F, 7, t_F, rfl, rfl, rfl, by decide, in_F, rfl, gwT 43 (by decide +kernel) (by decide +kernel), ok_F, nm_F, rfl, rfl⟩
theorem fl_O_22 : FLk R_O 22 4 0 := ⟨R_F, T_F, 7, rfl, rfl, rfl, by decide, in_F, rfl, gwT 44 (by decide +kernel) (by decide +kernel)⟩
theorem pl_O_22 : PLk R_O 22 4 0 .int := ⟨R_F, T_F, 7, t_F, rfl, rfl, rfl, by decide, in_F, rfl, gwT 44 (by decide +kernel) (by decide +kernel), ok_F, nm_F, rfl, rfl⟩
theorem fl_S_44 : FLk R_S 44 4 0 := ⟨R_F, T_F, 7, rfl, rfl, rfl, by decide, in_F, rfl, gwT 45 (by decide +kernel) (by decide +kernel)⟩
theorem pl_S_44 : PLk R_S 44 4 0 .int := ⟨R_F, T_F, 7, t_F, rfl, rfl, rfl, by decide, in_F, rfl, gwT 45 (by decide +kernel) (by decide +kernel), ok_F, nm_F, rfl, rfl⟩
theorem fl_M_70 : FLk R_M 70 4 0 := ⟨R_F, T_F, 7, rfl, rfl, rfl, by decide, in_F, rfl, gwT 46 (by decide +kernel) (by decide +kernel)⟩
theorem pl_M_70 : PLk R_M 70 4 0 .int := ⟨R_F, T_F, 7, t_F, rfl, rfl, rfl, by decide, in_F, rfl, gwT 46 (by decide +kernel) (by decide +kernel), ok_F, nm_F, rfl, rfl⟩
theorem fl_F_15 : FLk R_F 15 4 1 := ⟨R_F, T_F, 7, rfl, rfl, rfl, by decide, in_F, rfl, gwT 47 (by decide +kernel) (by decide +kernel)⟩
theorem pl_F_15 : PLk R_F 15 4 1 .int := ⟨R_F, T_F, 7, t_F, rfl, rfl, rfl, by decide, in_F, rfl, gwT 47 (by decide +kernel) (by decide +kernel), ok_F, nm_F, rfl, rfl⟩
theorem fl_O_25 : FLk R_O 25 4 1 := ⟨R_F, T_F, 7, rfl, rfl, rfl, by decide, in_F, rfl, gwT 48 (by decide +kernel) (by decide +kernel)⟩
theorem pl_O_25 : PLk R_O 25 4 1 .int := ⟨R_F, T_F, 7, t_F, rfl, rfl, rfl, by decide, in_F, rfl, gwT 48 (by decide +kernel) (by decide +kernel), ok_F, nm_F, rfl, rfl⟩
theorem fl_S_57 : FLk R_S 57 4 1 := ⟨R_F, T_F, 7, rfl, rfl, rfl, by decide, in_F, rfl, gwT 49 (by decide +kernel) (by decide +kernel)⟩
theorem pl_S_57 : PLk R_S 57 4 1 .int := ⟨R_F, T_F, 7, t_F, rfl, rfl, rfl, by decide, in_F, rfl, gwT 49 (by decide +kernel) (by decide +kernel), ok_F, nm_F, rfl, rfl⟩
theorem fl_F_18 : FLk R_F 18 4 2 := ⟨R_F, T_F, 7, rfl, rfl, rfl, by decide, in_F, rfl, gwT 50 (by decide +kernel) (by decide +kernel)⟩
theorem pl_F_18 : PLk R_F 18 4 2 .int := ⟨R_F, T_F, 7, t_F, rfl, rfl, rfl, by decide, in_F, rfl, gwT 50 (by decide +kernel) (by decide +kernel), ok_F, nm_F, rfl, rfl⟩
theorem fl_O_28 : FLk R_O 28 4 2 := ⟨R_F, T_F, 7, rfl, rfl, rfl, by decide, in_F, rfl, gwT 51 (by decide +kernel) (by decide +kernel)⟩
theorem pl_O_28 : PLk R_O 28 4 2 .int := ⟨R_F, T_F, 7, t_F, rfl, rfl, rfl, by decide, in_F, rfl, gwT 51 (by decide +kernel) (by decide +kernel), ok_F, nm_F, rfl, rfl⟩
theorem fl_F_21 : FLk R_F 21 4 3 := ⟨R_F, T_F, 7, rfl, rfl, rfl, by decide, in_F, rfl, gwT 52 (by decide +kernel) (by decide +kernel)⟩
theorem pl_F_21 : PLk R_F 21 4 3 .int := ⟨R_F, T_F, 7, t_F, rfl, rfl, rfl, by decide, in_F, rfl, gwT 52 (by decide +kernel) (by decide +kernel), ok_F, nm_F, rfl, rfl⟩
theorem fl_P_48 : FLk R_P 48 4 3 := ⟨R_F, T_F, 7, rfl, rfl, rfl, by decide, in_F, rfl, gwT 53 (by decide +kernel) (by decide +kernel)⟩
theorem pl_P_48 : PLk R_P 48 4 3 .int := ⟨R_F, T_F, 7, t_F, rfl, rfl, rfl, by decide, in_F, rfl, gwT 53 (by decide +kernel) (by decide +kernel), ok_F, nm_F, rfl, rfl⟩
theorem fl_F_24 : FLk R_F 24 4 4 := ⟨R_F, T_F, 7, rfl, rfl, rfl, by decide, in_F, rfl, gwT 54 (by decide +kernel) (by decide +kernel)⟩
theorem pl_F_24 : PLk R_F 24 4 4 .int := ⟨R_F, T_F, 7, t_F, rfl, rfl, rfl, by decide, in_F, rfl, gwT 54 (by decide +kernel) (by decide +kernel), ok_F, nm_F, rfl, rfl⟩
theorem fl_M_73 : FLk R_M 73 4 4 := ⟨R_F, T_F, 7, rfl, rfl, rfl, by decide, in_F, rfl, gwT 55 (by decide +kernel) (by decide +kernel)⟩
theorem pl_M_73 : PLk R_M 73 4 4 .int := ⟨R_F, T_F, 7, t_F, rfl, rfl, rfl, by decide, in_F, rfl, gwT 55 (by decide +kernel) (by decide +kernel), ok_F, nm_F, rfl, rfl⟩
theorem fl_H_235 : FLk R_H 235 4 4 := ⟨R_F, T_F, 7, rfl, rfl, rfl, by decide, in_F, rfl, gwT 56 (by decide +kernel) (by decide +kernel)⟩
theorem pl_H_235 : PLk R_H 235 4 4 .int := ⟨R_F, T_F, 7, t_F, rfl, rfl, rfl, by decide, in_F, rfl, gwT 56 (by decide +kernel) (by decide +kernel), ok_F, nm_F, rfl, rfl⟩
theorem fl_F_27 : FLk R_F 27 4 5 := ⟨R_F, T_F, 7, rfl, rfl, rfl, by decide, in_F, rfl, gwT 57 (by decide +kernel) (by decide +kernel)⟩
theorem fl_H_113 : FLk R_H 113 4 5 := ⟨R_F, T_F, 7, rfl, rfl, rfl, by decide, in_F, rfl, gwT 58 (by decide +kernel) (by decide +kernel)⟩
theorem fl_M_87 : FLk R_M 87 4 5 := ⟨R_F, T_F, 7, rfl, rfl, rfl, by decide, in_F, rfl, gwT 59 (by decide +kernel) (by decide +kernel)⟩
theorem fl_F_31 : FLk R_F 31 4 6 := ⟨R_F, T_F, 7, rfl, rfl, rfl, by decide, in_F, rfl, gwT 60 (by decide +kernel) (by decide +kernel)⟩
theorem fl_P_45 : FLk R_P 45 4 6 := ⟨R_F, T_F, 7, rfl, rfl, rfl, by decide, in_F, rfl, gwT 61 (by decide +kernel) (by decide +kernel)⟩
theorem fl_H_131 : FLk R_H 131 4 6 := ⟨R_F, T_F, 7, rfl, rfl, rfl, by decide, in_F, rfl, gwT 62 (by decide +kernel) (by decide +kernel)⟩
theorem fl_O_11 : FLk R_O 11 2 0 := ⟨R_O, T_O, 2, rfl, rfl, rfl, by decide, in_O, rfl, gwT 79 (by decide +kernel) (by decide +kernel)⟩
theorem fl_P_31 : FLk R_P 31 2 0 := ⟨R_O, T_O, 2, rfl, rfl, rfl, by decide, in_O, rfl, gwT 80 (by decide +kernel) (by decide +kernel)⟩
theorem fl_S_35 : FLk R_S 35 2 0 := ⟨R_O, T_O, 2, rfl, rfl, rfl, by decide, in_O, rfl, gwT 81 (by decide +kernel) (by decide +kernel)⟩
theorem fl_M_48 : FLk R_M 48 2 0 := ⟨R_O, T_O, 2, rfl, rfl, rfl, by decide, in_O, rfl, gwT 82 (by decide +kernel) (by decide +kernel)⟩
theorem fl_H_109 : FLk R_H 109 2 0 := ⟨R_O, T_O, 2, rfl, rfl, rfl, by decide, in_O, rfl, gwT 83 (by decide +kernel) (by decide +kernel)⟩
theorem fl_O_17 : FLk R_O 17 2 1 := ⟨R_O, T_O, 2, rfl, rfl, rfl, by decide, in_O, rfl, gwT 84 (by decide +kernel) (by decide +kernel)⟩
theorem pl_O_17 : PLk R_O 17 2 1 .int := ⟨R_O, T_O, 2, t_O, rfl, rfl, rfl, by decide, in_O, rfl, gwT 84 (by decide +kernel) (by decide +kernel), ok_O, nm_O, rfl, rfl⟩
theorem fl_P_28 : FLk R_P 28 2 1 := ⟨R_O, T_O, 2, rfl, rfl, rfl, by decide, in_O, rfl, gwT 85 (by decide +kernel) (by decide +kernel)⟩
theorem pl_P_28 : PLk R_P 28 2 1 .int := ⟨R_O, T_O, 2, t_O, rfl, rfl, rfl, by decide, in_O, rfl, gwT 85 (by decide +kernel) (by decide +kernel), ok_O, nm_O, rfl, rfl⟩
theorem fl_H_86 : FLk R_H 86 2 1 := ⟨R_O, T_O, 2, rfl, rfl, rfl, by decide, in_O, rfl, gwT 86 (by decide +kernel) (by decide +kernel)⟩
theorem pl_H_86 : PLk R_H 86 2 1 .int := ⟨R_O, T_O, 2, t_O, rfl, rfl, rfl, by decide, in_O, rfl, gwT 86 (by decide +kernel) (by decide +kernel), ok_O, nm_O, rfl, rfl⟩
theorem fl_M_43 : FLk R_M 43 2 1 := ⟨R_O, T_O, 2, rfl, rfl, rfl, by decide, in_O, rfl, gwT 87 (by decide +kernel) (by decide +kernel)⟩
theorem pl_M_43 : PLk R_M 43 2 1 .int := ⟨R_O, T_O, 2, t_O, rfl, rfl, rfl, by decide, in_O, rfl, gwT 87 (by decide +kernel) (by decide +kernel), ok_O, nm_O, rfl, rfl⟩
theorem fl_U_9 : FLk R_U 9 7 0 := ⟨R_U, T_U, 4, rfl, rfl, rfl, by decide, in_U, rfl, gwT 99 (by decide +kernel) (by decide +kernel)⟩
theorem fl_U_15 : FLk R_U 15 7 1 := ⟨R_U, T_U, 4, rfl, rfl, rfl, by decide, in_U, rfl, gwT 100 (by decide +kernel) (by decide +kernel)⟩
theorem fl_U_18 : FLk R_U 18 7 2 := ⟨R_U, T_U, 4, rfl, rfl, rfl, by decide, in_U, rfl, gwT 101 (by decide +kernel) (by decide +kernel)⟩
theorem pl_U_18 : PLk R_U 18 7 2 .int := ⟨R_U, T_U, 4, t_U, rfl, rfl, rfl, by decide, in_U, rfl, gwT 101 (by decide +kernel) (by decide +kernel), ok_U, nm_U, rfl, rfl⟩
theorem fl_H_136 : FLk R_H 136 7 2 := ⟨R_U, T_U, 4, rfl, rfl, rfl, by decide, in_U, rfl, gwT 102 (by decide +kernel) (by decide +kernel)⟩
theorem pl_H_136 : PLk R_H 136 7 2 .int := ⟨R_U, T_U, 4, t_U, rfl, rfl, rfl, by decide, in_U, rfl, gwT 102 (by decide +kernel) (by decide +kernel), ok_U, nm_U, rfl, rfl⟩
theorem fl_U_22 : FLk R_U 22 7 3 := ⟨R_U, T_U, 4, rfl, rfl, rfl, by decide, in_U, rfl, gwT 103 (by decide +kernel) (by decide +kernel)⟩
theorem pl_U_22 : PLk R_U 22 7 3 .int := ⟨R_U, T_U, 4, t_U, rfl, rfl, rfl, by decide, in_U, rfl, gwT 103 (by decide +kernel) (by decide +kernel), ok_U, nm_U, rfl, rfl⟩
theorem fl_H_149 : FLk R_H 149 7 3 := ⟨R_U, T_U, 4, rfl, rfl, rfl, by decide, in_U, rfl, gwT 104 (by decide +kernel) (by decide +kernel)⟩
theorem pl_H_149 : PLk R_H 149 7 3 .int := ⟨R_U, T_U, 4, t_U, rfl, rfl, rfl, by decide, in_U, rfl, gwT 104 (by decide +kernel) (by decide +kernel), ok_U, nm_U, rfl, rfl⟩
theorem fl_M_9 : FLk R_M 9 10 0 := ⟨R_M, T_M, 8, rfl, rfl, rfl, by decide, in_M, rfl, gwT 120 (by decide +kernel) (by decide +kernel)⟩
theorem fl_H_215 : FLk R_H 215 10 0 := ⟨R_M, T_M, 8, rfl, rfl, rfl, by decide, in_M, rfl, gwT 121 (by decide +kernel) (by decide +kernel)⟩
theorem fl_M_15 : FLk R_M 15 10 1 := ⟨R_M, T_M, 8, rfl, rfl, rfl, by decide, in_M, rfl, gwT 122 (by decide +kernel) (by decide +kernel)⟩
theorem fl_M_19 : FLk R_M 19 10 2 := ⟨R_M, T_M, 8, rfl, rfl, rfl, by decide, in_M, rfl, gwT 123 (by decide +kernel) (by decide +kernel)⟩
theorem pl_M_19 : PLk R_M 19 10 2 .long := ⟨R_M, T_M, 8, t_M, rfl, rfl, rfl, by decide, in_M, rfl, gwT 123 (by decide +kernel) (by decide +kernel), ok_M, nm_M, rfl, rfl⟩
theorem fl_M_23 : FLk R_M 23 10 3 := ⟨R_M, T_M, 8, rfl, rfl, rfl, by decide, in_M, rfl, gwT 124 (by decide +kernel) (by decide +kernel)⟩
theorem pl_M_23 : PLk R_M 23 10 3 .long := ⟨R_M, T_M, 8, t_M, rfl, rfl, rfl, by decide, in_M, rfl, gwT 124 (by decide +kernel) (by decide +kernel), ok_M, nm_M, rfl, rfl⟩
theorem fl_S_60 : FLk R_S 60 10 3 := ⟨R_M, T_M, 8, rfl, rfl, rfl, by decide, in_M, rfl, gwT 125 (by decide +kernel) (by decide +kernel)⟩
theorem pl_S_60 : PLk R_S 60 10 3 .long := ⟨R_M, T_M, 8, t_M, rfl, rfl, rfl, by decide, in_M, rfl, gwT 125 (by decide +kernel) (by decide +kernel), ok_M, nm_M, rfl, rfl⟩
theorem fl_M_26 : FLk R_M 26 10 4 := ⟨R_M, T_M, 8, rfl, rfl, rfl, by decide, in_M, rfl, gwT 126 (by decide +kernel) (by decide +kernel)⟩
theorem pl_M_26 : PLk R_M 26 10 4 .int := ⟨R_M, T_M, 8, t_M, rfl, rfl, rfl, by decide, in_M, rfl, gwT 126 (by decide +kernel) (by decide +kernel), ok_M, nm_M, rfl, rfl⟩
theorem fl_M_30 : FLk R_M 30 10 5 := ⟨R_M, T_M, 8, rfl, rfl, rfl, by decide, in_M, rfl, gwT 127 (by decide +kernel) (by decide +kernel)⟩
theorem pl_M_30 : PLk R_M 30 10 5 .int := ⟨R_M, T_M, 8, t_M, rfl, rfl, rfl, by decide, in_M, rfl, gwT 127 (by decide +kernel) (by decide +kernel), ok_M, nm_M, rfl, rfl⟩
theorem fl_M_33 : FLk R_M 33 10 6 := ⟨R_M, T_M, 8, rfl, rfl, rfl, by decide, in_M, rfl, gwT 128 (by decide +kernel) (by decide +kernel)⟩
theorem pl_M_33 : PLk R_M 33 10 6 .int := ⟨R_M, T_M, 8, t_M, rfl, rfl, rfl, by decide, in_M, rfl, gwT 128 (by decide +kernel) (by decide +kernel), ok_M, nm_M, rfl, rfl⟩
theorem fl_M_36 : FLk R_M 36 10 7 := ⟨R_M, T_M, 8, rfl, rfl, rfl, by decide, in_M, rfl, gwT 129 (by decide +kernel) (by decide +kernel)⟩
theorem pl_M_36 : PLk R_M 36 10 7 .int := ⟨R_M, T_M, 8, t_M, rfl, rfl, rfl, by decide, in_M, rfl, gwT 129 (by decide +kernel) (by decide +kernel), ok_M, nm_M, rfl, rfl⟩
theorem fl_P_9 : FLk R_P 9 13 0 := ⟨R_P, T_P, 5, rfl, rfl, rfl, by decide, in_P, rfl, gwT 154 (by decide +kernel) (by decide +kernel)⟩
theorem fl_S_41 : FLk R_S 41 13 0 := ⟨R_P, T_P, 5, rfl, rfl, rfl, by decide, in_P, rfl, gwT 155 (by decide +kernel) (by decide +kernel)⟩
theorem fl_P_15 : FLk R_P 15 13 1 := ⟨R_P, T_P, 5, rfl, rfl, rfl, by decide, in_P, rfl, gwT 156 (by decide +kernel) (by decide +kernel)⟩
theorem fl_S_77 : FLk R_S 77 13 1 := ⟨R_P, T_P, 5, rfl, rfl, rfl, by decide, in_P, rfl, gwT 157 (by decide +kernel) (by decide +kernel)⟩
theorem fl_P_18 : FLk R_P 18 13 2 := ⟨R_P, T_P, 5, rfl, rfl, rfl, by decide, in_P, rfl, gwT 158 (by decide +kernel) (by decide +kernel)⟩
theorem fl_S_86 : FLk R_S 86 13 2 := ⟨R_P, T_P, 5, rfl, rfl, rfl, by decide, in_P, rfl, gwT 159 (by decide +kernel) (by decide +kernel)⟩
theorem fl_P_21 : FLk R_P 21 13 3 := ⟨R_P, T_P, 5, rfl, rfl, rfl, by decide, in_P, rfl, gwT 160 (by decide +kernel) (by decide +kernel)⟩
theorem fl_H_298 : FLk R_H 298 13 3 := ⟨R_P, T_P, 5, rfl, rfl, rfl, by decide, in_P, rfl, gwT 161 (by decide +kernel) (by decide +kernel)⟩
theorem fl_P_24 : FLk R_P 24 13 4 := ⟨R_P, T_P, 5, rfl, rfl, rfl, by decide, in_P, rfl, gwT 162 (by decide +kernel) (by decide +kernel)⟩
theorem pl_P_24 : PLk R_P 24 13 4 .int := ⟨R_P, T_P, 5, t_P, rfl, rfl, rfl, by decide, in_P, rfl, gwT 162 (by decide +kernel) (by decide +kernel), ok_P, nm_P, rfl, rfl⟩
theorem fl_S_29 : FLk R_S 29 13 4 := ⟨R_P, T_P, 5, rfl, rfl, rfl, by decide, in_P, rfl, gwT 163 (by decide +kernel) (by decide +kernel)⟩
theorem pl_S_29 : PLk R_S 29 13 4 .int := ⟨R_P, T_P, 5, t_P, rfl, rfl, rfl, by decide, in_P, rfl, gwT 163 (by decide +kernel) (by decide +kernel), ok_P, nm_P, rfl, rfl⟩
theorem fl_H_294 : FLk R_H 294 13 4 := ⟨R_P, T_P, 5, rfl, rfl, rfl, by decide, in_P, rfl, gwT 164 (by decide +kernel) (by decide +kernel)⟩
theorem pl_H_294 : PLk R_H 294 13 4 .int := ⟨R_P, T_P, 5, t_P, rfl, rfl, rfl, by decide, in_P, rfl, gwT 164 (by decide +kernel) (by decide +kernel), ok_P, nm_P, rfl, rfl⟩
theorem fl_S_9 : FLk R_S 9 18 0 := ⟨R_S, T_S, 5, rfl, rfl, rfl, by decide, in_S, rfl, gwT 182 (by decide +kernel) (by decide +kernel)⟩
theorem fl_H_301 : FLk R_H 301 18 0 := ⟨R_S, T_S, 5, rfl, rfl, rfl, by decide, in_S, rfl, gwT 183 (by decide +kernel) (by decide +kernel)⟩
theorem fl_S_15 : FLk R_S 15 18 1 := ⟨R_S, T_S, 5, rfl, rfl, rfl, by decide, in_S, rfl, gwT 184 (by decide +kernel) (by decide +kernel)⟩
theorem fl_S_19 : FLk R_S 19 18 2 := ⟨R_S, T_S, 5, rfl, rfl, rfl, by decide, in_S, rfl, gwT 185 (by decide +kernel) (by decide +kernel)⟩
theorem fl_S_22 : FLk R_S 22 18 3 := ⟨R_S, T_S, 5, rfl, rfl, rfl, by decide, in_S, rfl, gwT 186 (by decide +kernel) (by decide +kernel)⟩
theorem fl_S_25 : FLk R_S 25 18 4 := ⟨R_S, T_S, 5, rfl, rfl, rfl, by decide, in_S, rfl, gwT 187 (by decide +kernel) (by decide +kernel)⟩
theorem pl_S_25 : PLk R_S 25 18 4 .long := ⟨R_S, T_S, 5, t_S, rfl, rfl, rfl, by decide, in_S, rfl, gwT 187 (by decide +kernel) (by decide +kernel), ok_S, nm_S, rfl, rfl⟩
theorem fl_A_11 : FLk R_A 11 23 0 := ⟨R_A, T_A, 5, rfl, rfl, rfl, by decide, in_A, rfl, gwT 207 (by decide +kernel) (by decide +kernel)⟩
theorem fl_H_211 : FLk R_H 211 23 0 := ⟨R_A, T_A, 5, rfl, rfl, rfl, by decide, in_A, rfl, gwT 208 (by decide +kernel) (by decide +kernel)⟩
theorem fl_A_16 : FLk R_A 16 23 1 := ⟨R_A, T_A, 5, rfl, rfl, rfl, by decide, in_A, rfl, gwT 209 (by decide +kernel) (by decide +kernel)⟩
theorem fl_H_221 : FLk R_H 221 23 1 := ⟨R_A, T_A, 5, rfl, rfl, rfl, by decide, in_A, rfl, gwT 210 (by decide +kernel) (by decide +kernel)⟩
theorem fl_A_20 : FLk R_A 20 23 2 := ⟨R_A, T_A, 5, rfl, rfl, rfl, by decide, in_A, rfl, gwT 211 (by decide +kernel) (by decide +kernel)⟩
theorem fl_H_166 : FLk R_H 166 23 2 := ⟨R_A, T_A, 5, rfl, rfl, rfl, by decide, in_A, rfl, gwT 212 (by decide +kernel) (by decide +kernel)⟩
theorem fl_A_23 : FLk R_A 23 23 3 := ⟨R_A, T_A, 5, rfl, rfl, rfl, by decide, in_A, rfl, gwT 213 (by decide +kernel) (by decide +kernel)⟩
theorem fl_A_26 : FLk R_A 26 23 4 := ⟨R_A, T_A, 5, rfl, rfl, rfl, by decide, in_A, rfl, gwT 214 (by decide +kernel) (by decide +kernel)⟩
theorem pl_A_26 : PLk R_A 26 23 4 .int := ⟨R_A, T_A, 5, t_A, rfl, rfl, rfl, by decide, in_A, rfl, gwT 214 (by decide +kernel) (by decide +kernel), ok_A, nm_A, rfl, rfl⟩
theorem fl_H_122 : FLk R_H 122 23 4 := ⟨R_A, T_A, 5, rfl, rfl, rfl, by decide, in_A, rfl, gwT 215 (by decide +kernel) (by decide +kernel)⟩
theorem pl_H_122 : PLk R_H 122 23 4 .int := ⟨R_A, T_A, 5, t_A, rfl, rfl, rfl, by decide, in_A, rfl, gwT 215 (by decide +kernel) (by decide +kernel), ok_A, nm_A, rfl, rfl⟩
theorem fl_H_12 : FLk R_H 12 1 0 := ⟨R_H, T_H, 13, rfl, rfl, rfl, by decide, in_H, rfl, gwT 227 (by decide +kernel) (by decide +kernel)⟩
theorem fl_H_19 : FLk R_H 19 1 1 := ⟨R_H, T_H, 13, rfl, rfl, rfl, by decide, in_H, rfl, gwT 228 (by decide +kernel) (by decide +kernel)⟩
theorem fl_H_26 : FLk R_H 26 1 2 := ⟨R_H, T_H, 13, rfl, rfl, rfl, by decide, in_H, rfl, gwT 229 (by decide +kernel) (by decide +kernel)⟩
theorem fl_H_33 : FLk R_H 33 1 3 := ⟨R_H, T_H, 13, rfl, rfl, rfl, by decide, in_H, rfl, gwT 230 (by decide +kernel) (by decide +kernel)⟩
theorem fl_H_40 : FLk R_H 40 1 4 := ⟨R_H, T_H, 13, rfl, rfl, rfl, by decide, in_H, rfl, gwT 231 (by decide +kernel) (by decide +kernel)⟩
theorem fl_H_47 : FLk R_H 47 1 5 := ⟨R_H, T_H, 13, rfl, rfl, rfl, by decide, in_H, rfl, gwT 232 (by decide +kernel) (by decide +kernel)⟩
theorem fl_H_51 : FLk R_H 51 1 6 := ⟨R_H, T_H, 13, rfl, rfl, rfl, by decide, in_H, rfl, gwT 233 (by decide +kernel) (by decide +kernel)⟩
theorem fl_H_55 : FLk R_H 55 1 7 := ⟨R_H, T_H, 13, rfl, rfl, rfl, by decide, in_H, rfl, gwT 234 (by decide +kernel) (by decide +kernel)⟩
theorem fl_H_58 : FLk R_H 58 1 8 := ⟨R_H, T_H, 13, rfl, rfl, rfl, by decide, in_H, rfl, gwT 235 (by decide +kernel) (by decide +kernel)⟩
theorem pl_H_58 : PLk R_H 58 1 8 .int := ⟨R_H, T_H, 13, t_H, rfl, rfl, rfl, by decide, in_H, rfl, gwT 235 (by decide +kernel) (by decide +kernel), ok_H, nm_H, rfl, rfl⟩
theorem fl_H_62 : FLk R_H 62 1 9 := ⟨R_H, T_H, 13, rfl, rfl, rfl, by decide, in_H, rfl, gwT 236 (by decide +kernel) (by decide +kernel)⟩
theorem pl_H_62 : PLk R_H 62 1 9 .int := ⟨R_H, T_H, 13, t_H, rfl, rfl, rfl, by decide, in_H, rfl, gwT 236 (by decide +kernel) (by decide +kernel), ok_H, nm_H, rfl, rfl⟩
theorem fl_H_65 : FLk R_H 65 1 10 := ⟨R_H, T_H, 13, rfl, rfl, rfl, by decide, in_H, rfl, gwT 237 (by decide +kernel) (by decide +kernel)⟩
theorem pl_H_65 : PLk R_H 65 1 10 .int := ⟨R_H, T_H, 13, t_H, rfl, rfl, rfl, by decide, in_H, rfl, gwT 237 (by decide +kernel) (by decide +kernel), ok_H, nm_H, rfl, rfl⟩
theorem fl_H_68 : FLk R_H 68 1 11 := ⟨R_H, T_H, 13, rfl, rfl, rfl, by decide, in_H, rfl, gwT 238 (by decide +kernel) (by decide +kernel)⟩
theorem pl_H_68 : PLk R_H 68 1 11 .int := ⟨R_H, T_H, 13, t_H, rfl, rfl, rfl, by decide, in_H, rfl, gwT 238 (by decide +kernel) (by decide +kernel), ok_H, nm_H, rfl, rfl⟩
theorem fl_H_71 : FLk R_H 71 1 12 := ⟨R_H, T_H, 13, rfl, rfl, rfl, by decide, in_H, rfl, gwT 239 (by decide +kernel) (by decide +kernel)⟩
theorem pl_H_71 : PLk R_H 71 1 12 .boolean := ⟨R_H, T_H, 13, t_H, rfl, rfl, rfl, by decide, in_H, rfl, gwT 239 (by decide +kernel) (by decide +kernel), ok_H, nm_H, rfl, rfl⟩
theorem k_M_76 : Jvm.Cond.constantLong R_M 76 (Int64.ofInt 200) ∈ GW := gwT 311 (by decide +kernel) (by decide +kernel)
theorem k_H_264 : Jvm.Cond.constantLong R_H 264 (Int64.ofInt 115) ∈ GW := gwT 378 (by decide +kernel) (by decide +kernel)
theorem k_H_266 : Jvm.Cond.constantLong R_H 266 (Int64.ofInt 100000) ∈ GW := gwT 379 (by decide +kernel) (by decide +kernel)
theorem k_H_262 : Jvm.Cond.constantLong R_H 262 (Int64.ofInt 1000) ∈ GW := gwT 381 (by decide +kernel) (by decide +kernel)
theorem k_H_154 : Jvm.Cond.constant R_H 154 (Int32.ofInt 10000000) ∈ GW := gwT 655 (by decide +kernel) (by decide +kernel)
theorem k_H_169 : Jvm.Cond.constant R_H 169 (Int32.ofInt 1000000) ∈ GW := gwT 686 (by decide +kernel) (by decide +kernel)
theorem fl_R_85 : FLk R_R 85 40 0 := ⟨R_R, T_R, 38, rfl, rfl, rfl, by decide, in_R, rfl, gwT 789 (by decide +kernel) (by decide +kernel)⟩
theorem pl_R_85 : PLk R_R 85 40 0 .int := ⟨R_R, T_R, 38, t_R, rfl, rfl, rfl, by decide, in_R, rfl, gwT 789 (by decide +kernel) (by decide +kernel), ok_R, nm_R, rfl, rfl⟩
theorem fl_R_88 : FLk R_R 88 40 1 := ⟨R_R, T_R, 38, rfl, rfl, rfl, by decide, in_R, rfl, gwT 790 (by decide +kernel) (by decide +kernel)⟩
theorem pl_R_88 : PLk R_R 88 40 1 .int := ⟨R_R, T_R, 38, t_R, rfl, rfl, rfl, by decide, in_R, rfl, gwT 790 (by decide +kernel) (by decide +kernel), ok_R, nm_R, rfl, rfl⟩
theorem fl_R_7 : FLk R_R 7 40 2 := ⟨R_R, T_R, 38, rfl, rfl, rfl, by decide, in_R, rfl, gwT 791 (by decide +kernel) (by decide +kernel)⟩
theorem fl_R_13 : FLk R_R 13 40 3 := ⟨R_R, T_R, 38, rfl, rfl, rfl, by decide, in_R, rfl, gwT 792 (by decide +kernel) (by decide +kernel)⟩
theorem fl_R_16 : FLk R_R 16 40 4 := ⟨R_R, T_R, 38, rfl, rfl, rfl, by decide, in_R, rfl, gwT 793 (by decide +kernel) (by decide +kernel)⟩
theorem fl_R_19 : FLk R_R 19 40 5 := ⟨R_R, T_R, 38, rfl, rfl, rfl, by decide, in_R, rfl, gwT 794 (by decide +kernel) (by decide +kernel)⟩
theorem fl_R_22 : FLk R_R 22 40 6 := ⟨R_R, T_R, 38, rfl, rfl, rfl, by decide, in_R, rfl, gwT 795 (by decide +kernel) (by decide +kernel)⟩
theorem fl_R_25 : FLk R_R 25 40 7 := ⟨R_R, T_R, 38, rfl, rfl, rfl, by decide, in_R, rfl, gwT 796 (by decide +kernel) (by decide +kernel)⟩
theorem fl_R_28 : FLk R_R 28 40 8 := ⟨R_R, T_R, 38, rfl, rfl, rfl, by decide, in_R, rfl, gwT 797 (by decide +kernel) (by decide +kernel)⟩
theorem fl_R_91 : FLk R_R 91 40 9 := ⟨R_R, T_R, 38, rfl, rfl, rfl, by decide, in_R, rfl, gwT 798 (by decide +kernel) (by decide +kernel)⟩
theorem pl_R_91 : PLk R_R 91 40 9 .int := ⟨R_R, T_R, 38, t_R, rfl, rfl, rfl, by decide, in_R, rfl, gwT 798 (by decide +kernel) (by decide +kernel), ok_R, nm_R, rfl, rfl⟩
theorem fl_R_110 : FLk R_R 110 40 10 := ⟨R_R, T_R, 38, rfl, rfl, rfl, by decide, in_R, rfl, gwT 799 (by decide +kernel) (by decide +kernel)⟩
theorem pl_R_110 : PLk R_R 110 40 10 .int := ⟨R_R, T_R, 38, t_R, rfl, rfl, rfl, by decide, in_R, rfl, gwT 799 (by decide +kernel) (by decide +kernel), ok_R, nm_R, rfl, rfl⟩
theorem fl_R_31 : FLk R_R 31 40 11 := ⟨R_R, T_R, 38, rfl, rfl, rfl, by decide, in_R, rfl, gwT 800 (by decide +kernel) (by decide +kernel)⟩
theorem fl_R_34 : FLk R_R 34 40 12 := ⟨R_R, T_R, 38, rfl, rfl, rfl, by decide, in_R, rfl, gwT 801 (by decide +kernel) (by decide +kernel)⟩
theorem fl_R_37 : FLk R_R 37 40 13 := ⟨R_R, T_R, 38, rfl, rfl, rfl, by decide, in_R, rfl, gwT 802 (by decide +kernel) (by decide +kernel)⟩
theorem pl_R_37 : PLk R_R 37 40 13 .int := ⟨R_R, T_R, 38, t_R, rfl, rfl, rfl, by decide, in_R, rfl, gwT 802 (by decide +kernel) (by decide +kernel), ok_R, nm_R, rfl, rfl⟩
theorem fl_R_117 : FLk R_R 117 40 14 := ⟨R_R, T_R, 38, rfl, rfl, rfl, by decide, in_R, rfl, gwT 803 (by decide +kernel) (by decide +kernel)⟩
theorem pl_R_117 : PLk R_R 117 40 14 .int := ⟨R_R, T_R, 38, t_R, rfl, rfl, rfl, by decide, in_R, rfl, gwT 803 (by decide +kernel) (by decide +kernel), ok_R, nm_R, rfl, rfl⟩
theorem fl_R_41 : FLk R_R 41 40 15 := ⟨R_R, T_R, 38, rfl, rfl, rfl, by decide, in_R, rfl, gwT 804 (by decide +kernel) (by decide +kernel)⟩
theorem pl_R_41 : PLk R_R 41 40 15 .int := ⟨R_R, T_R, 38, t_R, rfl, rfl, rfl, by decide, in_R, rfl, gwT 804 (by decide +kernel) (by decide +kernel), ok_R, nm_R, rfl, rfl⟩
theorem fl_R_121 : FLk R_R 121 40 16 := ⟨R_R, T_R, 38, rfl, rfl, rfl, by decide, in_R, rfl, gwT 805 (by decide +kernel) (by decide +kernel)⟩
theorem pl_R_121 : PLk R_R 121 40 16 .int := ⟨R_R, T_R, 38, t_R, rfl, rfl, rfl, by decide, in_R, rfl, gwT 805 (by decide +kernel) (by decide +kernel), ok_R, nm_R, rfl, rfl⟩
theorem fl_R_44 : FLk R_R 44 40 17 := ⟨R_R, T_R, 38, rfl, rfl, rfl, by decide, in_R, rfl, gwT 806 (by decide +kernel) (by decide +kernel)⟩
theorem pl_R_44 : PLk R_R 44 40 17 .int := ⟨R_R, T_R, 38, t_R, rfl, rfl, rfl, by decide, in_R, rfl, gwT 806 (by decide +kernel) (by decide +kernel), ok_R, nm_R, rfl, rfl⟩
theorem fl_R_47 : FLk R_R 47 40 18 := ⟨R_R, T_R, 38, rfl, rfl, rfl, by decide, in_R, rfl, gwT 807 (by decide +kernel) (by decide +kernel)⟩
theorem fl_R_98 : FLk R_R 98 40 19 := ⟨R_R, T_R, 38, rfl, rfl, rfl, by decide, in_R, rfl, gwT 808 (by decide +kernel) (by decide +kernel)⟩
theorem pl_R_98 : PLk R_R 98 40 19 .boolean := ⟨R_R, T_R, 38, t_R, rfl, rfl, rfl, by decide, in_R, rfl, gwT 808 (by decide +kernel) (by decide +kernel), ok_R, nm_R, rfl, rfl⟩
theorem fl_R_50 : FLk R_R 50 40 20 := ⟨R_R, T_R, 38, rfl, rfl, rfl, by decide, in_R, rfl, gwT 809 (by decide +kernel) (by decide +kernel)⟩
theorem fl_R_53 : FLk R_R 53 40 21 := ⟨R_R, T_R, 38, rfl, rfl, rfl, by decide, in_R, rfl, gwT 810 (by decide +kernel) (by decide +kernel)⟩
theorem fl_R_56 : FLk R_R 56 40 22 := ⟨R_R, T_R, 38, rfl, rfl, rfl, by decide, in_R, rfl, gwT 811 (by decide +kernel) (by decide +kernel)⟩
theorem fl_R_59 : FLk R_R 59 40 23 := ⟨R_R, T_R, 38, rfl, rfl, rfl, by decide, in_R, rfl, gwT 812 (by decide +kernel) (by decide +kernel)⟩
theorem fl_R_62 : FLk R_R 62 40 24 := ⟨R_R, T_R, 38, rfl, rfl, rfl, by decide, in_R, rfl, gwT 813 (by decide +kernel) (by decide +kernel)⟩
theorem fl_R_140 : FLk R_R 140 40 25 := ⟨R_R, T_R, 38, rfl, rfl, rfl, by decide, in_R, rfl, gwT 814 (by decide +kernel) (by decide +kernel)⟩
theorem pl_R_140 : PLk R_R 140 40 25 .int := ⟨R_R, T_R, 38, t_R, rfl, rfl, rfl, by decide, in_R, rfl, gwT 814 (by decide +kernel) (by decide +kernel), ok_R, nm_R, rfl, rfl⟩
theorem fl_R_143 : FLk R_R 143 40 26 := ⟨R_R, T_R, 38, rfl, rfl, rfl, by decide, in_R, rfl, gwT 815 (by decide +kernel) (by decide +kernel)⟩
theorem pl_R_143 : PLk R_R 143 40 26 .int := ⟨R_R, T_R, 38, t_R, rfl, rfl, rfl, by decide, in_R, rfl, gwT 815 (by decide +kernel) (by decide +kernel), ok_R, nm_R, rfl, rfl⟩
theorem fl_R_137 : FLk R_R 137 40 27 := ⟨R_R, T_R, 38, rfl, rfl, rfl, by decide, in_R, rfl, gwT 816 (by decide +kernel) (by decide +kernel)⟩
theorem pl_R_137 : PLk R_R 137 40 27 .int := ⟨R_R, T_R, 38, t_R, rfl, rfl, rfl, by decide, in_R, rfl, gwT 816 (by decide +kernel) (by decide +kernel), ok_R, nm_R, rfl, rfl⟩
theorem fl_R_131 : FLk R_R 131 40 28 := ⟨R_R, T_R, 38, rfl, rfl, rfl, by decide, in_R, rfl, gwT 817 (by decide +kernel) (by decide +kernel)⟩
theorem pl_R_131 : PLk R_R 131 40 28 .int := ⟨R_R, T_R, 38, t_R, rfl, rfl, rfl, by decide, in_R, rfl, gwT 817 (by decide +kernel) (by decide +kernel), ok_R, nm_R, rfl, rfl⟩
theorem fl_R_134 : FLk R_R 134 40 29 := ⟨R_R, T_R, 38, rfl, rfl, rfl, by decide, in_R, rfl, gwT 818 (by decide +kernel) (by decide +kernel)⟩
theorem pl_R_134 : PLk R_R 134 40 29 .int := ⟨R_R, T_R, 38, t_R, rfl, rfl, rfl, by decide, in_R, rfl, gwT 818 (by decide +kernel) (by decide +kernel), ok_R, nm_R, rfl, rfl⟩
theorem fl_R_150 : FLk R_R 150 40 30 := ⟨R_R, T_R, 38, rfl, rfl, rfl, by decide, in_R, rfl, gwT 819 (by decide +kernel) (by decide +kernel)⟩
theorem pl_R_150 : PLk R_R 150 40 30 .long := ⟨R_R, T_R, 38, t_R, rfl, rfl, rfl, by decide, in_R, rfl, gwT 819 (by decide +kernel) (by decide +kernel), ok_R, nm_R, rfl, rfl⟩
theorem fl_R_65 : FLk R_R 65 40 31 := ⟨R_R, T_R, 38, rfl, rfl, rfl, by decide, in_R, rfl, gwT 820 (by decide +kernel) (by decide +kernel)⟩
theorem fl_R_177 : FLk R_R 177 40 32 := ⟨R_R, T_R, 38, rfl, rfl, rfl, by decide, in_R, rfl, gwT 821 (by decide +kernel) (by decide +kernel)⟩
theorem pl_R_177 : PLk R_R 177 40 32 .int := ⟨R_R, T_R, 38, t_R, rfl, rfl, rfl, by decide, in_R, rfl, gwT 821 (by decide +kernel) (by decide +kernel), ok_R, nm_R, rfl, rfl⟩
theorem fl_R_69 : FLk R_R 69 40 33 := ⟨R_R, T_R, 38, rfl, rfl, rfl, by decide, in_R, rfl, gwT 822 (by decide +kernel) (by decide +kernel)⟩
theorem fl_R_72 : FLk R_R 72 40 34 := ⟨R_R, T_R, 38, rfl, rfl, rfl, by decide, in_R, rfl, gwT 823 (by decide +kernel) (by decide +kernel)⟩
theorem fl_R_75 : FLk R_R 75 40 35 := ⟨R_R, T_R, 38, rfl, rfl, rfl, by decide, in_R, rfl, gwT 824 (by decide +kernel) (by decide +kernel)⟩
theorem fl_R_78 : FLk R_R 78 40 36 := ⟨R_R, T_R, 38, rfl, rfl, rfl, by decide, in_R, rfl, gwT 825 (by decide +kernel) (by decide +kernel)⟩
theorem fl_R_81 : FLk R_R 81 40 37 := ⟨R_R, T_R, 38, rfl, rfl, rfl, by decide, in_R, rfl, gwT 826 (by decide +kernel) (by decide +kernel)⟩
theorem k_R_120 : Jvm.Cond.constant R_R 120 (Int32.ofInt 10000000) ∈ GW := gwT 956 (by decide +kernel) (by decide +kernel)
theorem k_R_127 : Jvm.Cond.constant R_R 127 (Int32.ofInt 1000000) ∈ GW := gwT 973 (by decide +kernel) (by decide +kernel)
theorem k_R_157 : Jvm.Cond.constantLong R_R 157 (Int64.ofInt 200) ∈ GW := gwT 998 (by decide +kernel) (by decide +kernel)
theorem k_R_168 : Jvm.Cond.constantLong R_R 168 (Int64.ofInt 115) ∈ GW := gwT 1035 (by decide +kernel) (by decide +kernel)
theorem k_R_170 : Jvm.Cond.constantLong R_R 170 (Int64.ofInt 100000) ∈ GW := gwT 1036 (by decide +kernel) (by decide +kernel)
theorem k_R_172 : Jvm.Cond.constantLong R_R 172 (Int64.ofInt 1000) ∈ GW := gwT 1037 (by decide +kernel) (by decide +kernel)
theorem k_R_186 : Jvm.Cond.constantLong R_R 186 (Int64.ofInt 12) ∈ GW := gwT 1054 (by decide +kernel) (by decide +kernel)
theorem cl_L_81 : CLk R_L 81 y_H_init b_H_init 1 none [] 0 := ⟨gwT 21 (by decide +kernel) (by decide +kernel), gwT 23 (by decide +kernel) (by decide +kernel), gwT 1 (by decide +kernel) (by decide +kernel), by decide +kernel, by decide +kernel, by decide +kernel⟩
theorem cl_H_11 : CLk R_H 11 y_O_init b_O_init 2 none [] 0 := ⟨gwT 29 (by decide +kernel) (by decide +kernel), gwT 31 (by decide +kernel) (by decide +kernel), gwT 2 (by decide +kernel) (by decide +kernel), by decide +kernel, by decide +kernel, by decide +kernel⟩
theorem cl_O_21 : CLk R_O 21 y_F_init b_F_init 1 none [] 0 := ⟨gwT 36 (by decide +kernel) (by decide +kernel), gwT 38 (by decide +kernel) (by decide +kernel), gwT 3 (by decide +kernel) (by decide +kernel), by decide +kernel, by decide +kernel, by decide +kernel⟩
theorem cl_F_34 : CLk R_F 34 y_J_fill b_J_fill 4 none [] 2 := ⟨gwT 40 (by decide +kernel) (by decide +kernel), gwT 42 (by decide +kernel) (by decide +kernel), gwT 4 (by decide +kernel) (by decide +kernel), by decide +kernel, by decide +kernel, by decide +kernel⟩
theorem cl_L_128 : CLk R_L 128 y_H_bill b_H_bill 2 (some (.int)) [] 0 := ⟨gwT 267 (by decide +kernel) (by decide +kernel), gwT 270 (by decide +kernel) (by decide +kernel), gwT 1 (by decide +kernel) (by decide +kernel), by decide +kernel, by decide +kernel, by decide +kernel⟩
theorem cl_H_170 : CLk R_H 170 y_U_isBurned b_U_isBurned 1 (some (.boolean)) [] 0 := ⟨gwT 271 (by decide +kernel) (by decide +kernel), gwT 274 (by decide +kernel) (by decide +kernel), gwT 5 (by decide +kernel) (by decide +kernel), by decide +kernel, by decide +kernel, by decide +kernel⟩
theorem cl_U_25 : CLk R_U 25 y_U_burnedUnits b_U_burnedUnits 1 (some (.int)) [] 0 := ⟨gwT 275 (by decide +kernel) (by decide +kernel), gwT 278 (by decide +kernel) (by decide +kernel), gwT 5 (by decide +kernel) (by decide +kernel), by decide +kernel, by decide +kernel, by decide +kernel⟩
theorem cl_U_29 : CLk R_U 29 y_U_allUnits b_U_allUnits 3 (some (.int)) [] 0 := ⟨gwT 279 (by decide +kernel) (by decide +kernel), gwT 282 (by decide +kernel) (by decide +kernel), gwT 5 (by decide +kernel) (by decide +kernel), by decide +kernel, by decide +kernel, by decide +kernel⟩
theorem cl_H_174 : CLk R_H 174 y_M_look b_M_look 8 none [] 1 := ⟨gwT 283 (by decide +kernel) (by decide +kernel), gwT 286 (by decide +kernel) (by decide +kernel), gwT 6 (by decide +kernel) (by decide +kernel), by decide +kernel, by decide +kernel, by decide +kernel⟩
theorem cl_M_39 : CLk R_M 39 y_M_sumRead b_M_sumRead 4 none [] 1 := ⟨gwT 287 (by decide +kernel) (by decide +kernel), gwT 290 (by decide +kernel) (by decide +kernel), gwT 6 (by decide +kernel) (by decide +kernel), by decide +kernel, by decide +kernel, by decide +kernel⟩
theorem cl_M_60 : CLk R_M 60 y_F_isMeterRead b_F_isMeterRead 3 (some (.boolean)) [] 0 := ⟨gwT 291 (by decide +kernel) (by decide +kernel), gwT 294 (by decide +kernel) (by decide +kernel), gwT 3 (by decide +kernel) (by decide +kernel), by decide +kernel, by decide +kernel, by decide +kernel⟩
theorem cl_M_66 : CLk R_M 66 y_F_unitsOfYear b_F_unitsOfYear 1 (some (.int)) [] 0 := ⟨gwT 295 (by decide +kernel) (by decide +kernel), gwT 298 (by decide +kernel) (by decide +kernel), gwT 3 (by decide +kernel) (by decide +kernel), by decide +kernel, by decide +kernel, by decide +kernel⟩
theorem cl_F_40 : CLk R_F 40 y_F_unitsBetween b_F_unitsBetween 3 (some (.int)) [] 2 := ⟨gwT 299 (by decide +kernel) (by decide +kernel), gwT 302 (by decide +kernel) (by decide +kernel), gwT 3 (by decide +kernel) (by decide +kernel), by decide +kernel, by decide +kernel, by decide +kernel⟩
theorem cl_M_52 : CLk R_M 52 y_M_kindOf b_M_kindOf 2 (some (.int)) [] 1 := ⟨gwT 303 (by decide +kernel) (by decide +kernel), gwT 306 (by decide +kernel) (by decide +kernel), gwT 6 (by decide +kernel) (by decide +kernel), by decide +kernel, by decide +kernel, by decide +kernel⟩
theorem cl_M_56 : CLk R_M 56 y_M_scaledUnits b_M_scaledUnits 9 (some (.long)) [] 4 := ⟨gwT 307 (by decide +kernel) (by decide +kernel), gwT 310 (by decide +kernel) (by decide +kernel), gwT 6 (by decide +kernel) (by decide +kernel), by decide +kernel, by decide +kernel, by decide +kernel⟩
theorem cl_M_78 : CLk R_M 78 y_J_minJ b_J_minJ 4 (some (.long)) [] 2 := ⟨gwT 312 (by decide +kernel) (by decide +kernel), gwT 314 (by decide +kernel) (by decide +kernel), gwT 18 (by decide +kernel) (by decide +kernel), by decide +kernel, by decide +kernel, by decide +kernel⟩
theorem cl_H_178 : CLk R_H 178 y_P_lay b_P_lay 3 none [] 1 := ⟨gwT 315 (by decide +kernel) (by decide +kernel), gwT 318 (by decide +kernel) (by decide +kernel), gwT 7 (by decide +kernel) (by decide +kernel), by decide +kernel, by decide +kernel, by decide +kernel⟩
theorem cl_P_35 : CLk R_P 35 y_P_layFlat b_P_layFlat 6 none [] 2 := ⟨gwT 319 (by decide +kernel) (by decide +kernel), gwT 322 (by decide +kernel) (by decide +kernel), gwT 7 (by decide +kernel) (by decide +kernel), by decide +kernel, by decide +kernel, by decide +kernel⟩
theorem cl_P_39 : CLk R_P 39 y_F_hasChange b_F_hasChange 2 (some (.boolean)) [] 1 := ⟨gwT 323 (by decide +kernel) (by decide +kernel), gwT 326 (by decide +kernel) (by decide +kernel), gwT 3 (by decide +kernel) (by decide +kernel), by decide +kernel, by decide +kernel, by decide +kernel⟩
theorem cl_P_51 : CLk R_P 51 y_P_addSpan b_P_addSpan 5 none [] 4 := ⟨gwT 327 (by decide +kernel) (by decide +kernel), gwT 330 (by decide +kernel) (by decide +kernel), gwT 7 (by decide +kernel) (by decide +kernel), by decide +kernel, by decide +kernel, by decide +kernel⟩
theorem cl_H_181 : CLk R_H 181 y_M_areFitFor b_M_areFitFor 4 (some (.boolean)) [] 1 := ⟨gwT 331 (by decide +kernel) (by decide +kernel), gwT 334 (by decide +kernel) (by decide +kernel), gwT 6 (by decide +kernel) (by decide +kernel), by decide +kernel, by decide +kernel, by decide +kernel⟩
theorem cl_M_84 : CLk R_M 84 y_O_allArea b_O_allArea 3 (some (.int)) [] 0 := ⟨gwT 335 (by decide +kernel) (by decide +kernel), gwT 338 (by decide +kernel) (by decide +kernel), gwT 2 (by decide +kernel) (by decide +kernel), by decide +kernel, by decide +kernel, by decide +kernel⟩
theorem cl_H_185 : CLk R_H 185 y_P_cutStretches b_P_cutStretches 5 (some (.boolean)) [] 2 := ⟨gwT 339 (by decide +kernel) (by decide +kernel), gwT 342 (by decide +kernel) (by decide +kernel), gwT 7 (by decide +kernel) (by decide +kernel), by decide +kernel, by decide +kernel, by decide +kernel⟩
theorem cl_P_55 : CLk R_P 55 y_M_endsStretch b_M_endsStretch 4 (some (.boolean)) [] 3 := ⟨gwT 343 (by decide +kernel) (by decide +kernel), gwT 346 (by decide +kernel) (by decide +kernel), gwT 6 (by decide +kernel) (by decide +kernel), by decide +kernel, by decide +kernel, by decide +kernel⟩
theorem cl_H_189 : CLk R_H 189 y_H_hasDegreesOfYear b_H_hasDegreesOfYear 3 (some (.boolean)) [] 0 := ⟨gwT 347 (by decide +kernel) (by decide +kernel), gwT 350 (by decide +kernel) (by decide +kernel), gwT 1 (by decide +kernel) (by decide +kernel), by decide +kernel, by decide +kernel, by decide +kernel⟩
theorem cl_H_192 : CLk R_H 192 y_H_setBillParts b_H_setBillParts 5 none [] 0 := ⟨gwT 351 (by decide +kernel) (by decide +kernel), gwT 354 (by decide +kernel) (by decide +kernel), gwT 1 (by decide +kernel) (by decide +kernel), by decide +kernel, by decide +kernel, by decide +kernel⟩
theorem cl_H_253 : CLk R_H 253 y_U_burnedUnits b_U_burnedUnits 1 (some (.int)) [] 0 := ⟨gwT 355 (by decide +kernel) (by decide +kernel), gwT 278 (by decide +kernel) (by decide +kernel), gwT 5 (by decide +kernel) (by decide +kernel), by decide +kernel, by decide +kernel, by decide +kernel⟩
theorem cl_H_256 : CLk R_H 256 y_U_burnedCents b_U_burnedCents 3 (some (.int)) [] 0 := ⟨gwT 356 (by decide +kernel) (by decide +kernel), gwT 359 (by decide +kernel) (by decide +kernel), gwT 5 (by decide +kernel) (by decide +kernel), by decide +kernel, by decide +kernel, by decide +kernel⟩
theorem cl_U_32 : CLk R_U 32 y_U_stockCents b_U_stockCents 3 (some (.int)) [] 1 := ⟨gwT 360 (by decide +kernel) (by decide +kernel), gwT 363 (by decide +kernel) (by decide +kernel), gwT 5 (by decide +kernel) (by decide +kernel), by decide +kernel, by decide +kernel, by decide +kernel⟩
theorem cl_U_45 : CLk R_U 45 y_U_stockUnits b_U_stockUnits 4 (some (.int)) [] 1 := ⟨gwT 364 (by decide +kernel) (by decide +kernel), gwT 367 (by decide +kernel) (by decide +kernel), gwT 5 (by decide +kernel) (by decide +kernel), by decide +kernel, by decide +kernel, by decide +kernel⟩
theorem cl_U_36 : CLk R_U 36 y_J_minI b_J_minI 2 (some (.int)) [] 2 := ⟨gwT 368 (by decide +kernel) (by decide +kernel), gwT 370 (by decide +kernel) (by decide +kernel), gwT 18 (by decide +kernel) (by decide +kernel), by decide +kernel, by decide +kernel, by decide +kernel⟩
theorem cl_U_42 : CLk R_U 42 y_J_maxI b_J_maxI 2 (some (.int)) [] 2 := ⟨gwT 371 (by decide +kernel) (by decide +kernel), gwT 373 (by decide +kernel) (by decide +kernel), gwT 18 (by decide +kernel) (by decide +kernel), by decide +kernel, by decide +kernel, by decide +kernel⟩
theorem cl_H_259 : CLk R_H 259 y_H_waterUnits b_H_waterUnits 4 (some (.int)) [] 1 := ⟨gwT 374 (by decide +kernel) (by decide +kernel), gwT 377 (by decide +kernel) (by decide +kernel), gwT 1 (by decide +kernel) (by decide +kernel), by decide +kernel, by decide +kernel, by decide +kernel⟩
theorem cl_H_268 : CLk R_H 268 y_J_minJ b_J_minJ 4 (some (.long)) [] 2 := ⟨gwT 380 (by decide +kernel) (by decide +kernel), gwT 314 (by decide +kernel) (by decide +kernel), gwT 18 (by decide +kernel) (by decide +kernel), by decide +kernel, by decide +kernel, by decide +kernel⟩
theorem cl_H_195 : CLk R_H 195 y_H_shareParts b_H_shareParts 2 none [] 1 := ⟨gwT 382 (by decide +kernel) (by decide +kernel), gwT 385 (by decide +kernel) (by decide +kernel), gwT 1 (by decide +kernel) (by decide +kernel), by decide +kernel, by decide +kernel, by decide +kernel⟩
theorem cl_H_274 : CLk R_H 274 y_A_clearOwed b_A_clearOwed 2 none [] 0 := ⟨gwT 386 (by decide +kernel) (by decide +kernel), gwT 389 (by decide +kernel) (by decide +kernel), gwT 9 (by decide +kernel) (by decide +kernel), by decide +kernel, by decide +kernel, by decide +kernel⟩
theorem cl_A_30 : CLk R_A 30 y_J_fill b_J_fill 4 none [] 2 := ⟨gwT 390 (by decide +kernel) (by decide +kernel), gwT 42 (by decide +kernel) (by decide +kernel), gwT 4 (by decide +kernel) (by decide +kernel), by decide +kernel, by decide +kernel, by decide +kernel⟩
theorem cl_H_277 : CLk R_H 277 y_S_weighByArea b_S_weighByArea 4 none [] 2 := ⟨gwT 391 (by decide +kernel) (by decide +kernel), gwT 394 (by decide +kernel) (by decide +kernel), gwT 8 (by decide +kernel) (by decide +kernel), by decide +kernel, by decide +kernel, by decide +kernel⟩
theorem cl_S_49 : CLk R_S 49 y_P_months b_P_months 2 (some (.int)) [] 1 := ⟨gwT 395 (by decide +kernel) (by decide +kernel), gwT 398 (by decide +kernel) (by decide +kernel), gwT 7 (by decide +kernel) (by decide +kernel), by decide +kernel, by decide +kernel, by decide +kernel⟩
theorem cl_S_53 : CLk R_S 53 y_S_setWhole b_S_setWhole 3 none [] 2 := ⟨gwT 399 (by decide +kernel) (by decide +kernel), gwT 402 (by decide +kernel) (by decide +kernel), gwT 8 (by decide +kernel) (by decide +kernel), by decide +kernel, by decide +kernel, by decide +kernel⟩
theorem cl_H_281 : CLk R_H 281 y_H_sharePart b_H_sharePart 4 none [] 2 := ⟨gwT 403 (by decide +kernel) (by decide +kernel), gwT 406 (by decide +kernel) (by decide +kernel), gwT 1 (by decide +kernel) (by decide +kernel), by decide +kernel, by decide +kernel, by decide +kernel⟩
theorem cl_H_295 : CLk R_H 295 y_S_split b_S_split 6 none [] 2 := ⟨gwT 407 (by decide +kernel) (by decide +kernel), gwT 410 (by decide +kernel) (by decide +kernel), gwT 8 (by decide +kernel) (by decide +kernel), by decide +kernel, by decide +kernel, by decide +kernel⟩
theorem cl_S_96 : CLk R_S 96 y_S_roundDown b_S_roundDown 7 none [] 2 := ⟨gwT 411 (by decide +kernel) (by decide +kernel), gwT 414 (by decide +kernel) (by decide +kernel), gwT 8 (by decide +kernel) (by decide +kernel), by decide +kernel, by decide +kernel, by decide +kernel⟩
theorem cl_S_99 : CLk R_S 99 y_S_greatestCutOff b_S_greatestCutOff 4 (some (.int)) [] 1 := ⟨gwT 415 (by decide +kernel) (by decide +kernel), gwT 418 (by decide +kernel) (by decide +kernel), gwT 8 (by decide +kernel) (by decide +kernel), by decide +kernel, by decide +kernel, by decide +kernel⟩
theorem cl_H_284 : CLk R_H 284 y_O_hasWaterArea b_O_hasWaterArea 2 (some (.boolean)) [] 0 := ⟨gwT 419 (by decide +kernel) (by decide +kernel), gwT 422 (by decide +kernel) (by decide +kernel), gwT 2 (by decide +kernel) (by decide +kernel), by decide +kernel, by decide +kernel, by decide +kernel⟩
theorem cl_H_287 : CLk R_H 287 y_S_weighByWaterArea b_S_weighByWaterArea 4 none [] 2 := ⟨gwT 423 (by decide +kernel) (by decide +kernel), gwT 426 (by decide +kernel) (by decide +kernel), gwT 8 (by decide +kernel) (by decide +kernel), by decide +kernel, by decide +kernel, by decide +kernel⟩
theorem cl_H_290 : CLk R_H 290 y_S_weighByMeters b_S_weighByMeters 12 none [] 4 := ⟨gwT 427 (by decide +kernel) (by decide +kernel), gwT 430 (by decide +kernel) (by decide +kernel), gwT 8 (by decide +kernel) (by decide +kernel), by decide +kernel, by decide +kernel, by decide +kernel⟩
theorem cl_S_65 : CLk R_S 65 y_M_endsStretch b_M_endsStretch 4 (some (.boolean)) [] 3 := ⟨gwT 431 (by decide +kernel) (by decide +kernel), gwT 346 (by decide +kernel) (by decide +kernel), gwT 6 (by decide +kernel) (by decide +kernel), by decide +kernel, by decide +kernel, by decide +kernel⟩
theorem cl_S_69 : CLk R_S 69 y_M_stretchUnits b_M_stretchUnits 5 (some (.long)) [] 4 := ⟨gwT 432 (by decide +kernel) (by decide +kernel), gwT 435 (by decide +kernel) (by decide +kernel), gwT 6 (by decide +kernel) (by decide +kernel), by decide +kernel, by decide +kernel, by decide +kernel⟩
theorem cl_M_90 : CLk R_M 90 y_F_unitsBetween b_F_unitsBetween 3 (some (.int)) [] 2 := ⟨gwT 436 (by decide +kernel) (by decide +kernel), gwT 302 (by decide +kernel) (by decide +kernel), gwT 3 (by decide +kernel) (by decide +kernel), by decide +kernel, by decide +kernel, by decide +kernel⟩
theorem cl_S_73 : CLk R_S 73 y_S_addStretch b_S_addStretch 14 none [] 6 := ⟨gwT 437 (by decide +kernel) (by decide +kernel), gwT 440 (by decide +kernel) (by decide +kernel), gwT 8 (by decide +kernel) (by decide +kernel), by decide +kernel, by decide +kernel, by decide +kernel⟩
theorem cl_S_80 : CLk R_S 80 y_J_maxI b_J_maxI 2 (some (.int)) [] 2 := ⟨gwT 441 (by decide +kernel) (by decide +kernel), gwT 373 (by decide +kernel) (by decide +kernel), gwT 18 (by decide +kernel) (by decide +kernel), by decide +kernel, by decide +kernel, by decide +kernel⟩
theorem cl_S_89 : CLk R_S 89 y_J_minI b_J_minI 2 (some (.int)) [] 2 := ⟨gwT 442 (by decide +kernel) (by decide +kernel), gwT 370 (by decide +kernel) (by decide +kernel), gwT 18 (by decide +kernel) (by decide +kernel), by decide +kernel, by decide +kernel, by decide +kernel⟩
theorem cl_S_92 : CLk R_S 92 y_S_sumBetween b_S_sumBetween 5 (some (.int)) [] 3 := ⟨gwT 443 (by decide +kernel) (by decide +kernel), gwT 445 (by decide +kernel) (by decide +kernel), gwT 8 (by decide +kernel) (by decide +kernel), by decide +kernel, by decide +kernel, by decide +kernel⟩
theorem cl_L_85 : CLk R_L 85 y_L_flat b_L_flat 6 (some (.int)) [(0, 12, 15, 13), (0, 12, 19, 15)] 5 := ⟨gwT 446 (by decide +kernel) (by decide +kernel), gwT 448 (by decide +kernel) (by decide +kernel), gwT 0 (by decide +kernel) (by decide +kernel), by decide +kernel, by decide +kernel, by decide +kernel⟩
theorem cl_L_7 : CLk R_L 7 y_H_flat b_H_flat 4 (some (.int)) [] 3 := ⟨gwT 451 (by decide +kernel) (by decide +kernel), gwT 454 (by decide +kernel) (by decide +kernel), gwT 1 (by decide +kernel) (by decide +kernel), by decide +kernel, by decide +kernel, by decide +kernel⟩
theorem cl_H_75 : CLk R_H 75 y_H_isOutside b_H_isOutside 3 (some (.boolean)) [] 3 := ⟨gwT 455 (by decide +kernel) (by decide +kernel), gwT 457 (by decide +kernel) (by decide +kernel), gwT 1 (by decide +kernel) (by decide +kernel), by decide +kernel, by decide +kernel, by decide +kernel⟩
theorem cl_H_94 : CLk R_H 94 y_O_addFlat b_O_addFlat 6 (some (.int)) [] 3 := ⟨gwT 543 (by decide +kernel) (by decide +kernel), gwT 546 (by decide +kernel) (by decide +kernel), gwT 2 (by decide +kernel) (by decide +kernel), by decide +kernel, by decide +kernel, by decide +kernel⟩
theorem cl_L_94 : CLk R_L 94 y_L_reading b_L_reading 5 (some (.int)) [(0, 7, 10, 21), (0, 7, 14, 13)] 4 := ⟨gwT 547 (by decide +kernel) (by decide +kernel), gwT 549 (by decide +kernel) (by decide +kernel), gwT 0 (by decide +kernel) (by decide +kernel), by decide +kernel, by decide +kernel, by decide +kernel⟩
theorem cl_L_17 : CLk R_L 17 y_H_reading b_H_reading 4 none [] 3 := ⟨gwT 551 (by decide +kernel) (by decide +kernel), gwT 554 (by decide +kernel) (by decide +kernel), gwT 1 (by decide +kernel) (by decide +kernel), by decide +kernel, by decide +kernel, by decide +kernel⟩
theorem cl_H_98 : CLk R_H 98 y_H_needFlat b_H_needFlat 2 none [] 1 := ⟨gwT 555 (by decide +kernel) (by decide +kernel), gwT 558 (by decide +kernel) (by decide +kernel), gwT 1 (by decide +kernel) (by decide +kernel), by decide +kernel, by decide +kernel, by decide +kernel⟩
theorem cl_L_98 : CLk R_L 98 y_L_enter b_L_enter 5 (some (.int)) [(0, 10, 13, 21), (0, 10, 17, 27), (0, 10, 21, 15)] 4 := ⟨gwT 577 (by decide +kernel) (by decide +kernel), gwT 579 (by decide +kernel) (by decide +kernel), gwT 0 (by decide +kernel) (by decide +kernel), by decide +kernel, by decide +kernel, by decide +kernel⟩
theorem cl_L_23 : CLk R_L 23 y_H_enter b_H_enter 4 (some (.int)) [] 2 := ⟨gwT 581 (by decide +kernel) (by decide +kernel), gwT 584 (by decide +kernel) (by decide +kernel), gwT 1 (by decide +kernel) (by decide +kernel), by decide +kernel, by decide +kernel, by decide +kernel⟩
theorem cl_H_118 : CLk R_H 118 y_H_needRoomForChange b_H_needRoomForChange 3 none [] 2 := ⟨gwT 585 (by decide +kernel) (by decide +kernel), gwT 588 (by decide +kernel) (by decide +kernel), gwT 1 (by decide +kernel) (by decide +kernel), by decide +kernel, by decide +kernel, by decide +kernel⟩
theorem cl_H_240 : CLk R_H 240 y_F_hasChange b_F_hasChange 2 (some (.boolean)) [] 1 := ⟨gwT 589 (by decide +kernel) (by decide +kernel), gwT 326 (by decide +kernel) (by decide +kernel), gwT 3 (by decide +kernel) (by decide +kernel), by decide +kernel, by decide +kernel, by decide +kernel⟩
theorem cl_H_127 : CLk R_H 127 y_A_addTenant b_A_addTenant 2 (some (.int)) [] 0 := ⟨gwT 607 (by decide +kernel) (by decide +kernel), gwT 610 (by decide +kernel) (by decide +kernel), gwT 9 (by decide +kernel) (by decide +kernel), by decide +kernel, by decide +kernel, by decide +kernel⟩
theorem cl_L_102 : CLk R_L 102 y_L_leave b_L_leave 4 (some (.int)) [(0, 6, 9, 21), (0, 6, 12, 27)] 3 := ⟨gwT 611 (by decide +kernel) (by decide +kernel), gwT 613 (by decide +kernel) (by decide +kernel), gwT 0 (by decide +kernel) (by decide +kernel), by decide +kernel, by decide +kernel, by decide +kernel⟩
theorem cl_L_29 : CLk R_L 29 y_H_leave b_H_leave 3 none [] 2 := ⟨gwT 614 (by decide +kernel) (by decide +kernel), gwT 617 (by decide +kernel) (by decide +kernel), gwT 1 (by decide +kernel) (by decide +kernel), by decide +kernel, by decide +kernel, by decide +kernel⟩
theorem cl_L_106 : CLk R_L 106 y_L_deliver b_L_deliver 4 (some (.int)) [(0, 6, 9, 13), (0, 6, 12, 15)] 3 := ⟨gwT 618 (by decide +kernel) (by decide +kernel), gwT 620 (by decide +kernel) (by decide +kernel), gwT 0 (by decide +kernel) (by decide +kernel), by decide +kernel, by decide +kernel, by decide +kernel⟩
theorem cl_L_33 : CLk R_L 33 y_H_deliver b_H_deliver 3 none [] 2 := ⟨gwT 621 (by decide +kernel) (by decide +kernel), gwT 624 (by decide +kernel) (by decide +kernel), gwT 1 (by decide +kernel) (by decide +kernel), by decide +kernel, by decide +kernel, by decide +kernel⟩
theorem cl_H_141 : CLk R_H 141 y_U_addLayer b_U_addLayer 3 none [] 2 := ⟨gwT 627 (by decide +kernel) (by decide +kernel), gwT 630 (by decide +kernel) (by decide +kernel), gwT 5 (by decide +kernel) (by decide +kernel), by decide +kernel, by decide +kernel, by decide +kernel⟩
theorem cl_L_109 : CLk R_L 109 y_L_endStock b_L_endStock 3 (some (.int)) [(0, 5, 8, 13)] 2 := ⟨gwT 631 (by decide +kernel) (by decide +kernel), gwT 633 (by decide +kernel) (by decide +kernel), gwT 0 (by decide +kernel) (by decide +kernel), by decide +kernel, by decide +kernel, by decide +kernel⟩
theorem cl_L_36 : CLk R_L 36 y_H_endStock b_H_endStock 2 none [] 1 := ⟨gwT 634 (by decide +kernel) (by decide +kernel), gwT 637 (by decide +kernel) (by decide +kernel), gwT 1 (by decide +kernel) (by decide +kernel), by decide +kernel, by decide +kernel, by decide +kernel⟩
theorem cl_H_144 : CLk R_H 144 y_U_allUnits b_U_allUnits 3 (some (.int)) [] 0 := ⟨gwT 638 (by decide +kernel) (by decide +kernel), gwT 282 (by decide +kernel) (by decide +kernel), gwT 5 (by decide +kernel) (by decide +kernel), by decide +kernel, by decide +kernel, by decide +kernel⟩
theorem cl_L_113 : CLk R_L 113 y_L_sideCosts b_L_sideCosts 3 (some (.int)) [(0, 5, 8, 13)] 2 := ⟨gwT 640 (by decide +kernel) (by decide +kernel), gwT 642 (by decide +kernel) (by decide +kernel), gwT 0 (by decide +kernel) (by decide +kernel), by decide +kernel, by decide +kernel, by decide +kernel⟩
theorem cl_L_40 : CLk R_L 40 y_H_sideCosts b_H_sideCosts 2 none [] 1 := ⟨gwT 643 (by decide +kernel) (by decide +kernel), gwT 646 (by decide +kernel) (by decide +kernel), gwT 1 (by decide +kernel) (by decide +kernel), by decide +kernel, by decide +kernel, by decide +kernel⟩
theorem cl_L_116 : CLk R_L 116 y_L_water b_L_water 4 (some (.int)) [(0, 6, 9, 13)] 3 := ⟨gwT 648 (by decide +kernel) (by decide +kernel), gwT 650 (by decide +kernel) (by decide +kernel), gwT 0 (by decide +kernel) (by decide +kernel), by decide +kernel, by decide +kernel, by decide +kernel⟩
theorem cl_L_43 : CLk R_L 43 y_H_water b_H_water 3 none [] 2 := ⟨gwT 651 (by decide +kernel) (by decide +kernel), gwT 654 (by decide +kernel) (by decide +kernel), gwT 1 (by decide +kernel) (by decide +kernel), by decide +kernel, by decide +kernel, by decide +kernel⟩
theorem cl_L_119 : CLk R_L 119 y_L_permille b_L_permille 3 (some (.int)) [(0, 5, 8, 13)] 2 := ⟨gwT 657 (by decide +kernel) (by decide +kernel), gwT 659 (by decide +kernel) (by decide +kernel), gwT 0 (by decide +kernel) (by decide +kernel), by decide +kernel, by decide +kernel, by decide +kernel⟩
theorem cl_L_46 : CLk R_L 46 y_H_permille b_H_permille 2 none [] 1 := ⟨gwT 660 (by decide +kernel) (by decide +kernel), gwT 663 (by decide +kernel) (by decide +kernel), gwT 1 (by decide +kernel) (by decide +kernel), by decide +kernel, by decide +kernel, by decide +kernel⟩
theorem cl_L_122 : CLk R_L 122 y_L_degrees b_L_degrees 4 (some (.int)) [(0, 6, 9, 21), (0, 6, 12, 13)] 3 := ⟨gwT 665 (by decide +kernel) (by decide +kernel), gwT 667 (by decide +kernel) (by decide +kernel), gwT 0 (by decide +kernel) (by decide +kernel), by decide +kernel, by decide +kernel, by decide +kernel⟩
theorem cl_L_49 : CLk R_L 49 y_H_degrees b_H_degrees 3 none [] 2 := ⟨gwT 668 (by decide +kernel) (by decide +kernel), gwT 671 (by decide +kernel) (by decide +kernel), gwT 1 (by decide +kernel) (by decide +kernel), by decide +kernel, by decide +kernel, by decide +kernel⟩
theorem cl_L_125 : CLk R_L 125 y_L_prepay b_L_prepay 4 (some (.int)) [(0, 6, 9, 21), (0, 6, 12, 13)] 3 := ⟨gwT 674 (by decide +kernel) (by decide +kernel), gwT 676 (by decide +kernel) (by decide +kernel), gwT 0 (by decide +kernel) (by decide +kernel), by decide +kernel, by decide +kernel, by decide +kernel⟩
theorem cl_L_52 : CLk R_L 52 y_H_prepay b_H_prepay 3 none [] 2 := ⟨gwT 677 (by decide +kernel) (by decide +kernel), gwT 680 (by decide +kernel) (by decide +kernel), gwT 1 (by decide +kernel) (by decide +kernel), by decide +kernel, by decide +kernel, by decide +kernel⟩
theorem cl_H_163 : CLk R_H 163 y_H_needTenant b_H_needTenant 2 none [] 1 := ⟨gwT 681 (by decide +kernel) (by decide +kernel), gwT 684 (by decide +kernel) (by decide +kernel), gwT 1 (by decide +kernel) (by decide +kernel), by decide +kernel, by decide +kernel, by decide +kernel⟩
theorem cl_L_132 : CLk R_L 132 y_L_amount b_L_amount 5 (some (.int)) [(0, 10, 13, 27), (0, 10, 17, 21)] 4 := ⟨gwT 687 (by decide +kernel) (by decide +kernel), gwT 689 (by decide +kernel) (by decide +kernel), gwT 0 (by decide +kernel) (by decide +kernel), by decide +kernel, by decide +kernel, by decide +kernel⟩
theorem cl_L_55 : CLk R_L 55 y_H_amount b_H_amount 3 (some (.int)) [] 2 := ⟨gwT 690 (by decide +kernel) (by decide +kernel), gwT 693 (by decide +kernel) (by decide +kernel), gwT 1 (by decide +kernel) (by decide +kernel), by decide +kernel, by decide +kernel, by decide +kernel⟩
theorem cl_H_199 : CLk R_H 199 y_H_needBill b_H_needBill 1 none [] 0 := ⟨gwT 694 (by decide +kernel) (by decide +kernel), gwT 697 (by decide +kernel) (by decide +kernel), gwT 1 (by decide +kernel) (by decide +kernel), by decide +kernel, by decide +kernel, by decide +kernel⟩
theorem cl_H_202 : CLk R_H 202 y_H_needTenantOrLandlord b_H_needTenantOrLandlord 2 none [] 1 := ⟨gwT 699 (by decide +kernel) (by decide +kernel), gwT 702 (by decide +kernel) (by decide +kernel), gwT 1 (by decide +kernel) (by decide +kernel), by decide +kernel, by decide +kernel, by decide +kernel⟩
theorem cl_H_207 : CLk R_H 207 y_A_owedInAll b_A_owedInAll 3 (some (.int)) [] 1 := ⟨gwT 704 (by decide +kernel) (by decide +kernel), gwT 707 (by decide +kernel) (by decide +kernel), gwT 9 (by decide +kernel) (by decide +kernel), by decide +kernel, by decide +kernel, by decide +kernel⟩
theorem cl_L_135 : CLk R_L 135 y_L_paid b_L_paid 4 (some (.int)) [(0, 9, 12, 21)] 3 := ⟨gwT 708 (by decide +kernel) (by decide +kernel), gwT 710 (by decide +kernel) (by decide +kernel), gwT 0 (by decide +kernel) (by decide +kernel), by decide +kernel, by decide +kernel, by decide +kernel⟩
theorem cl_L_58 : CLk R_L 58 y_H_paid b_H_paid 2 (some (.int)) [] 1 := ⟨gwT 711 (by decide +kernel) (by decide +kernel), gwT 714 (by decide +kernel) (by decide +kernel), gwT 1 (by decide +kernel) (by decide +kernel), by decide +kernel, by decide +kernel, by decide +kernel⟩
theorem cl_L_139 : CLk R_L 139 y_L_part b_L_part 4 (some (.int)) [(0, 9, 12, 27), (0, 9, 15, 21)] 3 := ⟨gwT 715 (by decide +kernel) (by decide +kernel), gwT 717 (by decide +kernel) (by decide +kernel), gwT 0 (by decide +kernel) (by decide +kernel), by decide +kernel, by decide +kernel, by decide +kernel⟩
theorem cl_L_62 : CLk R_L 62 y_H_part b_H_part 2 (some (.int)) [] 1 := ⟨gwT 718 (by decide +kernel) (by decide +kernel), gwT 721 (by decide +kernel) (by decide +kernel), gwT 1 (by decide +kernel) (by decide +kernel), by decide +kernel, by decide +kernel, by decide +kernel⟩
theorem cl_L_142 : CLk R_L 142 y_L_replaced b_L_replaced 4 (some (.int)) [(0, 9, 12, 21)] 3 := ⟨gwT 722 (by decide +kernel) (by decide +kernel), gwT 724 (by decide +kernel) (by decide +kernel), gwT 0 (by decide +kernel) (by decide +kernel), by decide +kernel, by decide +kernel, by decide +kernel⟩
theorem cl_L_65 : CLk R_L 65 y_H_replaced b_H_replaced 2 (some (.int)) [] 1 := ⟨gwT 725 (by decide +kernel) (by decide +kernel), gwT 728 (by decide +kernel) (by decide +kernel), gwT 1 (by decide +kernel) (by decide +kernel), by decide +kernel, by decide +kernel, by decide +kernel⟩
theorem cl_L_145 : CLk R_L 145 y_L_send b_L_send 3 (some (.int)) [(0, 8, 11, 27)] 2 := ⟨gwT 729 (by decide +kernel) (by decide +kernel), gwT 731 (by decide +kernel) (by decide +kernel), gwT 0 (by decide +kernel) (by decide +kernel), by decide +kernel, by decide +kernel, by decide +kernel⟩
theorem cl_L_68 : CLk R_L 68 y_H_send b_H_send 1 (some (.int)) [] 0 := ⟨gwT 732 (by decide +kernel) (by decide +kernel), gwT 735 (by decide +kernel) (by decide +kernel), gwT 1 (by decide +kernel) (by decide +kernel), by decide +kernel, by decide +kernel, by decide +kernel⟩
theorem cl_H_218 : CLk R_H 218 y_A_post b_A_post 4 (some (.int)) [] 0 := ⟨gwT 736 (by decide +kernel) (by decide +kernel), gwT 739 (by decide +kernel) (by decide +kernel), gwT 9 (by decide +kernel) (by decide +kernel), by decide +kernel, by decide +kernel, by decide +kernel⟩
theorem cl_A_36 : CLk R_A 36 y_A_owedInAll b_A_owedInAll 3 (some (.int)) [] 1 := ⟨gwT 740 (by decide +kernel) (by decide +kernel), gwT 707 (by decide +kernel) (by decide +kernel), gwT 9 (by decide +kernel) (by decide +kernel), by decide +kernel, by decide +kernel, by decide +kernel⟩
theorem cl_L_149 : CLk R_L 149 y_L_sent b_L_sent 4 (some (.int)) [(0, 9, 12, 21)] 3 := ⟨gwT 741 (by decide +kernel) (by decide +kernel), gwT 743 (by decide +kernel) (by decide +kernel), gwT 0 (by decide +kernel) (by decide +kernel), by decide +kernel, by decide +kernel, by decide +kernel⟩
theorem cl_L_72 : CLk R_L 72 y_H_sent b_H_sent 2 (some (.int)) [] 1 := ⟨gwT 744 (by decide +kernel) (by decide +kernel), gwT 747 (by decide +kernel) (by decide +kernel), gwT 1 (by decide +kernel) (by decide +kernel), by decide +kernel, by decide +kernel, by decide +kernel⟩
theorem cl_L_152 : CLk R_L 152 y_L_closeYear b_L_closeYear 3 (some (.int)) [(0, 8, 11, 27)] 2 := ⟨gwT 748 (by decide +kernel) (by decide +kernel), gwT 750 (by decide +kernel) (by decide +kernel), gwT 0 (by decide +kernel) (by decide +kernel), by decide +kernel, by decide +kernel, by decide +kernel⟩
theorem cl_L_75 : CLk R_L 75 y_H_closeYear b_H_closeYear 2 (some (.int)) [] 0 := ⟨gwT 751 (by decide +kernel) (by decide +kernel), gwT 754 (by decide +kernel) (by decide +kernel), gwT 1 (by decide +kernel) (by decide +kernel), by decide +kernel, by decide +kernel, by decide +kernel⟩
theorem cl_H_224 : CLk R_H 224 y_A_startYear b_A_startYear 1 none [] 0 := ⟨gwT 755 (by decide +kernel) (by decide +kernel), gwT 758 (by decide +kernel) (by decide +kernel), gwT 9 (by decide +kernel) (by decide +kernel), by decide +kernel, by decide +kernel, by decide +kernel⟩
theorem cl_H_227 : CLk R_H 227 y_M_wholeUnits b_M_wholeUnits 4 (some (.int)) [] 1 := ⟨gwT 759 (by decide +kernel) (by decide +kernel), gwT 762 (by decide +kernel) (by decide +kernel), gwT 6 (by decide +kernel) (by decide +kernel), by decide +kernel, by decide +kernel, by decide +kernel⟩
theorem cl_H_230 : CLk R_H 230 y_F_startYear b_F_startYear 3 none [] 1 := ⟨gwT 763 (by decide +kernel) (by decide +kernel), gwT 766 (by decide +kernel) (by decide +kernel), gwT 3 (by decide +kernel) (by decide +kernel), by decide +kernel, by decide +kernel, by decide +kernel⟩
theorem cl_F_48 : CLk R_F 48 y_F_holderAtEnd b_F_holderAtEnd 3 (some (.int)) [] 0 := ⟨gwT 767 (by decide +kernel) (by decide +kernel), gwT 770 (by decide +kernel) (by decide +kernel), gwT 3 (by decide +kernel) (by decide +kernel), by decide +kernel, by decide +kernel, by decide +kernel⟩
theorem cl_F_44 : CLk R_F 44 y_F_hasChange b_F_hasChange 2 (some (.boolean)) [] 1 := ⟨gwT 771 (by decide +kernel) (by decide +kernel), gwT 326 (by decide +kernel) (by decide +kernel), gwT 3 (by decide +kernel) (by decide +kernel), by decide +kernel, by decide +kernel, by decide +kernel⟩
theorem cl_H_232 : CLk R_H 232 y_U_keepStock b_U_keepStock 4 none [] 0 := ⟨gwT 772 (by decide +kernel) (by decide +kernel), gwT 775 (by decide +kernel) (by decide +kernel), gwT 5 (by decide +kernel) (by decide +kernel), by decide +kernel, by decide +kernel, by decide +kernel⟩
theorem cl_L_155 : CLk R_L 155 y_L_known b_L_known 4 (some (.int)) [(0, 9, 12, 21)] 3 := ⟨gwT 776 (by decide +kernel) (by decide +kernel), gwT 778 (by decide +kernel) (by decide +kernel), gwT 0 (by decide +kernel) (by decide +kernel), by decide +kernel, by decide +kernel, by decide +kernel⟩
theorem cl_L_78 : CLk R_L 78 y_H_known b_H_known 2 (some (.int)) [] 1 := ⟨gwT 779 (by decide +kernel) (by decide +kernel), gwT 782 (by decide +kernel) (by decide +kernel), gwT 1 (by decide +kernel) (by decide +kernel), by decide +kernel, by decide +kernel, by decide +kernel⟩
theorem cl_L_84 : CLk R_L 84 y_R_init b_R_init 1 none [] 0 := ⟨gwT 785 (by decide +kernel) (by decide +kernel), gwT 787 (by decide +kernel) (by decide +kernel), gwT 10 (by decide +kernel) (by decide +kernel), by decide +kernel, by decide +kernel, by decide +kernel⟩
theorem cl_L_91 : CLk R_L 91 y_R_thrown b_R_thrown 1 (some (.int)) [] 0 := ⟨gwT 905 (by decide +kernel) (by decide +kernel), gwT 908 (by decide +kernel) (by decide +kernel), gwT 10 (by decide +kernel) (by decide +kernel), by decide +kernel, by decide +kernel, by decide +kernel⟩
theorem cl_L_90 : CLk R_L 90 y_R_flat b_R_flat 5 (some (.int)) [] 3 := ⟨gwT 909 (by decide +kernel) (by decide +kernel), gwT 912 (by decide +kernel) (by decide +kernel), gwT 10 (by decide +kernel) (by decide +kernel), by decide +kernel, by decide +kernel, by decide +kernel⟩
theorem cl_R_94 : CLk R_R 94 y_R_within b_R_within 3 (some (.boolean)) [] 3 := ⟨gwT 913 (by decide +kernel) (by decide +kernel), gwT 915 (by decide +kernel) (by decide +kernel), gwT 10 (by decide +kernel) (by decide +kernel), by decide +kernel, by decide +kernel, by decide +kernel⟩
theorem cl_L_97 : CLk R_L 97 y_R_reading b_R_reading 4 none [] 3 := ⟨gwT 916 (by decide +kernel) (by decide +kernel), gwT 919 (by decide +kernel) (by decide +kernel), gwT 10 (by decide +kernel) (by decide +kernel), by decide +kernel, by decide +kernel, by decide +kernel⟩
theorem cl_R_102 : CLk R_R 102 y_R_isFlat b_R_isFlat 2 (some (.boolean)) [] 1 := ⟨gwT 920 (by decide +kernel) (by decide +kernel), gwT 923 (by decide +kernel) (by decide +kernel), gwT 10 (by decide +kernel) (by decide +kernel), by decide +kernel, by decide +kernel, by decide +kernel⟩
theorem cl_L_101 : CLk R_L 101 y_R_enter b_R_enter 3 (some (.int)) [] 2 := ⟨gwT 924 (by decide +kernel) (by decide +kernel), gwT 927 (by decide +kernel) (by decide +kernel), gwT 10 (by decide +kernel) (by decide +kernel), by decide +kernel, by decide +kernel, by decide +kernel⟩
theorem cl_R_106 : CLk R_R 106 y_R_wrongChange b_R_wrongChange 3 (some (.int)) [] 2 := ⟨gwT 928 (by decide +kernel) (by decide +kernel), gwT 931 (by decide +kernel) (by decide +kernel), gwT 10 (by decide +kernel) (by decide +kernel), by decide +kernel, by decide +kernel, by decide +kernel⟩
theorem cl_L_105 : CLk R_L 105 y_R_leave b_R_leave 3 none [] 2 := ⟨gwT 932 (by decide +kernel) (by decide +kernel), gwT 935 (by decide +kernel) (by decide +kernel), gwT 10 (by decide +kernel) (by decide +kernel), by decide +kernel, by decide +kernel, by decide +kernel⟩
theorem cl_L_108 : CLk R_L 108 y_R_deliver b_R_deliver 3 none [] 2 := ⟨gwT 936 (by decide +kernel) (by decide +kernel), gwT 939 (by decide +kernel) (by decide +kernel), gwT 10 (by decide +kernel) (by decide +kernel), by decide +kernel, by decide +kernel, by decide +kernel⟩
theorem cl_L_112 : CLk R_L 112 y_R_endStock b_R_endStock 2 none [] 1 := ⟨gwT 940 (by decide +kernel) (by decide +kernel), gwT 943 (by decide +kernel) (by decide +kernel), gwT 10 (by decide +kernel) (by decide +kernel), by decide +kernel, by decide +kernel, by decide +kernel⟩
theorem cl_R_113 : CLk R_R 113 y_R_allUnits b_R_allUnits 3 (some (.int)) [] 0 := ⟨gwT 944 (by decide +kernel) (by decide +kernel), gwT 947 (by decide +kernel) (by decide +kernel), gwT 10 (by decide +kernel) (by decide +kernel), by decide +kernel, by decide +kernel, by decide +kernel⟩
theorem cl_L_115 : CLk R_L 115 y_R_sideCosts b_R_sideCosts 2 none [] 1 := ⟨gwT 948 (by decide +kernel) (by decide +kernel), gwT 951 (by decide +kernel) (by decide +kernel), gwT 10 (by decide +kernel) (by decide +kernel), by decide +kernel, by decide +kernel, by decide +kernel⟩
theorem cl_L_118 : CLk R_L 118 y_R_water b_R_water 3 none [] 2 := ⟨gwT 952 (by decide +kernel) (by decide +kernel), gwT 955 (by decide +kernel) (by decide +kernel), gwT 10 (by decide +kernel) (by decide +kernel), by decide +kernel, by decide +kernel, by decide +kernel⟩
theorem cl_L_121 : CLk R_L 121 y_R_permille b_R_permille 2 none [] 1 := ⟨gwT 957 (by decide +kernel) (by decide +kernel), gwT 960 (by decide +kernel) (by decide +kernel), gwT 10 (by decide +kernel) (by decide +kernel), by decide +kernel, by decide +kernel, by decide +kernel⟩
theorem cl_L_124 : CLk R_L 124 y_R_degrees b_R_degrees 3 none [] 2 := ⟨gwT 961 (by decide +kernel) (by decide +kernel), gwT 964 (by decide +kernel) (by decide +kernel), gwT 10 (by decide +kernel) (by decide +kernel), by decide +kernel, by decide +kernel, by decide +kernel⟩
theorem cl_L_127 : CLk R_L 127 y_R_prepay b_R_prepay 3 none [] 2 := ⟨gwT 965 (by decide +kernel) (by decide +kernel), gwT 968 (by decide +kernel) (by decide +kernel), gwT 10 (by decide +kernel) (by decide +kernel), by decide +kernel, by decide +kernel, by decide +kernel⟩
theorem cl_R_124 : CLk R_R 124 y_R_isTenant b_R_isTenant 2 (some (.boolean)) [] 1 := ⟨gwT 969 (by decide +kernel) (by decide +kernel), gwT 972 (by decide +kernel) (by decide +kernel), gwT 10 (by decide +kernel) (by decide +kernel), by decide +kernel, by decide +kernel, by decide +kernel⟩
theorem cl_L_138 : CLk R_L 138 y_R_paid b_R_paid 2 (some (.int)) [] 1 := ⟨gwT 974 (by decide +kernel) (by decide +kernel), gwT 977 (by decide +kernel) (by decide +kernel), gwT 10 (by decide +kernel) (by decide +kernel), by decide +kernel, by decide +kernel, by decide +kernel⟩
theorem cl_L_144 : CLk R_L 144 y_R_replaced b_R_replaced 2 (some (.int)) [] 1 := ⟨gwT 978 (by decide +kernel) (by decide +kernel), gwT 981 (by decide +kernel) (by decide +kernel), gwT 10 (by decide +kernel) (by decide +kernel), by decide +kernel, by decide +kernel, by decide +kernel⟩
theorem cl_R_159 : CLk R_R 159 y_R_look b_R_look 9 none [] 0 := ⟨gwT 982 (by decide +kernel) (by decide +kernel), gwT 985 (by decide +kernel) (by decide +kernel), gwT 10 (by decide +kernel) (by decide +kernel), by decide +kernel, by decide +kernel, by decide +kernel⟩
theorem cl_R_128 : CLk R_R 128 y_R_isRead b_R_isRead 6 (some (.boolean)) [] 1 := ⟨gwT 986 (by decide +kernel) (by decide +kernel), gwT 989 (by decide +kernel) (by decide +kernel), gwT 10 (by decide +kernel) (by decide +kernel), by decide +kernel, by decide +kernel, by decide +kernel⟩
theorem cl_R_146 : CLk R_R 146 y_R_measured b_R_measured 2 (some (.int)) [] 1 := ⟨gwT 990 (by decide +kernel) (by decide +kernel), gwT 993 (by decide +kernel) (by decide +kernel), gwT 10 (by decide +kernel) (by decide +kernel), by decide +kernel, by decide +kernel, by decide +kernel⟩
theorem cl_R_154 : CLk R_R 154 y_R_kindOf b_R_kindOf 3 (some (.int)) [] 1 := ⟨gwT 994 (by decide +kernel) (by decide +kernel), gwT 997 (by decide +kernel) (by decide +kernel), gwT 10 (by decide +kernel) (by decide +kernel), by decide +kernel, by decide +kernel, by decide +kernel⟩
theorem cl_L_131 : CLk R_L 131 y_R_bill b_R_bill 3 (some (.int)) [] 0 := ⟨gwT 999 (by decide +kernel) (by decide +kernel), gwT 1002 (by decide +kernel) (by decide +kernel), gwT 10 (by decide +kernel) (by decide +kernel), by decide +kernel, by decide +kernel, by decide +kernel⟩
theorem cl_R_219 : CLk R_R 219 y_R_isByArea b_R_isByArea 7 (some (.boolean)) [] 0 := ⟨gwT 1003 (by decide +kernel) (by decide +kernel), gwT 1006 (by decide +kernel) (by decide +kernel), gwT 10 (by decide +kernel) (by decide +kernel), by decide +kernel, by decide +kernel, by decide +kernel⟩
theorem cl_R_223 : CLk R_R 223 y_R_needsDegrees b_R_needsDegrees 4 (some (.boolean)) [] 0 := ⟨gwT 1007 (by decide +kernel) (by decide +kernel), gwT 1010 (by decide +kernel) (by decide +kernel), gwT 10 (by decide +kernel) (by decide +kernel), by decide +kernel, by decide +kernel, by decide +kernel⟩
theorem cl_R_174 : CLk R_R 174 y_R_changeAt b_R_changeAt 3 (some (.int)) [] 2 := ⟨gwT 1011 (by decide +kernel) (by decide +kernel), gwT 1014 (by decide +kernel) (by decide +kernel), gwT 10 (by decide +kernel) (by decide +kernel), by decide +kernel, by decide +kernel, by decide +kernel⟩
theorem cl_R_195 : CLk R_R 195 y_R_stretchOf b_R_stretchOf 5 (some (.int)) [] 3 := ⟨gwT 1015 (by decide +kernel) (by decide +kernel), gwT 1018 (by decide +kernel) (by decide +kernel), gwT 10 (by decide +kernel) (by decide +kernel), by decide +kernel, by decide +kernel, by decide +kernel⟩
theorem cl_R_192 : CLk R_R 192 y_R_degreesOf b_R_degreesOf 5 (some (.int)) [] 2 := ⟨gwT 1019 (by decide +kernel) (by decide +kernel), gwT 1022 (by decide +kernel) (by decide +kernel), gwT 10 (by decide +kernel) (by decide +kernel), by decide +kernel, by decide +kernel, by decide +kernel⟩
theorem cl_R_226 : CLk R_R 226 y_R_findParts b_R_findParts 8 none [] 0 := ⟨gwT 1023 (by decide +kernel) (by decide +kernel), gwT 1026 (by decide +kernel) (by decide +kernel), gwT 10 (by decide +kernel) (by decide +kernel), by decide +kernel, by decide +kernel, by decide +kernel⟩
theorem cl_R_165 : CLk R_R 165 y_R_centsInStock b_R_centsInStock 2 (some (.int)) [] 1 := ⟨gwT 1027 (by decide +kernel) (by decide +kernel), gwT 1030 (by decide +kernel) (by decide +kernel), gwT 10 (by decide +kernel) (by decide +kernel), by decide +kernel, by decide +kernel, by decide +kernel⟩
theorem cl_R_162 : CLk R_R 162 y_R_inStock b_R_inStock 4 (some (.int)) [] 1 := ⟨gwT 1031 (by decide +kernel) (by decide +kernel), gwT 1034 (by decide +kernel) (by decide +kernel), gwT 10 (by decide +kernel) (by decide +kernel), by decide +kernel, by decide +kernel, by decide +kernel⟩
theorem cl_R_229 : CLk R_R 229 y_R_share b_R_share 10 none [] 3 := ⟨gwT 1038 (by decide +kernel) (by decide +kernel), gwT 1041 (by decide +kernel) (by decide +kernel), gwT 10 (by decide +kernel) (by decide +kernel), by decide +kernel, by decide +kernel, by decide +kernel⟩
theorem cl_R_207 : CLk R_R 207 y_R_spansBy b_R_spansBy 7 none [] 4 := ⟨gwT 1042 (by decide +kernel) (by decide +kernel), gwT 1045 (by decide +kernel) (by decide +kernel), gwT 10 (by decide +kernel) (by decide +kernel), by decide +kernel, by decide +kernel, by decide +kernel⟩
theorem cl_R_180 : CLk R_R 180 y_R_holderAt b_R_holderAt 4 (some (.int)) [] 2 := ⟨gwT 1046 (by decide +kernel) (by decide +kernel), gwT 1049 (by decide +kernel) (by decide +kernel), gwT 10 (by decide +kernel) (by decide +kernel), by decide +kernel, by decide +kernel, by decide +kernel⟩
theorem cl_R_183 : CLk R_R 183 y_R_endOf b_R_endOf 4 (some (.int)) [] 2 := ⟨gwT 1050 (by decide +kernel) (by decide +kernel), gwT 1053 (by decide +kernel) (by decide +kernel), gwT 10 (by decide +kernel) (by decide +kernel), by decide +kernel, by decide +kernel, by decide +kernel⟩
theorem cl_R_188 : CLk R_R 188 y_R_span b_R_span 6 none [] 3 := ⟨gwT 1055 (by decide +kernel) (by decide +kernel), gwT 1058 (by decide +kernel) (by decide +kernel), gwT 10 (by decide +kernel) (by decide +kernel), by decide +kernel, by decide +kernel, by decide +kernel⟩
theorem cl_R_211 : CLk R_R 211 y_R_spanByMeter b_R_spanByMeter 22 none [] 5 := ⟨gwT 1059 (by decide +kernel) (by decide +kernel), gwT 1062 (by decide +kernel) (by decide +kernel), gwT 10 (by decide +kernel) (by decide +kernel), by decide +kernel, by decide +kernel, by decide +kernel⟩
theorem cl_R_199 : CLk R_R 199 y_R_weight b_R_weight 5 (some (.int)) [] 4 := ⟨gwT 1063 (by decide +kernel) (by decide +kernel), gwT 1066 (by decide +kernel) (by decide +kernel), gwT 10 (by decide +kernel) (by decide +kernel), by decide +kernel, by decide +kernel, by decide +kernel⟩
theorem cl_R_215 : CLk R_R 215 y_R_handOut b_R_handOut 6 none [] 2 := ⟨gwT 1067 (by decide +kernel) (by decide +kernel), gwT 1070 (by decide +kernel) (by decide +kernel), gwT 10 (by decide +kernel) (by decide +kernel), by decide +kernel, by decide +kernel, by decide +kernel⟩
theorem cl_R_203 : CLk R_R 203 y_R_isMore b_R_isMore 21 (some (.boolean)) [] 4 := ⟨gwT 1071 (by decide +kernel) (by decide +kernel), gwT 1073 (by decide +kernel) (by decide +kernel), gwT 10 (by decide +kernel) (by decide +kernel), by decide +kernel, by decide +kernel, by decide +kernel⟩
theorem cl_L_134 : CLk R_L 134 y_R_amount b_R_amount 4 (some (.int)) [] 2 := ⟨gwT 1074 (by decide +kernel) (by decide +kernel), gwT 1077 (by decide +kernel) (by decide +kernel), gwT 10 (by decide +kernel) (by decide +kernel), by decide +kernel, by decide +kernel, by decide +kernel⟩
theorem cl_R_233 : CLk R_R 233 y_R_sumOf b_R_sumOf 2 (some (.int)) [] 1 := ⟨gwT 1078 (by decide +kernel) (by decide +kernel), gwT 1081 (by decide +kernel) (by decide +kernel), gwT 10 (by decide +kernel) (by decide +kernel), by decide +kernel, by decide +kernel, by decide +kernel⟩
theorem cl_L_141 : CLk R_L 141 y_R_part b_R_part 2 (some (.int)) [] 1 := ⟨gwT 1082 (by decide +kernel) (by decide +kernel), gwT 1085 (by decide +kernel) (by decide +kernel), gwT 10 (by decide +kernel) (by decide +kernel), by decide +kernel, by decide +kernel, by decide +kernel⟩
theorem cl_L_148 : CLk R_L 148 y_R_send b_R_send 1 (some (.int)) [] 0 := ⟨gwT 1086 (by decide +kernel) (by decide +kernel), gwT 1089 (by decide +kernel) (by decide +kernel), gwT 10 (by decide +kernel) (by decide +kernel), by decide +kernel, by decide +kernel, by decide +kernel⟩
theorem cl_R_236 : CLk R_R 236 y_R_sendAll b_R_sendAll 3 (some (.int)) [] 0 := ⟨gwT 1090 (by decide +kernel) (by decide +kernel), gwT 1093 (by decide +kernel) (by decide +kernel), gwT 10 (by decide +kernel) (by decide +kernel), by decide +kernel, by decide +kernel, by decide +kernel⟩
theorem cl_L_151 : CLk R_L 151 y_R_sent b_R_sent 2 (some (.int)) [] 1 := ⟨gwT 1094 (by decide +kernel) (by decide +kernel), gwT 1097 (by decide +kernel) (by decide +kernel), gwT 10 (by decide +kernel) (by decide +kernel), by decide +kernel, by decide +kernel, by decide +kernel⟩
theorem cl_L_154 : CLk R_L 154 y_R_closeYear b_R_closeYear 3 (some (.int)) [] 0 := ⟨gwT 1098 (by decide +kernel) (by decide +kernel), gwT 1101 (by decide +kernel) (by decide +kernel), gwT 10 (by decide +kernel) (by decide +kernel), by decide +kernel, by decide +kernel, by decide +kernel⟩
theorem cl_R_239 : CLk R_R 239 y_R_keepStock b_R_keepStock 5 none [] 0 := ⟨gwT 1102 (by decide +kernel) (by decide +kernel), gwT 1105 (by decide +kernel) (by decide +kernel), gwT 10 (by decide +kernel) (by decide +kernel), by decide +kernel, by decide +kernel, by decide +kernel⟩
theorem cl_R_242 : CLk R_R 242 y_R_nextYear b_R_nextYear 5 none [] 1 := ⟨gwT 1106 (by decide +kernel) (by decide +kernel), gwT 1109 (by decide +kernel) (by decide +kernel), gwT 10 (by decide +kernel) (by decide +kernel), by decide +kernel, by decide +kernel, by decide +kernel⟩
theorem cl_L_157 : CLk R_L 157 y_R_known b_R_known 2 (some (.int)) [] 1 := ⟨gwT 1110 (by decide +kernel) (by decide +kernel), gwT 1113 (by decide +kernel) (by decide +kernel), gwT 10 (by decide +kernel) (by decide +kernel), by decide +kernel, by decide +kernel, by decide +kernel⟩
theorem st_J_fill : Cond.static y_J_fill ∈ GW := gwT 41 (by decide +kernel) (by decide +kernel)
theorem im_H_bill : Cond.instanceMethod y_H_bill ∈ GW ∧ Cond.selects (y_H_bill).cls y_H_bill y_H_bill ∈ GW := ⟨gwT 268 (by decide +kernel) (by decide +kernel), gwT 269 (by decide +kernel) (by decide +kernel)⟩
theorem im_U_isBurned : Cond.instanceMethod y_U_isBurned ∈ GW ∧ Cond.selects (y_U_isBurned).cls y_U_isBurned y_U_isBurned ∈ GW := ⟨gwT 272 (by decide +kernel) (by decide +kernel), gwT 273 (by decide +kernel) (by decide +kernel)⟩
theorem im_U_burnedUnits : Cond.instanceMethod y_U_burnedUnits ∈ GW ∧ Cond.selects (y_U_burnedUnits).cls y_U_burnedUnits y_U_burnedUnits ∈ GW := ⟨gwT 276 (by decide +kernel) (by decide +kernel), gwT 277 (by decide +kernel) (by decide +kernel)⟩
theorem im_U_allUnits : Cond.instanceMethod y_U_allUnits ∈ GW ∧ Cond.selects (y_U_allUnits).cls y_U_allUnits y_U_allUnits ∈ GW := ⟨gwT 280 (by decide +kernel) (by decide +kernel), gwT 281 (by decide +kernel) (by decide +kernel)⟩
theorem im_M_look : Cond.instanceMethod y_M_look ∈ GW ∧ Cond.selects (y_M_look).cls y_M_look y_M_look ∈ GW := ⟨gwT 284 (by decide +kernel) (by decide +kernel), gwT 285 (by decide +kernel) (by decide +kernel)⟩
theorem im_M_sumRead : Cond.instanceMethod y_M_sumRead ∈ GW ∧ Cond.selects (y_M_sumRead).cls y_M_sumRead y_M_sumRead ∈ GW := ⟨gwT 289 (by decide +kernel) (by decide +kernel), gwS 0 (by decide +kernel) (by decide +kernel)⟩
theorem im_F_isMeterRead : Cond.instanceMethod y_F_isMeterRead ∈ GW ∧ Cond.selects (y_F_isMeterRead).cls y_F_isMeterRead y_F_isMeterRead ∈ GW := ⟨gwT 292 (by decide +kernel) (by decide +kernel), gwT 293 (by decide +kernel) (by decide +kernel)⟩
theorem im_F_unitsOfYear : Cond.instanceMethod y_F_unitsOfYear ∈ GW ∧ Cond.selects (y_F_unitsOfYear).cls y_F_unitsOfYear y_F_unitsOfYear ∈ GW := ⟨gwT 296 (by decide +kernel) (by decide +kernel), gwT 297 (by decide +kernel) (by decide +kernel)⟩
theorem im_F_unitsBetween : Cond.instanceMethod y_F_unitsBetween ∈ GW ∧ Cond.selects (y_F_unitsBetween).cls y_F_unitsBetween y_F_unitsBetween ∈ GW := ⟨gwT 300 (by decide +kernel) (by decide +kernel), gwT 301 (by decide +kernel) (by decide +kernel)⟩
theorem im_M_kindOf : Cond.instanceMethod y_M_kindOf ∈ GW ∧ Cond.selects (y_M_kindOf).cls y_M_kindOf y_M_kindOf ∈ GW := ⟨gwT 305 (by decide +kernel) (by decide +kernel), gwS 1 (by decide +kernel) (by decide +kernel)⟩
theorem im_M_scaledUnits : Cond.instanceMethod y_M_scaledUnits ∈ GW ∧ Cond.selects (y_M_scaledUnits).cls y_M_scaledUnits y_M_scaledUnits ∈ GW := ⟨gwT 309 (by decide +kernel) (by decide +kernel), gwS 2 (by decide +kernel) (by decide +kernel)⟩
theorem st_J_minJ : Cond.static y_J_minJ ∈ GW := gwT 313 (by decide +kernel) (by decide +kernel)
theorem im_P_lay : Cond.instanceMethod y_P_lay ∈ GW ∧ Cond.selects (y_P_lay).cls y_P_lay y_P_lay ∈ GW := ⟨gwT 316 (by decide +kernel) (by decide +kernel), gwT 317 (by decide +kernel) (by decide +kernel)⟩
theorem im_P_layFlat : Cond.instanceMethod y_P_layFlat ∈ GW ∧ Cond.selects (y_P_layFlat).cls y_P_layFlat y_P_layFlat ∈ GW := ⟨gwT 321 (by decide +kernel) (by decide +kernel), gwS 3 (by decide +kernel) (by decide +kernel)⟩
theorem im_F_hasChange : Cond.instanceMethod y_F_hasChange ∈ GW ∧ Cond.selects (y_F_hasChange).cls y_F_hasChange y_F_hasChange ∈ GW := ⟨gwT 324 (by decide +kernel) (by decide +kernel), gwT 325 (by decide +kernel) (by decide +kernel)⟩
theorem im_P_addSpan : Cond.instanceMethod y_P_addSpan ∈ GW ∧ Cond.selects (y_P_addSpan).cls y_P_addSpan y_P_addSpan ∈ GW := ⟨gwT 329 (by decide +kernel) (by decide +kernel), gwS 4 (by decide +kernel) (by decide +kernel)⟩
theorem im_M_areFitFor : Cond.instanceMethod y_M_areFitFor ∈ GW ∧ Cond.selects (y_M_areFitFor).cls y_M_areFitFor y_M_areFitFor ∈ GW := ⟨gwT 332 (by decide +kernel) (by decide +kernel), gwT 333 (by decide +kernel) (by decide +kernel)⟩
theorem im_O_allArea : Cond.instanceMethod y_O_allArea ∈ GW ∧ Cond.selects (y_O_allArea).cls y_O_allArea y_O_allArea ∈ GW := ⟨gwT 336 (by decide +kernel) (by decide +kernel), gwT 337 (by decide +kernel) (by decide +kernel)⟩
theorem im_P_cutStretches : Cond.instanceMethod y_P_cutStretches ∈ GW ∧ Cond.selects (y_P_cutStretches).cls y_P_cutStretches y_P_cutStretches ∈ GW := ⟨gwT 340 (by decide +kernel) (by decide +kernel), gwT 341 (by decide +kernel) (by decide +kernel)⟩
theorem im_M_endsStretch : Cond.instanceMethod y_M_endsStretch ∈ GW ∧ Cond.selects (y_M_endsStretch).cls y_M_endsStretch y_M_endsStretch ∈ GW := ⟨gwT 344 (by decide +kernel) (by decide +kernel), gwT 345 (by decide +kernel) (by decide +kernel)⟩
theorem im_H_hasDegreesOfYear : Cond.instanceMethod y_H_hasDegreesOfYear ∈ GW ∧ Cond.selects (y_H_hasDegreesOfYear).cls y_H_hasDegreesOfYear y_H_hasDegreesOfYear ∈ GW := ⟨gwT 349 (by decide +kernel) (by decide +kernel), gwS 5 (by decide +kernel) (by decide +kernel)⟩
theorem im_H_setBillParts : Cond.instanceMethod y_H_setBillParts ∈ GW ∧ Cond.selects (y_H_setBillParts).cls y_H_setBillParts y_H_setBillParts ∈ GW := ⟨gwT 353 (by decide +kernel) (by decide +kernel), gwS 6 (by decide +kernel) (by decide +kernel)⟩
theorem im_U_burnedCents : Cond.instanceMethod y_U_burnedCents ∈ GW ∧ Cond.selects (y_U_burnedCents).cls y_U_burnedCents y_U_burnedCents ∈ GW := ⟨gwT 357 (by decide +kernel) (by decide +kernel), gwT 358 (by decide +kernel) (by decide +kernel)⟩
theorem im_U_stockCents : Cond.instanceMethod y_U_stockCents ∈ GW ∧ Cond.selects (y_U_stockCents).cls y_U_stockCents y_U_stockCents ∈ GW := ⟨gwT 361 (by decide +kernel) (by decide +kernel), gwT 362 (by decide +kernel) (by decide +kernel)⟩
theorem im_U_stockUnits : Cond.instanceMethod y_U_stockUnits ∈ GW ∧ Cond.selects (y_U_stockUnits).cls y_U_stockUnits y_U_stockUnits ∈ GW := ⟨gwT 365 (by decide +kernel) (by decide +kernel), gwT 366 (by decide +kernel) (by decide +kernel)⟩
theorem st_J_minI : Cond.static y_J_minI ∈ GW := gwT 369 (by decide +kernel) (by decide +kernel)
theorem st_J_maxI : Cond.static y_J_maxI ∈ GW := gwT 372 (by decide +kernel) (by decide +kernel)
theorem im_H_waterUnits : Cond.instanceMethod y_H_waterUnits ∈ GW ∧ Cond.selects (y_H_waterUnits).cls y_H_waterUnits y_H_waterUnits ∈ GW := ⟨gwT 376 (by decide +kernel) (by decide +kernel), gwS 7 (by decide +kernel) (by decide +kernel)⟩
theorem im_H_shareParts : Cond.instanceMethod y_H_shareParts ∈ GW ∧ Cond.selects (y_H_shareParts).cls y_H_shareParts y_H_shareParts ∈ GW := ⟨gwT 384 (by decide +kernel) (by decide +kernel), gwS 8 (by decide +kernel) (by decide +kernel)⟩
theorem im_A_clearOwed : Cond.instanceMethod y_A_clearOwed ∈ GW ∧ Cond.selects (y_A_clearOwed).cls y_A_clearOwed y_A_clearOwed ∈ GW := ⟨gwT 387 (by decide +kernel) (by decide +kernel), gwT 388 (by decide +kernel) (by decide +kernel)⟩
theorem im_S_weighByArea : Cond.instanceMethod y_S_weighByArea ∈ GW ∧ Cond.selects (y_S_weighByArea).cls y_S_weighByArea y_S_weighByArea ∈ GW := ⟨gwT 392 (by decide +kernel) (by decide +kernel), gwT 393 (by decide +kernel) (by decide +kernel)⟩
theorem im_P_months : Cond.instanceMethod y_P_months ∈ GW ∧ Cond.selects (y_P_months).cls y_P_months y_P_months ∈ GW := ⟨gwT 396 (by decide +kernel) (by decide +kernel), gwT 397 (by decide +kernel) (by decide +kernel)⟩
theorem im_S_setWhole : Cond.instanceMethod y_S_setWhole ∈ GW ∧ Cond.selects (y_S_setWhole).cls y_S_setWhole y_S_setWhole ∈ GW := ⟨gwT 401 (by decide +kernel) (by decide +kernel), gwS 9 (by decide +kernel) (by decide +kernel)⟩
theorem im_H_sharePart : Cond.instanceMethod y_H_sharePart ∈ GW ∧ Cond.selects (y_H_sharePart).cls y_H_sharePart y_H_sharePart ∈ GW := ⟨gwT 405 (by decide +kernel) (by decide +kernel), gwS 10 (by decide +kernel) (by decide +kernel)⟩
theorem im_S_split : Cond.instanceMethod y_S_split ∈ GW ∧ Cond.selects (y_S_split).cls y_S_split y_S_split ∈ GW := ⟨gwT 408 (by decide +kernel) (by decide +kernel), gwT 409 (by decide +kernel) (by decide +kernel)⟩
theorem im_S_roundDown : Cond.instanceMethod y_S_roundDown ∈ GW ∧ Cond.selects (y_S_roundDown).cls y_S_roundDown y_S_roundDown ∈ GW := ⟨gwT 413 (by decide +kernel) (by decide +kernel), gwS 11 (by decide +kernel) (by decide +kernel)⟩
theorem im_S_greatestCutOff : Cond.instanceMethod y_S_greatestCutOff ∈ GW ∧ Cond.selects (y_S_greatestCutOff).cls y_S_greatestCutOff y_S_greatestCutOff ∈ GW := ⟨gwT 417 (by decide +kernel) (by decide +kernel), gwS 12 (by decide +kernel) (by decide +kernel)⟩
theorem im_O_hasWaterArea : Cond.instanceMethod y_O_hasWaterArea ∈ GW ∧ Cond.selects (y_O_hasWaterArea).cls y_O_hasWaterArea y_O_hasWaterArea ∈ GW := ⟨gwT 420 (by decide +kernel) (by decide +kernel), gwT 421 (by decide +kernel) (by decide +kernel)⟩
theorem im_S_weighByWaterArea : Cond.instanceMethod y_S_weighByWaterArea ∈ GW ∧ Cond.selects (y_S_weighByWaterArea).cls y_S_weighByWaterArea y_S_weighByWaterArea ∈ GW := ⟨gwT 424 (by decide +kernel) (by decide +kernel), gwT 425 (by decide +kernel) (by decide +kernel)⟩
theorem im_S_weighByMeters : Cond.instanceMethod y_S_weighByMeters ∈ GW ∧ Cond.selects (y_S_weighByMeters).cls y_S_weighByMeters y_S_weighByMeters ∈ GW := ⟨gwT 428 (by decide +kernel) (by decide +kernel), gwT 429 (by decide +kernel) (by decide +kernel)⟩
theorem im_M_stretchUnits : Cond.instanceMethod y_M_stretchUnits ∈ GW ∧ Cond.selects (y_M_stretchUnits).cls y_M_stretchUnits y_M_stretchUnits ∈ GW := ⟨gwT 433 (by decide +kernel) (by decide +kernel), gwT 434 (by decide +kernel) (by decide +kernel)⟩
theorem im_S_addStretch : Cond.instanceMethod y_S_addStretch ∈ GW ∧ Cond.selects (y_S_addStretch).cls y_S_addStretch y_S_addStretch ∈ GW := ⟨gwT 439 (by decide +kernel) (by decide +kernel), gwS 13 (by decide +kernel) (by decide +kernel)⟩
theorem st_S_sumBetween : Cond.static y_S_sumBetween ∈ GW := gwT 444 (by decide +kernel) (by decide +kernel)
theorem st_L_flat : Cond.static y_L_flat ∈ GW := gwT 447 (by decide +kernel) (by decide +kernel)
theorem im_H_flat : Cond.instanceMethod y_H_flat ∈ GW ∧ Cond.selects (y_H_flat).cls y_H_flat y_H_flat ∈ GW := ⟨gwT 452 (by decide +kernel) (by decide +kernel), gwT 453 (by decide +kernel) (by decide +kernel)⟩
theorem st_H_isOutside : Cond.static y_H_isOutside ∈ GW := gwT 456 (by decide +kernel) (by decide +kernel)
theorem im_O_addFlat : Cond.instanceMethod y_O_addFlat ∈ GW ∧ Cond.selects (y_O_addFlat).cls y_O_addFlat y_O_addFlat ∈ GW := ⟨gwT 544 (by decide +kernel) (by decide +kernel), gwT 545 (by decide +kernel) (by decide +kernel)⟩
theorem st_L_reading : Cond.static y_L_reading ∈ GW := gwT 548 (by decide +kernel) (by decide +kernel)
theorem im_H_reading : Cond.instanceMethod y_H_reading ∈ GW ∧ Cond.selects (y_H_reading).cls y_H_reading y_H_reading ∈ GW := ⟨gwT 552 (by decide +kernel) (by decide +kernel), gwT 553 (by decide +kernel) (by decide +kernel)⟩
theorem im_H_needFlat : Cond.instanceMethod y_H_needFlat ∈ GW ∧ Cond.selects (y_H_needFlat).cls y_H_needFlat y_H_needFlat ∈ GW := ⟨gwT 557 (by decide +kernel) (by decide +kernel), gwS 15 (by decide +kernel) (by decide +kernel)⟩
theorem st_L_enter : Cond.static y_L_enter ∈ GW := gwT 578 (by decide +kernel) (by decide +kernel)
theorem im_H_enter : Cond.instanceMethod y_H_enter ∈ GW ∧ Cond.selects (y_H_enter).cls y_H_enter y_H_enter ∈ GW := ⟨gwT 582 (by decide +kernel) (by decide +kernel), gwT 583 (by decide +kernel) (by decide +kernel)⟩
theorem im_H_needRoomForChange : Cond.instanceMethod y_H_needRoomForChange ∈ GW ∧ Cond.selects (y_H_needRoomForChange).cls y_H_needRoomForChange y_H_needRoomForChange ∈ GW := ⟨gwT 587 (by decide +kernel) (by decide +kernel), gwS 16 (by decide +kernel) (by decide +kernel)⟩
theorem im_A_addTenant : Cond.instanceMethod y_A_addTenant ∈ GW ∧ Cond.selects (y_A_addTenant).cls y_A_addTenant y_A_addTenant ∈ GW := ⟨gwT 608 (by decide +kernel) (by decide +kernel), gwT 609 (by decide +kernel) (by decide +kernel)⟩
theorem st_L_leave : Cond.static y_L_leave ∈ GW := gwT 612 (by decide +kernel) (by decide +kernel)
theorem im_H_leave : Cond.instanceMethod y_H_leave ∈ GW ∧ Cond.selects (y_H_leave).cls y_H_leave y_H_leave ∈ GW := ⟨gwT 615 (by decide +kernel) (by decide +kernel), gwT 616 (by decide +kernel) (by decide +kernel)⟩
theorem st_L_deliver : Cond.static y_L_deliver ∈ GW := gwT 619 (by decide +kernel) (by decide +kernel)
theorem im_H_deliver : Cond.instanceMethod y_H_deliver ∈ GW ∧ Cond.selects (y_H_deliver).cls y_H_deliver y_H_deliver ∈ GW := ⟨gwT 622 (by decide +kernel) (by decide +kernel), gwT 623 (by decide +kernel) (by decide +kernel)⟩
theorem im_U_addLayer : Cond.instanceMethod y_U_addLayer ∈ GW ∧ Cond.selects (y_U_addLayer).cls y_U_addLayer y_U_addLayer ∈ GW := ⟨gwT 628 (by decide +kernel) (by decide +kernel), gwT 629 (by decide +kernel) (by decide +kernel)⟩
theorem st_L_endStock : Cond.static y_L_endStock ∈ GW := gwT 632 (by decide +kernel) (by decide +kernel)
theorem im_H_endStock : Cond.instanceMethod y_H_endStock ∈ GW ∧ Cond.selects (y_H_endStock).cls y_H_endStock y_H_endStock ∈ GW := ⟨gwT 635 (by decide +kernel) (by decide +kernel), gwT 636 (by decide +kernel) (by decide +kernel)⟩
theorem st_L_sideCosts : Cond.static y_L_sideCosts ∈ GW := gwT 641 (by decide +kernel) (by decide +kernel)
theorem im_H_sideCosts : Cond.instanceMethod y_H_sideCosts ∈ GW ∧ Cond.selects (y_H_sideCosts).cls y_H_sideCosts y_H_sideCosts ∈ GW := ⟨gwT 644 (by decide +kernel) (by decide +kernel), gwT 645 (by decide +kernel) (by decide +kernel)⟩
theorem st_L_water : Cond.static y_L_water ∈ GW := gwT 649 (by decide +kernel) (by decide +kernel)
theorem im_H_water : Cond.instanceMethod y_H_water ∈ GW ∧ Cond.selects (y_H_water).cls y_H_water y_H_water ∈ GW := ⟨gwT 652 (by decide +kernel) (by decide +kernel), gwT 653 (by decide +kernel) (by decide +kernel)⟩
theorem st_L_permille : Cond.static y_L_permille ∈ GW := gwT 658 (by decide +kernel) (by decide +kernel)
theorem im_H_permille : Cond.instanceMethod y_H_permille ∈ GW ∧ Cond.selects (y_H_permille).cls y_H_permille y_H_permille ∈ GW := ⟨gwT 661 (by decide +kernel) (by decide +kernel), gwT 662 (by decide +kernel) (by decide +kernel)⟩
theorem st_L_degrees : Cond.static y_L_degrees ∈ GW := gwT 666 (by decide +kernel) (by decide +kernel)
theorem im_H_degrees : Cond.instanceMethod y_H_degrees ∈ GW ∧ Cond.selects (y_H_degrees).cls y_H_degrees y_H_degrees ∈ GW := ⟨gwT 669 (by decide +kernel) (by decide +kernel), gwT 670 (by decide +kernel) (by decide +kernel)⟩
theorem st_L_prepay : Cond.static y_L_prepay ∈ GW := gwT 675 (by decide +kernel) (by decide +kernel)
theorem im_H_prepay : Cond.instanceMethod y_H_prepay ∈ GW ∧ Cond.selects (y_H_prepay).cls y_H_prepay y_H_prepay ∈ GW := ⟨gwT 678 (by decide +kernel) (by decide +kernel), gwT 679 (by decide +kernel) (by decide +kernel)⟩
theorem im_H_needTenant : Cond.instanceMethod y_H_needTenant ∈ GW ∧ Cond.selects (y_H_needTenant).cls y_H_needTenant y_H_needTenant ∈ GW := ⟨gwT 683 (by decide +kernel) (by decide +kernel), gwS 17 (by decide +kernel) (by decide +kernel)⟩
theorem st_L_amount : Cond.static y_L_amount ∈ GW := gwT 688 (by decide +kernel) (by decide +kernel)
theorem im_H_amount : Cond.instanceMethod y_H_amount ∈ GW ∧ Cond.selects (y_H_amount).cls y_H_amount y_H_amount ∈ GW := ⟨gwT 691 (by decide +kernel) (by decide +kernel), gwT 692 (by decide +kernel) (by decide +kernel)⟩
theorem im_H_needBill : Cond.instanceMethod y_H_needBill ∈ GW ∧ Cond.selects (y_H_needBill).cls y_H_needBill y_H_needBill ∈ GW := ⟨gwT 696 (by decide +kernel) (by decide +kernel), gwS 18 (by decide +kernel) (by decide +kernel)⟩
theorem im_H_needTenantOrLandlord : Cond.instanceMethod y_H_needTenantOrLandlord ∈ GW ∧ Cond.selects (y_H_needTenantOrLandlord).cls y_H_needTenantOrLandlord y_H_needTenantOrLandlord ∈ GW := ⟨gwT 701 (by decide +kernel) (by decide +kernel), gwS 19 (by decide +kernel) (by decide +kernel)⟩
theorem im_A_owedInAll : Cond.instanceMethod y_A_owedInAll ∈ GW ∧ Cond.selects (y_A_owedInAll).cls y_A_owedInAll y_A_owedInAll ∈ GW := ⟨gwT 705 (by decide +kernel) (by decide +kernel), gwT 706 (by decide +kernel) (by decide +kernel)⟩
theorem st_L_paid : Cond.static y_L_paid ∈ GW := gwT 709 (by decide +kernel) (by decide +kernel)
theorem im_H_paid : Cond.instanceMethod y_H_paid ∈ GW ∧ Cond.selects (y_H_paid).cls y_H_paid y_H_paid ∈ GW := ⟨gwT 712 (by decide +kernel) (by decide +kernel), gwT 713 (by decide +kernel) (by decide +kernel)⟩
theorem st_L_part : Cond.static y_L_part ∈ GW := gwT 716 (by decide +kernel) (by decide +kernel)
theorem im_H_part : Cond.instanceMethod y_H_part ∈ GW ∧ Cond.selects (y_H_part).cls y_H_part y_H_part ∈ GW := ⟨gwT 719 (by decide +kernel) (by decide +kernel), gwT 720 (by decide +kernel) (by decide +kernel)⟩
theorem st_L_replaced : Cond.static y_L_replaced ∈ GW := gwT 723 (by decide +kernel) (by decide +kernel)
theorem im_H_replaced : Cond.instanceMethod y_H_replaced ∈ GW ∧ Cond.selects (y_H_replaced).cls y_H_replaced y_H_replaced ∈ GW := ⟨gwT 726 (by decide +kernel) (by decide +kernel), gwT 727 (by decide +kernel) (by decide +kernel)⟩
theorem st_L_send : Cond.static y_L_send ∈ GW := gwT 730 (by decide +kernel) (by decide +kernel)
theorem im_H_send : Cond.instanceMethod y_H_send ∈ GW ∧ Cond.selects (y_H_send).cls y_H_send y_H_send ∈ GW := ⟨gwT 733 (by decide +kernel) (by decide +kernel), gwT 734 (by decide +kernel) (by decide +kernel)⟩
theorem im_A_post : Cond.instanceMethod y_A_post ∈ GW ∧ Cond.selects (y_A_post).cls y_A_post y_A_post ∈ GW := ⟨gwT 737 (by decide +kernel) (by decide +kernel), gwT 738 (by decide +kernel) (by decide +kernel)⟩
theorem st_L_sent : Cond.static y_L_sent ∈ GW := gwT 742 (by decide +kernel) (by decide +kernel)
theorem im_H_sent : Cond.instanceMethod y_H_sent ∈ GW ∧ Cond.selects (y_H_sent).cls y_H_sent y_H_sent ∈ GW := ⟨gwT 745 (by decide +kernel) (by decide +kernel), gwT 746 (by decide +kernel) (by decide +kernel)⟩
theorem st_L_closeYear : Cond.static y_L_closeYear ∈ GW := gwT 749 (by decide +kernel) (by decide +kernel)
theorem im_H_closeYear : Cond.instanceMethod y_H_closeYear ∈ GW ∧ Cond.selects (y_H_closeYear).cls y_H_closeYear y_H_closeYear ∈ GW := ⟨gwT 752 (by decide +kernel) (by decide +kernel), gwT 753 (by decide +kernel) (by decide +kernel)⟩
theorem im_A_startYear : Cond.instanceMethod y_A_startYear ∈ GW ∧ Cond.selects (y_A_startYear).cls y_A_startYear y_A_startYear ∈ GW := ⟨gwT 756 (by decide +kernel) (by decide +kernel), gwT 757 (by decide +kernel) (by decide +kernel)⟩
theorem im_M_wholeUnits : Cond.instanceMethod y_M_wholeUnits ∈ GW ∧ Cond.selects (y_M_wholeUnits).cls y_M_wholeUnits y_M_wholeUnits ∈ GW := ⟨gwT 760 (by decide +kernel) (by decide +kernel), gwT 761 (by decide +kernel) (by decide +kernel)⟩
theorem im_F_startYear : Cond.instanceMethod y_F_startYear ∈ GW ∧ Cond.selects (y_F_startYear).cls y_F_startYear y_F_startYear ∈ GW := ⟨gwT 764 (by decide +kernel) (by decide +kernel), gwT 765 (by decide +kernel) (by decide +kernel)⟩
theorem im_F_holderAtEnd : Cond.instanceMethod y_F_holderAtEnd ∈ GW ∧ Cond.selects (y_F_holderAtEnd).cls y_F_holderAtEnd y_F_holderAtEnd ∈ GW := ⟨gwT 768 (by decide +kernel) (by decide +kernel), gwT 769 (by decide +kernel) (by decide +kernel)⟩
theorem im_U_keepStock : Cond.instanceMethod y_U_keepStock ∈ GW ∧ Cond.selects (y_U_keepStock).cls y_U_keepStock y_U_keepStock ∈ GW := ⟨gwT 773 (by decide +kernel) (by decide +kernel), gwT 774 (by decide +kernel) (by decide +kernel)⟩
theorem st_L_known : Cond.static y_L_known ∈ GW := gwT 777 (by decide +kernel) (by decide +kernel)
theorem im_H_known : Cond.instanceMethod y_H_known ∈ GW ∧ Cond.selects (y_H_known).cls y_H_known y_H_known ∈ GW := ⟨gwT 780 (by decide +kernel) (by decide +kernel), gwT 781 (by decide +kernel) (by decide +kernel)⟩
theorem im_R_thrown : Cond.instanceMethod y_R_thrown ∈ GW ∧ Cond.selects (y_R_thrown).cls y_R_thrown y_R_thrown ∈ GW := ⟨gwT 906 (by decide +kernel) (by decide +kernel), gwT 907 (by decide +kernel) (by decide +kernel)⟩
theorem im_R_flat : Cond.instanceMethod y_R_flat ∈ GW ∧ Cond.selects (y_R_flat).cls y_R_flat y_R_flat ∈ GW := ⟨gwT 910 (by decide +kernel) (by decide +kernel), gwT 911 (by decide +kernel) (by decide +kernel)⟩
theorem st_R_within : Cond.static y_R_within ∈ GW := gwT 914 (by decide +kernel) (by decide +kernel)
theorem im_R_reading : Cond.instanceMethod y_R_reading ∈ GW ∧ Cond.selects (y_R_reading).cls y_R_reading y_R_reading ∈ GW := ⟨gwT 917 (by decide +kernel) (by decide +kernel), gwT 918 (by decide +kernel) (by decide +kernel)⟩
theorem im_R_isFlat : Cond.instanceMethod y_R_isFlat ∈ GW ∧ Cond.selects (y_R_isFlat).cls y_R_isFlat y_R_isFlat ∈ GW := ⟨gwT 922 (by decide +kernel) (by decide +kernel), gwS 20 (by decide +kernel) (by decide +kernel)⟩
theorem im_R_enter : Cond.instanceMethod y_R_enter ∈ GW ∧ Cond.selects (y_R_enter).cls y_R_enter y_R_enter ∈ GW := ⟨gwT 925 (by decide +kernel) (by decide +kernel), gwT 926 (by decide +kernel) (by decide +kernel)⟩
theorem im_R_wrongChange : Cond.instanceMethod y_R_wrongChange ∈ GW ∧ Cond.selects (y_R_wrongChange).cls y_R_wrongChange y_R_wrongChange ∈ GW := ⟨gwT 930 (by decide +kernel) (by decide +kernel), gwS 21 (by decide +kernel) (by decide +kernel)⟩
theorem im_R_leave : Cond.instanceMethod y_R_leave ∈ GW ∧ Cond.selects (y_R_leave).cls y_R_leave y_R_leave ∈ GW := ⟨gwT 933 (by decide +kernel) (by decide +kernel), gwT 934 (by decide +kernel) (by decide +kernel)⟩
theorem im_R_deliver : Cond.instanceMethod y_R_deliver ∈ GW ∧ Cond.selects (y_R_deliver).cls y_R_deliver y_R_deliver ∈ GW := ⟨gwT 937 (by decide +kernel) (by decide +kernel), gwT 938 (by decide +kernel) (by decide +kernel)⟩
theorem im_R_endStock : Cond.instanceMethod y_R_endStock ∈ GW ∧ Cond.selects (y_R_endStock).cls y_R_endStock y_R_endStock ∈ GW := ⟨gwT 941 (by decide +kernel) (by decide +kernel), gwT 942 (by decide +kernel) (by decide +kernel)⟩
theorem im_R_allUnits : Cond.instanceMethod y_R_allUnits ∈ GW ∧ Cond.selects (y_R_allUnits).cls y_R_allUnits y_R_allUnits ∈ GW := ⟨gwT 946 (by decide +kernel) (by decide +kernel), gwS 22 (by decide +kernel) (by decide +kernel)⟩
theorem im_R_sideCosts : Cond.instanceMethod y_R_sideCosts ∈ GW ∧ Cond.selects (y_R_sideCosts).cls y_R_sideCosts y_R_sideCosts ∈ GW := ⟨gwT 949 (by decide +kernel) (by decide +kernel), gwT 950 (by decide +kernel) (by decide +kernel)⟩
theorem im_R_water : Cond.instanceMethod y_R_water ∈ GW ∧ Cond.selects (y_R_water).cls y_R_water y_R_water ∈ GW := ⟨gwT 953 (by decide +kernel) (by decide +kernel), gwT 954 (by decide +kernel) (by decide +kernel)⟩
theorem im_R_permille : Cond.instanceMethod y_R_permille ∈ GW ∧ Cond.selects (y_R_permille).cls y_R_permille y_R_permille ∈ GW := ⟨gwT 958 (by decide +kernel) (by decide +kernel), gwT 959 (by decide +kernel) (by decide +kernel)⟩
theorem im_R_degrees : Cond.instanceMethod y_R_degrees ∈ GW ∧ Cond.selects (y_R_degrees).cls y_R_degrees y_R_degrees ∈ GW := ⟨gwT 962 (by decide +kernel) (by decide +kernel), gwT 963 (by decide +kernel) (by decide +kernel)⟩
theorem im_R_prepay : Cond.instanceMethod y_R_prepay ∈ GW ∧ Cond.selects (y_R_prepay).cls y_R_prepay y_R_prepay ∈ GW := ⟨gwT 966 (by decide +kernel) (by decide +kernel), gwT 967 (by decide +kernel) (by decide +kernel)⟩
theorem im_R_isTenant : Cond.instanceMethod y_R_isTenant ∈ GW ∧ Cond.selects (y_R_isTenant).cls y_R_isTenant y_R_isTenant ∈ GW := ⟨gwT 971 (by decide +kernel) (by decide +kernel), gwS 23 (by decide +kernel) (by decide +kernel)⟩
theorem im_R_paid : Cond.instanceMethod y_R_paid ∈ GW ∧ Cond.selects (y_R_paid).cls y_R_paid y_R_paid ∈ GW := ⟨gwT 975 (by decide +kernel) (by decide +kernel), gwT 976 (by decide +kernel) (by decide +kernel)⟩
theorem im_R_replaced : Cond.instanceMethod y_R_replaced ∈ GW ∧ Cond.selects (y_R_replaced).cls y_R_replaced y_R_replaced ∈ GW := ⟨gwT 979 (by decide +kernel) (by decide +kernel), gwT 980 (by decide +kernel) (by decide +kernel)⟩
theorem im_R_look : Cond.instanceMethod y_R_look ∈ GW ∧ Cond.selects (y_R_look).cls y_R_look y_R_look ∈ GW := ⟨gwT 984 (by decide +kernel) (by decide +kernel), gwS 24 (by decide +kernel) (by decide +kernel)⟩
theorem im_R_isRead : Cond.instanceMethod y_R_isRead ∈ GW ∧ Cond.selects (y_R_isRead).cls y_R_isRead y_R_isRead ∈ GW := ⟨gwT 988 (by decide +kernel) (by decide +kernel), gwS 25 (by decide +kernel) (by decide +kernel)⟩
theorem im_R_measured : Cond.instanceMethod y_R_measured ∈ GW ∧ Cond.selects (y_R_measured).cls y_R_measured y_R_measured ∈ GW := ⟨gwT 992 (by decide +kernel) (by decide +kernel), gwS 26 (by decide +kernel) (by decide +kernel)⟩
theorem im_R_kindOf : Cond.instanceMethod y_R_kindOf ∈ GW ∧ Cond.selects (y_R_kindOf).cls y_R_kindOf y_R_kindOf ∈ GW := ⟨gwT 996 (by decide +kernel) (by decide +kernel), gwS 27 (by decide +kernel) (by decide +kernel)⟩
theorem im_R_bill : Cond.instanceMethod y_R_bill ∈ GW ∧ Cond.selects (y_R_bill).cls y_R_bill y_R_bill ∈ GW := ⟨gwT 1000 (by decide +kernel) (by decide +kernel), gwT 1001 (by decide +kernel) (by decide +kernel)⟩
theorem im_R_isByArea : Cond.instanceMethod y_R_isByArea ∈ GW ∧ Cond.selects (y_R_isByArea).cls y_R_isByArea y_R_isByArea ∈ GW := ⟨gwT 1005 (by decide +kernel) (by decide +kernel), gwS 28 (by decide +kernel) (by decide +kernel)⟩
theorem im_R_needsDegrees : Cond.instanceMethod y_R_needsDegrees ∈ GW ∧ Cond.selects (y_R_needsDegrees).cls y_R_needsDegrees y_R_needsDegrees ∈ GW := ⟨gwT 1009 (by decide +kernel) (by decide +kernel), gwS 29 (by decide +kernel) (by decide +kernel)⟩
theorem im_R_changeAt : Cond.instanceMethod y_R_changeAt ∈ GW ∧ Cond.selects (y_R_changeAt).cls y_R_changeAt y_R_changeAt ∈ GW := ⟨gwT 1013 (by decide +kernel) (by decide +kernel), gwS 30 (by decide +kernel) (by decide +kernel)⟩
theorem im_R_stretchOf : Cond.instanceMethod y_R_stretchOf ∈ GW ∧ Cond.selects (y_R_stretchOf).cls y_R_stretchOf y_R_stretchOf ∈ GW := ⟨gwT 1017 (by decide +kernel) (by decide +kernel), gwS 31 (by decide +kernel) (by decide +kernel)⟩
theorem im_R_degreesOf : Cond.instanceMethod y_R_degreesOf ∈ GW ∧ Cond.selects (y_R_degreesOf).cls y_R_degreesOf y_R_degreesOf ∈ GW := ⟨gwT 1021 (by decide +kernel) (by decide +kernel), gwS 32 (by decide +kernel) (by decide +kernel)⟩
theorem im_R_findParts : Cond.instanceMethod y_R_findParts ∈ GW ∧ Cond.selects (y_R_findParts).cls y_R_findParts y_R_findParts ∈ GW := ⟨gwT 1025 (by decide +kernel) (by decide +kernel), gwS 33 (by decide +kernel) (by decide +kernel)⟩
theorem im_R_centsInStock : Cond.instanceMethod y_R_centsInStock ∈ GW ∧ Cond.selects (y_R_centsInStock).cls y_R_centsInStock y_R_centsInStock ∈ GW := ⟨gwT 1029 (by decide +kernel) (by decide +kernel), gwS 34 (by decide +kernel) (by decide +kernel)⟩
theorem im_R_inStock : Cond.instanceMethod y_R_inStock ∈ GW ∧ Cond.selects (y_R_inStock).cls y_R_inStock y_R_inStock ∈ GW := ⟨gwT 1033 (by decide +kernel) (by decide +kernel), gwS 35 (by decide +kernel) (by decide +kernel)⟩
theorem im_R_share : Cond.instanceMethod y_R_share ∈ GW ∧ Cond.selects (y_R_share).cls y_R_share y_R_share ∈ GW := ⟨gwT 1040 (by decide +kernel) (by decide +kernel), gwS 36 (by decide +kernel) (by decide +kernel)⟩
theorem im_R_spansBy : Cond.instanceMethod y_R_spansBy ∈ GW ∧ Cond.selects (y_R_spansBy).cls y_R_spansBy y_R_spansBy ∈ GW := ⟨gwT 1044 (by decide +kernel) (by decide +kernel), gwS 37 (by decide +kernel) (by decide +kernel)⟩
theorem im_R_holderAt : Cond.instanceMethod y_R_holderAt ∈ GW ∧ Cond.selects (y_R_holderAt).cls y_R_holderAt y_R_holderAt ∈ GW := ⟨gwT 1048 (by decide +kernel) (by decide +kernel), gwS 38 (by decide +kernel) (by decide +kernel)⟩
theorem im_R_endOf : Cond.instanceMethod y_R_endOf ∈ GW ∧ Cond.selects (y_R_endOf).cls y_R_endOf y_R_endOf ∈ GW := ⟨gwT 1052 (by decide +kernel) (by decide +kernel), gwS 39 (by decide +kernel) (by decide +kernel)⟩
theorem im_R_span : Cond.instanceMethod y_R_span ∈ GW ∧ Cond.selects (y_R_span).cls y_R_span y_R_span ∈ GW := ⟨gwT 1057 (by decide +kernel) (by decide +kernel), gwS 40 (by decide +kernel) (by decide +kernel)⟩
theorem im_R_spanByMeter : Cond.instanceMethod y_R_spanByMeter ∈ GW ∧ Cond.selects (y_R_spanByMeter).cls y_R_spanByMeter y_R_spanByMeter ∈ GW := ⟨gwT 1061 (by decide +kernel) (by decide +kernel), gwS 41 (by decide +kernel) (by decide +kernel)⟩
theorem im_R_weight : Cond.instanceMethod y_R_weight ∈ GW ∧ Cond.selects (y_R_weight).cls y_R_weight y_R_weight ∈ GW := ⟨gwT 1065 (by decide +kernel) (by decide +kernel), gwS 42 (by decide +kernel) (by decide +kernel)⟩
theorem im_R_handOut : Cond.instanceMethod y_R_handOut ∈ GW ∧ Cond.selects (y_R_handOut).cls y_R_handOut y_R_handOut ∈ GW := ⟨gwT 1069 (by decide +kernel) (by decide +kernel), gwS 43 (by decide +kernel) (by decide +kernel)⟩
theorem st_R_isMore : Cond.static y_R_isMore ∈ GW := gwT 1072 (by decide +kernel) (by decide +kernel)
theorem im_R_amount : Cond.instanceMethod y_R_amount ∈ GW ∧ Cond.selects (y_R_amount).cls y_R_amount y_R_amount ∈ GW := ⟨gwT 1075 (by decide +kernel) (by decide +kernel), gwT 1076 (by decide +kernel) (by decide +kernel)⟩
theorem im_R_sumOf : Cond.instanceMethod y_R_sumOf ∈ GW ∧ Cond.selects (y_R_sumOf).cls y_R_sumOf y_R_sumOf ∈ GW := ⟨gwT 1080 (by decide +kernel) (by decide +kernel), gwS 44 (by decide +kernel) (by decide +kernel)⟩
theorem im_R_part : Cond.instanceMethod y_R_part ∈ GW ∧ Cond.selects (y_R_part).cls y_R_part y_R_part ∈ GW := ⟨gwT 1083 (by decide +kernel) (by decide +kernel), gwT 1084 (by decide +kernel) (by decide +kernel)⟩
theorem im_R_send : Cond.instanceMethod y_R_send ∈ GW ∧ Cond.selects (y_R_send).cls y_R_send y_R_send ∈ GW := ⟨gwT 1087 (by decide +kernel) (by decide +kernel), gwT 1088 (by decide +kernel) (by decide +kernel)⟩
theorem im_R_sendAll : Cond.instanceMethod y_R_sendAll ∈ GW ∧ Cond.selects (y_R_sendAll).cls y_R_sendAll y_R_sendAll ∈ GW := ⟨gwT 1092 (by decide +kernel) (by decide +kernel), gwS 45 (by decide +kernel) (by decide +kernel)⟩
theorem im_R_sent : Cond.instanceMethod y_R_sent ∈ GW ∧ Cond.selects (y_R_sent).cls y_R_sent y_R_sent ∈ GW := ⟨gwT 1095 (by decide +kernel) (by decide +kernel), gwT 1096 (by decide +kernel) (by decide +kernel)⟩
theorem im_R_closeYear : Cond.instanceMethod y_R_closeYear ∈ GW ∧ Cond.selects (y_R_closeYear).cls y_R_closeYear y_R_closeYear ∈ GW := ⟨gwT 1099 (by decide +kernel) (by decide +kernel), gwT 1100 (by decide +kernel) (by decide +kernel)⟩
theorem im_R_keepStock : Cond.instanceMethod y_R_keepStock ∈ GW ∧ Cond.selects (y_R_keepStock).cls y_R_keepStock y_R_keepStock ∈ GW := ⟨gwT 1104 (by decide +kernel) (by decide +kernel), gwS 46 (by decide +kernel) (by decide +kernel)⟩
theorem im_R_nextYear : Cond.instanceMethod y_R_nextYear ∈ GW ∧ Cond.selects (y_R_nextYear).cls y_R_nextYear y_R_nextYear ∈ GW := ⟨gwT 1108 (by decide +kernel) (by decide +kernel), gwS 47 (by decide +kernel) (by decide +kernel)⟩
theorem im_R_known : Cond.instanceMethod y_R_known ∈ GW ∧ Cond.selects (y_R_known).cls y_R_known y_R_known ∈ GW := ⟨gwT 1111 (by decide +kernel) (by decide +kernel), gwT 1112 (by decide +kernel) (by decide +kernel)⟩
end
section
/-! Decode rows. -/
theorem d_J_maxI_0 : decode b_J_maxI 0 = .ok (.iload_n 0, 1) := by decide +kernel
theorem d_J_maxI_1 : decode b_J_maxI 1 = .ok (.iload_n 1, 1) := by decide +kernel
theorem d_J_maxI_2 : decode b_J_maxI 2 = .ok (.if_icmp .lt 7, 3) := by decide +kernel
theorem d_J_maxI_5 : decode b_J_maxI 5 = .ok (.iload_n 0, 1) := by decide +kernel
theorem d_J_maxI_6 : decode b_J_maxI 6 = .ok (.goto 4, 3) := by decide +kernel
theorem d_J_maxI_9 : decode b_J_maxI 9 = .ok (.iload_n 1, 1) := by decide +kernel
theorem d_J_maxI_10 : decode b_J_maxI 10 = .ok (.ireturn, 1) := by decide +kernel
theorem d_J_minI_0 : decode b_J_minI 0 = .ok (.iload_n 0, 1) := by decide +kernel
theorem d_J_minI_1 : decode b_J_minI 1 = .ok (.iload_n 1, 1) := by decide +kernel
theorem d_J_minI_2 : decode b_J_minI 2 = .ok (.if_icmp .gt 7, 3) := by decide +kernel
theorem d_J_minI_5 : decode b_J_minI 5 = .ok (.iload_n 0, 1) := by decide +kernel
theorem d_J_minI_6 : decode b_J_minI 6 = .ok (.goto 4, 3) := by decide +kernel
theorem d_J_minI_9 : decode b_J_minI 9 = .ok (.iload_n 1, 1) := by decide +kernel
theorem d_J_minI_10 : decode b_J_minI 10 = .ok (.ireturn, 1) := by decide +kernel
theorem d_J_minJ_0 : decode b_J_minJ 0 = .ok (.lload_n 0, 1) := by decide +kernel
theorem d_J_minJ_1 : decode b_J_minJ 1 = .ok (.lload_n 2, 1) := by decide +kernel
theorem d_J_minJ_2 : decode b_J_minJ 2 = .ok (.lcmp, 1) := by decide +kernel
theorem d_J_minJ_3 : decode b_J_minJ 3 = .ok (.ifCond .gt 7, 3) := by decide +kernel
theorem d_J_minJ_6 : decode b_J_minJ 6 = .ok (.lload_n 0, 1) := by decide +kernel
theorem d_J_minJ_7 : decode b_J_minJ 7 = .ok (.goto 4, 3) := by decide +kernel
theorem d_J_minJ_10 : decode b_J_minJ 10 = .ok (.lload_n 2, 1) := by decide +kernel
theorem d_J_minJ_11 : decode b_J_minJ 11 = .ok (.lreturn, 1) := by decide +kernel
theorem d_J_fill_0 : decode b_J_fill 0 = .ok (.iconst 0, 1) := by decide +kernel
theorem d_J_fill_1 : decode b_J_fill 1 = .ok (.istore_n 2, 1) := by decide +kernel
theorem d_J_fill_2 : decode b_J_fill 2 = .ok (.aload_n 0, 1) := by decide +kernel
theorem d_J_fill_3 : decode b_J_fill 3 = .ok (.arraylength, 1) := by decide +kernel
theorem d_J_fill_4 : decode b_J_fill 4 = .ok (.istore_n 3, 1) := by decide +kernel
theorem d_J_fill_5 : decode b_J_fill 5 = .ok (.iload_n 2, 1) := by decide +kernel
theorem d_J_fill_6 : decode b_J_fill 6 = .ok (.iload_n 3, 1) := by decide +kernel
theorem d_J_fill_7 : decode b_J_fill 7 = .ok (.if_icmp .ge 13, 3) := by decide +kernel
theorem d_J_fill_10 : decode b_J_fill 10 = .ok (.aload_n 0, 1) := by decide +kernel
theorem d_J_fill_11 : decode b_J_fill 11 = .ok (.iload_n 2, 1) := by decide +kernel
theorem d_J_fill_12 : decode b_J_fill 12 = .ok (.iload_n 1, 1) := by decide +kernel
theorem d_J_fill_13 : decode b_J_fill 13 = .ok (.iastore, 1) := by decide +kernel
theorem d_J_fill_14 : decode b_J_fill 14 = .ok (.iinc 2 1, 3) := by decide +kernel
theorem d_J_fill_17 : decode b_J_fill 17 = .ok (.goto (-12), 3) := by decide +kernel
theorem d_J_fill_20 : decode b_J_fill 20 = .ok (.return_, 1) := by decide +kernel
theorem d_A_init_0 : decode b_A_init 0 = .ok (.aload_n 0, 1) := by decide +kernel
theorem d_A_init_1 : decode b_A_init 1 = .ok (.invokespecial 3, 3) := by decide +kernel
theorem d_A_init_4 : decode b_A_init 4 = .ok (.aload_n 0, 1) := by decide +kernel
theorem d_A_init_5 : decode b_A_init 5 = .ok (.iconst 3, 1) := by decide +kernel
theorem d_A_init_6 : decode b_A_init 6 = .ok (.bipush 21, 2) := by decide +kernel
theorem d_A_init_8 : decode b_A_init 8 = .ok (.multianewarray 9 2, 4) := by decide +kernel
theorem d_A_init_12 : decode b_A_init 12 = .ok (.putfield 11, 3) := by decide +kernel
theorem d_A_init_15 : decode b_A_init 15 = .ok (.aload_n 0, 1) := by decide +kernel
theorem d_A_init_16 : decode b_A_init 16 = .ok (.bipush 21, 2) := by decide +kernel
theorem d_A_init_18 : decode b_A_init 18 = .ok (.newarray .int, 2) := by decide +kernel
theorem d_A_init_20 : decode b_A_init 20 = .ok (.putfield 16, 3) := by decide +kernel
theorem d_A_init_23 : decode b_A_init 23 = .ok (.aload_n 0, 1) := by decide +kernel
theorem d_A_init_24 : decode b_A_init 24 = .ok (.bipush 20, 2) := by decide +kernel
theorem d_A_init_26 : decode b_A_init 26 = .ok (.newarray .int, 2) := by decide +kernel
theorem d_A_init_28 : decode b_A_init 28 = .ok (.putfield 20, 3) := by decide +kernel
theorem d_A_init_31 : decode b_A_init 31 = .ok (.aload_n 0, 1) := by decide +kernel
theorem d_A_init_32 : decode b_A_init 32 = .ok (.bipush 21, 2) := by decide +kernel
theorem d_A_init_34 : decode b_A_init 34 = .ok (.newarray .int, 2) := by decide +kernel
theorem d_A_init_36 : decode b_A_init 36 = .ok (.putfield 23, 3) := by decide +kernel
theorem d_A_init_39 : decode b_A_init 39 = .ok (.aload_n 0, 1) := by decide +kernel
theorem d_A_init_40 : decode b_A_init 40 = .ok (.iconst 0, 1) := by decide +kernel
theorem d_A_init_41 : decode b_A_init 41 = .ok (.putfield 26, 3) := by decide +kernel
theorem d_A_init_44 : decode b_A_init 44 = .ok (.return_, 1) := by decide +kernel
theorem d_A_addTenant_0 : decode b_A_addTenant 0 = .ok (.aload_n 0, 1) := by decide +kernel
theorem d_A_addTenant_1 : decode b_A_addTenant 1 = .ok (.getfield 26, 3) := by decide +kernel
theorem d_A_addTenant_4 : decode b_A_addTenant 4 = .ok (.istore_n 1, 1) := by decide +kernel
theorem d_A_addTenant_5 : decode b_A_addTenant 5 = .ok (.aload_n 0, 1) := by decide +kernel
theorem d_A_addTenant_6 : decode b_A_addTenant 6 = .ok (.dup, 1) := by decide +kernel
theorem d_A_addTenant_7 : decode b_A_addTenant 7 = .ok (.getfield 26, 3) := by decide +kernel
theorem d_A_addTenant_10 : decode b_A_addTenant 10 = .ok (.iconst 1, 1) := by decide +kernel
theorem d_A_addTenant_11 : decode b_A_addTenant 11 = .ok (.iadd, 1) := by decide +kernel
theorem d_A_addTenant_12 : decode b_A_addTenant 12 = .ok (.putfield 26, 3) := by decide +kernel
theorem d_A_addTenant_15 : decode b_A_addTenant 15 = .ok (.iload_n 1, 1) := by decide +kernel
theorem d_A_addTenant_16 : decode b_A_addTenant 16 = .ok (.ireturn, 1) := by decide +kernel
theorem d_A_clearOwed_0 : decode b_A_clearOwed 0 = .ok (.iconst 0, 1) := by decide +kernel
theorem d_A_clearOwed_1 : decode b_A_clearOwed 1 = .ok (.istore_n 1, 1) := by decide +kernel
theorem d_A_clearOwed_2 : decode b_A_clearOwed 2 = .ok (.iload_n 1, 1) := by decide +kernel
theorem d_A_clearOwed_3 : decode b_A_clearOwed 3 = .ok (.iconst 3, 1) := by decide +kernel
theorem d_A_clearOwed_4 : decode b_A_clearOwed 4 = .ok (.if_icmp .ge 19, 3) := by decide +kernel
theorem d_A_clearOwed_7 : decode b_A_clearOwed 7 = .ok (.aload_n 0, 1) := by decide +kernel
theorem d_A_clearOwed_8 : decode b_A_clearOwed 8 = .ok (.getfield 11, 3) := by decide +kernel
theorem d_A_clearOwed_11 : decode b_A_clearOwed 11 = .ok (.iload_n 1, 1) := by decide +kernel
theorem d_A_clearOwed_12 : decode b_A_clearOwed 12 = .ok (.aaload, 1) := by decide +kernel
theorem d_A_clearOwed_13 : decode b_A_clearOwed 13 = .ok (.iconst 0, 1) := by decide +kernel
theorem d_A_clearOwed_14 : decode b_A_clearOwed 14 = .ok (.invokestatic 30, 3) := by decide +kernel
theorem d_A_clearOwed_17 : decode b_A_clearOwed 17 = .ok (.iinc 1 1, 3) := by decide +kernel
theorem d_A_clearOwed_20 : decode b_A_clearOwed 20 = .ok (.goto (-18), 3) := by decide +kernel
theorem d_A_clearOwed_23 : decode b_A_clearOwed 23 = .ok (.return_, 1) := by decide +kernel
theorem d_A_owedInAll_0 : decode b_A_owedInAll 0 = .ok (.iload_n 1, 1) := by decide +kernel
theorem d_A_owedInAll_1 : decode b_A_owedInAll 1 = .ok (.iconst 1, 1) := by decide +kernel
theorem d_A_owedInAll_2 : decode b_A_owedInAll 2 = .ok (.iadd, 1) := by decide +kernel
theorem d_A_owedInAll_3 : decode b_A_owedInAll 3 = .ok (.istore_n 2, 1) := by decide +kernel
theorem d_A_owedInAll_4 : decode b_A_owedInAll 4 = .ok (.aload_n 0, 1) := by decide +kernel
theorem d_A_owedInAll_5 : decode b_A_owedInAll 5 = .ok (.getfield 11, 3) := by decide +kernel
theorem d_A_owedInAll_8 : decode b_A_owedInAll 8 = .ok (.iconst 0, 1) := by decide +kernel
theorem d_A_owedInAll_9 : decode b_A_owedInAll 9 = .ok (.aaload, 1) := by decide +kernel
theorem d_A_owedInAll_10 : decode b_A_owedInAll 10 = .ok (.iload_n 2, 1) := by decide +kernel
theorem d_A_owedInAll_11 : decode b_A_owedInAll 11 = .ok (.iaload, 1) := by decide +kernel
theorem d_A_owedInAll_12 : decode b_A_owedInAll 12 = .ok (.aload_n 0, 1) := by decide +kernel
theorem d_A_owedInAll_13 : decode b_A_owedInAll 13 = .ok (.getfield 11, 3) := by decide +kernel
theorem d_A_owedInAll_16 : decode b_A_owedInAll 16 = .ok (.iconst 1, 1) := by decide +kernel
theorem d_A_owedInAll_17 : decode b_A_owedInAll 17 = .ok (.aaload, 1) := by decide +kernel
theorem d_A_owedInAll_18 : decode b_A_owedInAll 18 = .ok (.iload_n 2, 1) := by decide +kernel
theorem d_A_owedInAll_19 : decode b_A_owedInAll 19 = .ok (.iaload, 1) := by decide +kernel
theorem d_A_owedInAll_20 : decode b_A_owedInAll 20 = .ok (.iadd, 1) := by decide +kernel
theorem d_A_owedInAll_21 : decode b_A_owedInAll 21 = .ok (.aload_n 0, 1) := by decide +kernel
theorem d_A_owedInAll_22 : decode b_A_owedInAll 22 = .ok (.getfield 11, 3) := by decide +kernel
theorem d_A_owedInAll_25 : decode b_A_owedInAll 25 = .ok (.iconst 2, 1) := by decide +kernel
theorem d_A_owedInAll_26 : decode b_A_owedInAll 26 = .ok (.aaload, 1) := by decide +kernel
theorem d_A_owedInAll_27 : decode b_A_owedInAll 27 = .ok (.iload_n 2, 1) := by decide +kernel
theorem d_A_owedInAll_28 : decode b_A_owedInAll 28 = .ok (.iaload, 1) := by decide +kernel
theorem d_A_owedInAll_29 : decode b_A_owedInAll 29 = .ok (.iadd, 1) := by decide +kernel
theorem d_A_owedInAll_30 : decode b_A_owedInAll 30 = .ok (.ireturn, 1) := by decide +kernel
theorem d_A_post_0 : decode b_A_post 0 = .ok (.iconst 0, 1) := by decide +kernel
theorem d_A_post_1 : decode b_A_post 1 = .ok (.istore_n 1, 1) := by decide +kernel
theorem d_A_post_2 : decode b_A_post 2 = .ok (.iconst (-1), 1) := by decide +kernel
theorem d_A_post_3 : decode b_A_post 3 = .ok (.istore_n 2, 1) := by decide +kernel
theorem d_A_post_4 : decode b_A_post 4 = .ok (.iload_n 2, 1) := by decide +kernel
theorem d_A_post_5 : decode b_A_post 5 = .ok (.aload_n 0, 1) := by decide +kernel
theorem d_A_post_6 : decode b_A_post 6 = .ok (.getfield 26, 3) := by decide +kernel
theorem d_A_post_9 : decode b_A_post 9 = .ok (.if_icmp .ge 58, 3) := by decide +kernel
theorem d_A_post_12 : decode b_A_post 12 = .ok (.iload_n 2, 1) := by decide +kernel
theorem d_A_post_13 : decode b_A_post 13 = .ok (.iconst 1, 1) := by decide +kernel
theorem d_A_post_14 : decode b_A_post 14 = .ok (.iadd, 1) := by decide +kernel
theorem d_A_post_15 : decode b_A_post 15 = .ok (.istore_n 3, 1) := by decide +kernel
theorem d_A_post_16 : decode b_A_post 16 = .ok (.aload_n 0, 1) := by decide +kernel
theorem d_A_post_17 : decode b_A_post 17 = .ok (.getfield 16, 3) := by decide +kernel
theorem d_A_post_20 : decode b_A_post 20 = .ok (.iload_n 3, 1) := by decide +kernel
theorem d_A_post_21 : decode b_A_post 21 = .ok (.aload_n 0, 1) := by decide +kernel
theorem d_A_post_22 : decode b_A_post 22 = .ok (.iload_n 2, 1) := by decide +kernel
theorem d_A_post_23 : decode b_A_post 23 = .ok (.invokevirtual 36, 3) := by decide +kernel
theorem d_A_post_26 : decode b_A_post 26 = .ok (.aload_n 0, 1) := by decide +kernel
theorem d_A_post_27 : decode b_A_post 27 = .ok (.getfield 23, 3) := by decide +kernel
theorem d_A_post_30 : decode b_A_post 30 = .ok (.iload_n 3, 1) := by decide +kernel
theorem d_A_post_31 : decode b_A_post 31 = .ok (.iaload, 1) := by decide +kernel
theorem d_A_post_32 : decode b_A_post 32 = .ok (.isub, 1) := by decide +kernel
theorem d_A_post_33 : decode b_A_post 33 = .ok (.iastore, 1) := by decide +kernel
theorem d_A_post_34 : decode b_A_post 34 = .ok (.aload_n 0, 1) := by decide +kernel
theorem d_A_post_35 : decode b_A_post 35 = .ok (.getfield 23, 3) := by decide +kernel
theorem d_A_post_38 : decode b_A_post 38 = .ok (.iload_n 3, 1) := by decide +kernel
theorem d_A_post_39 : decode b_A_post 39 = .ok (.dup2, 1) := by decide +kernel
theorem d_A_post_40 : decode b_A_post 40 = .ok (.iaload, 1) := by decide +kernel
theorem d_A_post_41 : decode b_A_post 41 = .ok (.aload_n 0, 1) := by decide +kernel
theorem d_A_post_42 : decode b_A_post 42 = .ok (.getfield 16, 3) := by decide +kernel
theorem d_A_post_45 : decode b_A_post 45 = .ok (.iload_n 3, 1) := by decide +kernel
theorem d_A_post_46 : decode b_A_post 46 = .ok (.iaload, 1) := by decide +kernel
theorem d_A_post_47 : decode b_A_post 47 = .ok (.iadd, 1) := by decide +kernel
theorem d_A_post_48 : decode b_A_post 48 = .ok (.iastore, 1) := by decide +kernel
theorem d_A_post_49 : decode b_A_post 49 = .ok (.aload_n 0, 1) := by decide +kernel
theorem d_A_post_50 : decode b_A_post 50 = .ok (.getfield 16, 3) := by decide +kernel
theorem d_A_post_53 : decode b_A_post 53 = .ok (.iload_n 3, 1) := by decide +kernel
theorem d_A_post_54 : decode b_A_post 54 = .ok (.iaload, 1) := by decide +kernel
theorem d_A_post_55 : decode b_A_post 55 = .ok (.ifCond .eq 6, 3) := by decide +kernel
theorem d_A_post_58 : decode b_A_post 58 = .ok (.iinc 1 1, 3) := by decide +kernel
theorem d_A_post_61 : decode b_A_post 61 = .ok (.iinc 2 1, 3) := by decide +kernel
theorem d_A_post_64 : decode b_A_post 64 = .ok (.goto (-60), 3) := by decide +kernel
theorem d_A_post_67 : decode b_A_post 67 = .ok (.iload_n 1, 1) := by decide +kernel
theorem d_A_post_68 : decode b_A_post 68 = .ok (.ireturn, 1) := by decide +kernel
theorem d_A_startYear_0 : decode b_A_startYear 0 = .ok (.aload_n 0, 1) := by decide +kernel
theorem d_A_startYear_1 : decode b_A_startYear 1 = .ok (.getfield 16, 3) := by decide +kernel
theorem d_A_startYear_4 : decode b_A_startYear 4 = .ok (.iconst 0, 1) := by decide +kernel
theorem d_A_startYear_5 : decode b_A_startYear 5 = .ok (.invokestatic 30, 3) := by decide +kernel
theorem d_A_startYear_8 : decode b_A_startYear 8 = .ok (.aload_n 0, 1) := by decide +kernel
theorem d_A_startYear_9 : decode b_A_startYear 9 = .ok (.getfield 23, 3) := by decide +kernel
theorem d_A_startYear_12 : decode b_A_startYear 12 = .ok (.iconst 0, 1) := by decide +kernel
theorem d_A_startYear_13 : decode b_A_startYear 13 = .ok (.invokestatic 30, 3) := by decide +kernel
theorem d_A_startYear_16 : decode b_A_startYear 16 = .ok (.aload_n 0, 1) := by decide +kernel
theorem d_A_startYear_17 : decode b_A_startYear 17 = .ok (.getfield 20, 3) := by decide +kernel
theorem d_A_startYear_20 : decode b_A_startYear 20 = .ok (.iconst 0, 1) := by decide +kernel
theorem d_A_startYear_21 : decode b_A_startYear 21 = .ok (.invokestatic 30, 3) := by decide +kernel
theorem d_A_startYear_24 : decode b_A_startYear 24 = .ok (.return_, 1) := by decide +kernel
theorem d_F_init_0 : decode b_F_init 0 = .ok (.aload_n 0, 1) := by decide +kernel
theorem d_F_init_1 : decode b_F_init 1 = .ok (.invokespecial 3, 3) := by decide +kernel
theorem d_F_init_4 : decode b_F_init 4 = .ok (.aload_n 0, 1) := by decide +kernel
theorem d_F_init_5 : decode b_F_init 5 = .ok (.iconst 0, 1) := by decide +kernel
theorem d_F_init_6 : decode b_F_init 6 = .ok (.putfield 9, 3) := by decide +kernel
theorem d_F_init_9 : decode b_F_init 9 = .ok (.aload_n 0, 1) := by decide +kernel
theorem d_F_init_10 : decode b_F_init 10 = .ok (.iconst 0, 1) := by decide +kernel
theorem d_F_init_11 : decode b_F_init 11 = .ok (.putfield 15, 3) := by decide +kernel
theorem d_F_init_14 : decode b_F_init 14 = .ok (.aload_n 0, 1) := by decide +kernel
theorem d_F_init_15 : decode b_F_init 15 = .ok (.iconst 1, 1) := by decide +kernel
theorem d_F_init_16 : decode b_F_init 16 = .ok (.putfield 18, 3) := by decide +kernel
theorem d_F_init_19 : decode b_F_init 19 = .ok (.aload_n 0, 1) := by decide +kernel
theorem d_F_init_20 : decode b_F_init 20 = .ok (.iconst (-1), 1) := by decide +kernel
theorem d_F_init_21 : decode b_F_init 21 = .ok (.putfield 21, 3) := by decide +kernel
theorem d_F_init_24 : decode b_F_init 24 = .ok (.aload_n 0, 1) := by decide +kernel
theorem d_F_init_25 : decode b_F_init 25 = .ok (.iconst (-1), 1) := by decide +kernel
theorem d_F_init_26 : decode b_F_init 26 = .ok (.putfield 24, 3) := by decide +kernel
theorem d_F_init_29 : decode b_F_init 29 = .ok (.aload_n 0, 1) := by decide +kernel
theorem d_F_init_30 : decode b_F_init 30 = .ok (.bipush 13, 2) := by decide +kernel
theorem d_F_init_32 : decode b_F_init 32 = .ok (.newarray .int, 2) := by decide +kernel
theorem d_F_init_34 : decode b_F_init 34 = .ok (.putfield 27, 3) := by decide +kernel
theorem d_F_init_37 : decode b_F_init 37 = .ok (.aload_n 0, 1) := by decide +kernel
theorem d_F_init_38 : decode b_F_init 38 = .ok (.bipush 12, 2) := by decide +kernel
theorem d_F_init_40 : decode b_F_init 40 = .ok (.newarray .int, 2) := by decide +kernel
theorem d_F_init_42 : decode b_F_init 42 = .ok (.putfield 31, 3) := by decide +kernel
theorem d_F_init_45 : decode b_F_init 45 = .ok (.aload_n 0, 1) := by decide +kernel
theorem d_F_init_46 : decode b_F_init 46 = .ok (.getfield 27, 3) := by decide +kernel
theorem d_F_init_49 : decode b_F_init 49 = .ok (.iconst (-1), 1) := by decide +kernel
theorem d_F_init_50 : decode b_F_init 50 = .ok (.invokestatic 34, 3) := by decide +kernel
theorem d_F_init_53 : decode b_F_init 53 = .ok (.aload_n 0, 1) := by decide +kernel
theorem d_F_init_54 : decode b_F_init 54 = .ok (.getfield 31, 3) := by decide +kernel
theorem d_F_init_57 : decode b_F_init 57 = .ok (.bipush (-2), 2) := by decide +kernel
theorem d_F_init_59 : decode b_F_init 59 = .ok (.invokestatic 34, 3) := by decide +kernel
theorem d_F_init_62 : decode b_F_init 62 = .ok (.return_, 1) := by decide +kernel
theorem d_F_hasChange_0 : decode b_F_hasChange 0 = .ok (.aload_n 0, 1) := by decide +kernel
theorem d_F_hasChange_1 : decode b_F_hasChange 1 = .ok (.getfield 31, 3) := by decide +kernel
theorem d_F_hasChange_4 : decode b_F_hasChange 4 = .ok (.iload_n 1, 1) := by decide +kernel
theorem d_F_hasChange_5 : decode b_F_hasChange 5 = .ok (.iaload, 1) := by decide +kernel
theorem d_F_hasChange_6 : decode b_F_hasChange 6 = .ok (.bipush (-2), 2) := by decide +kernel
theorem d_F_hasChange_8 : decode b_F_hasChange 8 = .ok (.if_icmp .eq 7, 3) := by decide +kernel
theorem d_F_hasChange_11 : decode b_F_hasChange 11 = .ok (.iconst 1, 1) := by decide +kernel
theorem d_F_hasChange_12 : decode b_F_hasChange 12 = .ok (.goto 4, 3) := by decide +kernel
theorem d_F_hasChange_15 : decode b_F_hasChange 15 = .ok (.iconst 0, 1) := by decide +kernel
theorem d_F_hasChange_16 : decode b_F_hasChange 16 = .ok (.ireturn, 1) := by decide +kernel
theorem d_F_isMeterRead_0 : decode b_F_isMeterRead 0 = .ok (.aload_n 0, 1) := by decide +kernel
theorem d_F_isMeterRead_1 : decode b_F_isMeterRead 1 = .ok (.getfield 27, 3) := by decide +kernel
theorem d_F_isMeterRead_4 : decode b_F_isMeterRead 4 = .ok (.iconst 0, 1) := by decide +kernel
theorem d_F_isMeterRead_5 : decode b_F_isMeterRead 5 = .ok (.iaload, 1) := by decide +kernel
theorem d_F_isMeterRead_6 : decode b_F_isMeterRead 6 = .ok (.iconst (-1), 1) := by decide +kernel
theorem d_F_isMeterRead_7 : decode b_F_isMeterRead 7 = .ok (.if_icmp .eq 14, 3) := by decide +kernel
theorem d_F_isMeterRead_10 : decode b_F_isMeterRead 10 = .ok (.aload_n 0, 1) := by decide +kernel
theorem d_F_isMeterRead_11 : decode b_F_isMeterRead 11 = .ok (.getfield 27, 3) := by decide +kernel
theorem d_F_isMeterRead_14 : decode b_F_isMeterRead 14 = .ok (.bipush 12, 2) := by decide +kernel
theorem d_F_isMeterRead_16 : decode b_F_isMeterRead 16 = .ok (.iaload, 1) := by decide +kernel
theorem d_F_isMeterRead_17 : decode b_F_isMeterRead 17 = .ok (.iconst (-1), 1) := by decide +kernel
theorem d_F_isMeterRead_18 : decode b_F_isMeterRead 18 = .ok (.if_icmp .ne 5, 3) := by decide +kernel
theorem d_F_isMeterRead_21 : decode b_F_isMeterRead 21 = .ok (.iconst 0, 1) := by decide +kernel
theorem d_F_isMeterRead_22 : decode b_F_isMeterRead 22 = .ok (.ireturn, 1) := by decide +kernel
theorem d_F_isMeterRead_23 : decode b_F_isMeterRead 23 = .ok (.aload_n 0, 1) := by decide +kernel
theorem d_F_isMeterRead_24 : decode b_F_isMeterRead 24 = .ok (.getfield 27, 3) := by decide +kernel
theorem d_F_isMeterRead_27 : decode b_F_isMeterRead 27 = .ok (.iconst 0, 1) := by decide +kernel
theorem d_F_isMeterRead_28 : decode b_F_isMeterRead 28 = .ok (.iaload, 1) := by decide +kernel
theorem d_F_isMeterRead_29 : decode b_F_isMeterRead 29 = .ok (.istore_n 1, 1) := by decide +kernel
theorem d_F_isMeterRead_30 : decode b_F_isMeterRead 30 = .ok (.iconst 1, 1) := by decide +kernel
theorem d_F_isMeterRead_31 : decode b_F_isMeterRead 31 = .ok (.istore_n 2, 1) := by decide +kernel
theorem d_F_isMeterRead_32 : decode b_F_isMeterRead 32 = .ok (.iload_n 2, 1) := by decide +kernel
theorem d_F_isMeterRead_33 : decode b_F_isMeterRead 33 = .ok (.bipush 12, 2) := by decide +kernel
theorem d_F_isMeterRead_35 : decode b_F_isMeterRead 35 = .ok (.if_icmp .gt 38, 3) := by decide +kernel
theorem d_F_isMeterRead_38 : decode b_F_isMeterRead 38 = .ok (.aload_n 0, 1) := by decide +kernel
theorem d_F_isMeterRead_39 : decode b_F_isMeterRead 39 = .ok (.getfield 27, 3) := by decide +kernel
theorem d_F_isMeterRead_42 : decode b_F_isMeterRead 42 = .ok (.iload_n 2, 1) := by decide +kernel
theorem d_F_isMeterRead_43 : decode b_F_isMeterRead 43 = .ok (.iaload, 1) := by decide +kernel
theorem d_F_isMeterRead_44 : decode b_F_isMeterRead 44 = .ok (.iconst (-1), 1) := by decide +kernel
theorem d_F_isMeterRead_45 : decode b_F_isMeterRead 45 = .ok (.if_icmp .eq 22, 3) := by decide +kernel
theorem d_F_isMeterRead_48 : decode b_F_isMeterRead 48 = .ok (.aload_n 0, 1) := by decide +kernel
theorem d_F_isMeterRead_49 : decode b_F_isMeterRead 49 = .ok (.getfield 27, 3) := by decide +kernel
theorem d_F_isMeterRead_52 : decode b_F_isMeterRead 52 = .ok (.iload_n 2, 1) := by decide +kernel
theorem d_F_isMeterRead_53 : decode b_F_isMeterRead 53 = .ok (.iaload, 1) := by decide +kernel
theorem d_F_isMeterRead_54 : decode b_F_isMeterRead 54 = .ok (.iload_n 1, 1) := by decide +kernel
theorem d_F_isMeterRead_55 : decode b_F_isMeterRead 55 = .ok (.if_icmp .ge 5, 3) := by decide +kernel
theorem d_F_isMeterRead_58 : decode b_F_isMeterRead 58 = .ok (.iconst 0, 1) := by decide +kernel
theorem d_F_isMeterRead_59 : decode b_F_isMeterRead 59 = .ok (.ireturn, 1) := by decide +kernel
theorem d_F_isMeterRead_60 : decode b_F_isMeterRead 60 = .ok (.aload_n 0, 1) := by decide +kernel
theorem d_F_isMeterRead_61 : decode b_F_isMeterRead 61 = .ok (.getfield 27, 3) := by decide +kernel
theorem d_F_isMeterRead_64 : decode b_F_isMeterRead 64 = .ok (.iload_n 2, 1) := by decide +kernel
theorem d_F_isMeterRead_65 : decode b_F_isMeterRead 65 = .ok (.iaload, 1) := by decide +kernel
theorem d_F_isMeterRead_66 : decode b_F_isMeterRead 66 = .ok (.istore_n 1, 1) := by decide +kernel
theorem d_F_isMeterRead_67 : decode b_F_isMeterRead 67 = .ok (.iinc 2 1, 3) := by decide +kernel
theorem d_F_isMeterRead_70 : decode b_F_isMeterRead 70 = .ok (.goto (-38), 3) := by decide +kernel
theorem d_F_isMeterRead_73 : decode b_F_isMeterRead 73 = .ok (.iconst 1, 1) := by decide +kernel
theorem d_F_isMeterRead_74 : decode b_F_isMeterRead 74 = .ok (.ireturn, 1) := by decide +kernel
theorem d_F_unitsBetween_0 : decode b_F_unitsBetween 0 = .ok (.aload_n 0, 1) := by decide +kernel
theorem d_F_unitsBetween_1 : decode b_F_unitsBetween 1 = .ok (.getfield 27, 3) := by decide +kernel
theorem d_F_unitsBetween_4 : decode b_F_unitsBetween 4 = .ok (.iload_n 2, 1) := by decide +kernel
theorem d_F_unitsBetween_5 : decode b_F_unitsBetween 5 = .ok (.iaload, 1) := by decide +kernel
theorem d_F_unitsBetween_6 : decode b_F_unitsBetween 6 = .ok (.aload_n 0, 1) := by decide +kernel
theorem d_F_unitsBetween_7 : decode b_F_unitsBetween 7 = .ok (.getfield 27, 3) := by decide +kernel
theorem d_F_unitsBetween_10 : decode b_F_unitsBetween 10 = .ok (.iload_n 1, 1) := by decide +kernel
theorem d_F_unitsBetween_11 : decode b_F_unitsBetween 11 = .ok (.iaload, 1) := by decide +kernel
theorem d_F_unitsBetween_12 : decode b_F_unitsBetween 12 = .ok (.isub, 1) := by decide +kernel
theorem d_F_unitsBetween_13 : decode b_F_unitsBetween 13 = .ok (.aload_n 0, 1) := by decide +kernel
theorem d_F_unitsBetween_14 : decode b_F_unitsBetween 14 = .ok (.getfield 18, 3) := by decide +kernel
theorem d_F_unitsBetween_17 : decode b_F_unitsBetween 17 = .ok (.imul, 1) := by decide +kernel
theorem d_F_unitsBetween_18 : decode b_F_unitsBetween 18 = .ok (.ireturn, 1) := by decide +kernel
theorem d_F_unitsOfYear_0 : decode b_F_unitsOfYear 0 = .ok (.aload_n 0, 1) := by decide +kernel
theorem d_F_unitsOfYear_1 : decode b_F_unitsOfYear 1 = .ok (.iconst 0, 1) := by decide +kernel
theorem d_F_unitsOfYear_2 : decode b_F_unitsOfYear 2 = .ok (.bipush 12, 2) := by decide +kernel
theorem d_F_unitsOfYear_4 : decode b_F_unitsOfYear 4 = .ok (.invokevirtual 40, 3) := by decide +kernel
theorem d_F_unitsOfYear_7 : decode b_F_unitsOfYear 7 = .ok (.ireturn, 1) := by decide +kernel
theorem d_F_holderAtEnd_0 : decode b_F_holderAtEnd 0 = .ok (.aload_n 0, 1) := by decide +kernel
theorem d_F_holderAtEnd_1 : decode b_F_holderAtEnd 1 = .ok (.getfield 21, 3) := by decide +kernel
theorem d_F_holderAtEnd_4 : decode b_F_holderAtEnd 4 = .ok (.istore_n 1, 1) := by decide +kernel
theorem d_F_holderAtEnd_5 : decode b_F_holderAtEnd 5 = .ok (.iconst 0, 1) := by decide +kernel
theorem d_F_holderAtEnd_6 : decode b_F_holderAtEnd 6 = .ok (.istore_n 2, 1) := by decide +kernel
theorem d_F_holderAtEnd_7 : decode b_F_holderAtEnd 7 = .ok (.iload_n 2, 1) := by decide +kernel
theorem d_F_holderAtEnd_8 : decode b_F_holderAtEnd 8 = .ok (.bipush 12, 2) := by decide +kernel
theorem d_F_holderAtEnd_10 : decode b_F_holderAtEnd 10 = .ok (.if_icmp .ge 24, 3) := by decide +kernel
theorem d_F_holderAtEnd_13 : decode b_F_holderAtEnd 13 = .ok (.aload_n 0, 1) := by decide +kernel
theorem d_F_holderAtEnd_14 : decode b_F_holderAtEnd 14 = .ok (.iload_n 2, 1) := by decide +kernel
theorem d_F_holderAtEnd_15 : decode b_F_holderAtEnd 15 = .ok (.invokevirtual 44, 3) := by decide +kernel
theorem d_F_holderAtEnd_18 : decode b_F_holderAtEnd 18 = .ok (.ifCond .eq 10, 3) := by decide +kernel
theorem d_F_holderAtEnd_21 : decode b_F_holderAtEnd 21 = .ok (.aload_n 0, 1) := by decide +kernel
theorem d_F_holderAtEnd_22 : decode b_F_holderAtEnd 22 = .ok (.getfield 31, 3) := by decide +kernel
theorem d_F_holderAtEnd_25 : decode b_F_holderAtEnd 25 = .ok (.iload_n 2, 1) := by decide +kernel
theorem d_F_holderAtEnd_26 : decode b_F_holderAtEnd 26 = .ok (.iaload, 1) := by decide +kernel
theorem d_F_holderAtEnd_27 : decode b_F_holderAtEnd 27 = .ok (.istore_n 1, 1) := by decide +kernel
theorem d_F_holderAtEnd_28 : decode b_F_holderAtEnd 28 = .ok (.iinc 2 1, 3) := by decide +kernel
theorem d_F_holderAtEnd_31 : decode b_F_holderAtEnd 31 = .ok (.goto (-24), 3) := by decide +kernel
theorem d_F_holderAtEnd_34 : decode b_F_holderAtEnd 34 = .ok (.iload_n 1, 1) := by decide +kernel
theorem d_F_holderAtEnd_35 : decode b_F_holderAtEnd 35 = .ok (.ireturn, 1) := by decide +kernel
theorem d_F_startYear_0 : decode b_F_startYear 0 = .ok (.aload_n 0, 1) := by decide +kernel
theorem d_F_startYear_1 : decode b_F_startYear 1 = .ok (.aload_n 0, 1) := by decide +kernel
theorem d_F_startYear_2 : decode b_F_startYear 2 = .ok (.invokevirtual 48, 3) := by decide +kernel
theorem d_F_startYear_5 : decode b_F_startYear 5 = .ok (.putfield 21, 3) := by decide +kernel
theorem d_F_startYear_8 : decode b_F_startYear 8 = .ok (.aload_n 0, 1) := by decide +kernel
theorem d_F_startYear_9 : decode b_F_startYear 9 = .ok (.iload_n 1, 1) := by decide +kernel
theorem d_F_startYear_10 : decode b_F_startYear 10 = .ok (.putfield 24, 3) := by decide +kernel
theorem d_F_startYear_13 : decode b_F_startYear 13 = .ok (.aload_n 0, 1) := by decide +kernel
theorem d_F_startYear_14 : decode b_F_startYear 14 = .ok (.getfield 27, 3) := by decide +kernel
theorem d_F_startYear_17 : decode b_F_startYear 17 = .ok (.bipush 12, 2) := by decide +kernel
theorem d_F_startYear_19 : decode b_F_startYear 19 = .ok (.iaload, 1) := by decide +kernel
theorem d_F_startYear_20 : decode b_F_startYear 20 = .ok (.istore_n 2, 1) := by decide +kernel
theorem d_F_startYear_21 : decode b_F_startYear 21 = .ok (.aload_n 0, 1) := by decide +kernel
theorem d_F_startYear_22 : decode b_F_startYear 22 = .ok (.getfield 27, 3) := by decide +kernel
theorem d_F_startYear_25 : decode b_F_startYear 25 = .ok (.iconst (-1), 1) := by decide +kernel
theorem d_F_startYear_26 : decode b_F_startYear 26 = .ok (.invokestatic 34, 3) := by decide +kernel
theorem d_F_startYear_29 : decode b_F_startYear 29 = .ok (.aload_n 0, 1) := by decide +kernel
theorem d_F_startYear_30 : decode b_F_startYear 30 = .ok (.getfield 27, 3) := by decide +kernel
theorem d_F_startYear_33 : decode b_F_startYear 33 = .ok (.iconst 0, 1) := by decide +kernel
theorem d_F_startYear_34 : decode b_F_startYear 34 = .ok (.iload_n 2, 1) := by decide +kernel
theorem d_F_startYear_35 : decode b_F_startYear 35 = .ok (.iastore, 1) := by decide +kernel
theorem d_F_startYear_36 : decode b_F_startYear 36 = .ok (.aload_n 0, 1) := by decide +kernel
theorem d_F_startYear_37 : decode b_F_startYear 37 = .ok (.getfield 31, 3) := by decide +kernel
theorem d_F_startYear_40 : decode b_F_startYear 40 = .ok (.bipush (-2), 2) := by decide +kernel
theorem d_F_startYear_42 : decode b_F_startYear 42 = .ok (.invokestatic 34, 3) := by decide +kernel
theorem d_F_startYear_45 : decode b_F_startYear 45 = .ok (.return_, 1) := by decide +kernel
theorem d_U_init_0 : decode b_U_init 0 = .ok (.aload_n 0, 1) := by decide +kernel
theorem d_U_init_1 : decode b_U_init 1 = .ok (.invokespecial 3, 3) := by decide +kernel
theorem d_U_init_4 : decode b_U_init 4 = .ok (.aload_n 0, 1) := by decide +kernel
theorem d_U_init_5 : decode b_U_init 5 = .ok (.bipush 12, 2) := by decide +kernel
theorem d_U_init_7 : decode b_U_init 7 = .ok (.newarray .int, 2) := by decide +kernel
theorem d_U_init_9 : decode b_U_init 9 = .ok (.putfield 9, 3) := by decide +kernel
theorem d_U_init_12 : decode b_U_init 12 = .ok (.aload_n 0, 1) := by decide +kernel
theorem d_U_init_13 : decode b_U_init 13 = .ok (.bipush 12, 2) := by decide +kernel
theorem d_U_init_15 : decode b_U_init 15 = .ok (.newarray .int, 2) := by decide +kernel
theorem d_U_init_17 : decode b_U_init 17 = .ok (.putfield 15, 3) := by decide +kernel
theorem d_U_init_20 : decode b_U_init 20 = .ok (.aload_n 0, 1) := by decide +kernel
theorem d_U_init_21 : decode b_U_init 21 = .ok (.iconst 0, 1) := by decide +kernel
theorem d_U_init_22 : decode b_U_init 22 = .ok (.putfield 18, 3) := by decide +kernel
theorem d_U_init_25 : decode b_U_init 25 = .ok (.aload_n 0, 1) := by decide +kernel
theorem d_U_init_26 : decode b_U_init 26 = .ok (.iconst (-1), 1) := by decide +kernel
theorem d_U_init_27 : decode b_U_init 27 = .ok (.putfield 22, 3) := by decide +kernel
theorem d_U_init_30 : decode b_U_init 30 = .ok (.return_, 1) := by decide +kernel
theorem d_U_addLayer_0 : decode b_U_addLayer 0 = .ok (.aload_n 0, 1) := by decide +kernel
theorem d_U_addLayer_1 : decode b_U_addLayer 1 = .ok (.getfield 9, 3) := by decide +kernel
theorem d_U_addLayer_4 : decode b_U_addLayer 4 = .ok (.aload_n 0, 1) := by decide +kernel
theorem d_U_addLayer_5 : decode b_U_addLayer 5 = .ok (.getfield 18, 3) := by decide +kernel
theorem d_U_addLayer_8 : decode b_U_addLayer 8 = .ok (.iload_n 1, 1) := by decide +kernel
theorem d_U_addLayer_9 : decode b_U_addLayer 9 = .ok (.iastore, 1) := by decide +kernel
theorem d_U_addLayer_10 : decode b_U_addLayer 10 = .ok (.aload_n 0, 1) := by decide +kernel
theorem d_U_addLayer_11 : decode b_U_addLayer 11 = .ok (.getfield 15, 3) := by decide +kernel
theorem d_U_addLayer_14 : decode b_U_addLayer 14 = .ok (.aload_n 0, 1) := by decide +kernel
theorem d_U_addLayer_15 : decode b_U_addLayer 15 = .ok (.getfield 18, 3) := by decide +kernel
theorem d_U_addLayer_18 : decode b_U_addLayer 18 = .ok (.iload_n 2, 1) := by decide +kernel
theorem d_U_addLayer_19 : decode b_U_addLayer 19 = .ok (.iastore, 1) := by decide +kernel
theorem d_U_addLayer_20 : decode b_U_addLayer 20 = .ok (.aload_n 0, 1) := by decide +kernel
theorem d_U_addLayer_21 : decode b_U_addLayer 21 = .ok (.dup, 1) := by decide +kernel
theorem d_U_addLayer_22 : decode b_U_addLayer 22 = .ok (.getfield 18, 3) := by decide +kernel
theorem d_U_addLayer_25 : decode b_U_addLayer 25 = .ok (.iconst 1, 1) := by decide +kernel
theorem d_U_addLayer_26 : decode b_U_addLayer 26 = .ok (.iadd, 1) := by decide +kernel
theorem d_U_addLayer_27 : decode b_U_addLayer 27 = .ok (.putfield 18, 3) := by decide +kernel
theorem d_U_addLayer_30 : decode b_U_addLayer 30 = .ok (.return_, 1) := by decide +kernel
theorem d_U_allUnits_0 : decode b_U_allUnits 0 = .ok (.iconst 0, 1) := by decide +kernel
theorem d_U_allUnits_1 : decode b_U_allUnits 1 = .ok (.istore_n 1, 1) := by decide +kernel
theorem d_U_allUnits_2 : decode b_U_allUnits 2 = .ok (.iconst 0, 1) := by decide +kernel
theorem d_U_allUnits_3 : decode b_U_allUnits 3 = .ok (.istore_n 2, 1) := by decide +kernel
theorem d_U_allUnits_4 : decode b_U_allUnits 4 = .ok (.iload_n 2, 1) := by decide +kernel
theorem d_U_allUnits_5 : decode b_U_allUnits 5 = .ok (.aload_n 0, 1) := by decide +kernel
theorem d_U_allUnits_6 : decode b_U_allUnits 6 = .ok (.getfield 18, 3) := by decide +kernel
theorem d_U_allUnits_9 : decode b_U_allUnits 9 = .ok (.if_icmp .ge 18, 3) := by decide +kernel
theorem d_U_allUnits_12 : decode b_U_allUnits 12 = .ok (.iload_n 1, 1) := by decide +kernel
theorem d_U_allUnits_13 : decode b_U_allUnits 13 = .ok (.aload_n 0, 1) := by decide +kernel
theorem d_U_allUnits_14 : decode b_U_allUnits 14 = .ok (.getfield 9, 3) := by decide +kernel
theorem d_U_allUnits_17 : decode b_U_allUnits 17 = .ok (.iload_n 2, 1) := by decide +kernel
theorem d_U_allUnits_18 : decode b_U_allUnits 18 = .ok (.iaload, 1) := by decide +kernel
theorem d_U_allUnits_19 : decode b_U_allUnits 19 = .ok (.iadd, 1) := by decide +kernel
theorem d_U_allUnits_20 : decode b_U_allUnits 20 = .ok (.istore_n 1, 1) := by decide +kernel
theorem d_U_allUnits_21 : decode b_U_allUnits 21 = .ok (.iinc 2 1, 3) := by decide +kernel
theorem d_U_allUnits_24 : decode b_U_allUnits 24 = .ok (.goto (-20), 3) := by decide +kernel
theorem d_U_allUnits_27 : decode b_U_allUnits 27 = .ok (.iload_n 1, 1) := by decide +kernel
theorem d_U_allUnits_28 : decode b_U_allUnits 28 = .ok (.ireturn, 1) := by decide +kernel
theorem d_U_isBurned_0 : decode b_U_isBurned 0 = .ok (.aload_n 0, 1) := by decide +kernel
theorem d_U_isBurned_1 : decode b_U_isBurned 1 = .ok (.getfield 22, 3) := by decide +kernel
theorem d_U_isBurned_4 : decode b_U_isBurned 4 = .ok (.iconst (-1), 1) := by decide +kernel
theorem d_U_isBurned_5 : decode b_U_isBurned 5 = .ok (.if_icmp .eq 14, 3) := by decide +kernel
theorem d_U_isBurned_8 : decode b_U_isBurned 8 = .ok (.aload_n 0, 1) := by decide +kernel
theorem d_U_isBurned_9 : decode b_U_isBurned 9 = .ok (.invokevirtual 25, 3) := by decide +kernel
theorem d_U_isBurned_12 : decode b_U_isBurned 12 = .ok (.ifCond .le 7, 3) := by decide +kernel
theorem d_U_isBurned_15 : decode b_U_isBurned 15 = .ok (.iconst 1, 1) := by decide +kernel
theorem d_U_isBurned_16 : decode b_U_isBurned 16 = .ok (.goto 4, 3) := by decide +kernel
theorem d_U_isBurned_19 : decode b_U_isBurned 19 = .ok (.iconst 0, 1) := by decide +kernel
theorem d_U_isBurned_20 : decode b_U_isBurned 20 = .ok (.ireturn, 1) := by decide +kernel
theorem d_U_burnedUnits_0 : decode b_U_burnedUnits 0 = .ok (.aload_n 0, 1) := by decide +kernel
theorem d_U_burnedUnits_1 : decode b_U_burnedUnits 1 = .ok (.invokevirtual 29, 3) := by decide +kernel
theorem d_U_burnedUnits_4 : decode b_U_burnedUnits 4 = .ok (.aload_n 0, 1) := by decide +kernel
theorem d_U_burnedUnits_5 : decode b_U_burnedUnits 5 = .ok (.getfield 22, 3) := by decide +kernel
theorem d_U_burnedUnits_8 : decode b_U_burnedUnits 8 = .ok (.isub, 1) := by decide +kernel
theorem d_U_burnedUnits_9 : decode b_U_burnedUnits 9 = .ok (.ireturn, 1) := by decide +kernel
theorem d_U_burnedCents_0 : decode b_U_burnedCents 0 = .ok (.iconst 0, 1) := by decide +kernel
theorem d_U_burnedCents_1 : decode b_U_burnedCents 1 = .ok (.istore_n 1, 1) := by decide +kernel
theorem d_U_burnedCents_2 : decode b_U_burnedCents 2 = .ok (.iconst 0, 1) := by decide +kernel
theorem d_U_burnedCents_3 : decode b_U_burnedCents 3 = .ok (.istore_n 2, 1) := by decide +kernel
theorem d_U_burnedCents_4 : decode b_U_burnedCents 4 = .ok (.iload_n 2, 1) := by decide +kernel
theorem d_U_burnedCents_5 : decode b_U_burnedCents 5 = .ok (.aload_n 0, 1) := by decide +kernel
theorem d_U_burnedCents_6 : decode b_U_burnedCents 6 = .ok (.getfield 18, 3) := by decide +kernel
theorem d_U_burnedCents_9 : decode b_U_burnedCents 9 = .ok (.if_icmp .ge 24, 3) := by decide +kernel
theorem d_U_burnedCents_12 : decode b_U_burnedCents 12 = .ok (.iload_n 1, 1) := by decide +kernel
theorem d_U_burnedCents_13 : decode b_U_burnedCents 13 = .ok (.aload_n 0, 1) := by decide +kernel
theorem d_U_burnedCents_14 : decode b_U_burnedCents 14 = .ok (.getfield 15, 3) := by decide +kernel
theorem d_U_burnedCents_17 : decode b_U_burnedCents 17 = .ok (.iload_n 2, 1) := by decide +kernel
theorem d_U_burnedCents_18 : decode b_U_burnedCents 18 = .ok (.iaload, 1) := by decide +kernel
theorem d_U_burnedCents_19 : decode b_U_burnedCents 19 = .ok (.aload_n 0, 1) := by decide +kernel
theorem d_U_burnedCents_20 : decode b_U_burnedCents 20 = .ok (.iload_n 2, 1) := by decide +kernel
theorem d_U_burnedCents_21 : decode b_U_burnedCents 21 = .ok (.invokevirtual 32, 3) := by decide +kernel
theorem d_U_burnedCents_24 : decode b_U_burnedCents 24 = .ok (.isub, 1) := by decide +kernel
theorem d_U_burnedCents_25 : decode b_U_burnedCents 25 = .ok (.iadd, 1) := by decide +kernel
theorem d_U_burnedCents_26 : decode b_U_burnedCents 26 = .ok (.istore_n 1, 1) := by decide +kernel
theorem d_U_burnedCents_27 : decode b_U_burnedCents 27 = .ok (.iinc 2 1, 3) := by decide +kernel
theorem d_U_burnedCents_30 : decode b_U_burnedCents 30 = .ok (.goto (-26), 3) := by decide +kernel
theorem d_U_burnedCents_33 : decode b_U_burnedCents 33 = .ok (.iload_n 1, 1) := by decide +kernel
theorem d_U_burnedCents_34 : decode b_U_burnedCents 34 = .ok (.ireturn, 1) := by decide +kernel
theorem d_U_stockUnits_0 : decode b_U_stockUnits 0 = .ok (.aload_n 0, 1) := by decide +kernel
theorem d_U_stockUnits_1 : decode b_U_stockUnits 1 = .ok (.getfield 22, 3) := by decide +kernel
theorem d_U_stockUnits_4 : decode b_U_stockUnits 4 = .ok (.istore_n 2, 1) := by decide +kernel
theorem d_U_stockUnits_5 : decode b_U_stockUnits 5 = .ok (.aload_n 0, 1) := by decide +kernel
theorem d_U_stockUnits_6 : decode b_U_stockUnits 6 = .ok (.getfield 18, 3) := by decide +kernel
theorem d_U_stockUnits_9 : decode b_U_stockUnits 9 = .ok (.iconst 1, 1) := by decide +kernel
theorem d_U_stockUnits_10 : decode b_U_stockUnits 10 = .ok (.isub, 1) := by decide +kernel
theorem d_U_stockUnits_11 : decode b_U_stockUnits 11 = .ok (.istore_n 3, 1) := by decide +kernel
theorem d_U_stockUnits_12 : decode b_U_stockUnits 12 = .ok (.iload_n 3, 1) := by decide +kernel
theorem d_U_stockUnits_13 : decode b_U_stockUnits 13 = .ok (.iload_n 1, 1) := by decide +kernel
theorem d_U_stockUnits_14 : decode b_U_stockUnits 14 = .ok (.if_icmp .le 18, 3) := by decide +kernel
theorem d_U_stockUnits_17 : decode b_U_stockUnits 17 = .ok (.iload_n 2, 1) := by decide +kernel
theorem d_U_stockUnits_18 : decode b_U_stockUnits 18 = .ok (.aload_n 0, 1) := by decide +kernel
theorem d_U_stockUnits_19 : decode b_U_stockUnits 19 = .ok (.getfield 9, 3) := by decide +kernel
theorem d_U_stockUnits_22 : decode b_U_stockUnits 22 = .ok (.iload_n 3, 1) := by decide +kernel
theorem d_U_stockUnits_23 : decode b_U_stockUnits 23 = .ok (.iaload, 1) := by decide +kernel
theorem d_U_stockUnits_24 : decode b_U_stockUnits 24 = .ok (.isub, 1) := by decide +kernel
theorem d_U_stockUnits_25 : decode b_U_stockUnits 25 = .ok (.istore_n 2, 1) := by decide +kernel
theorem d_U_stockUnits_26 : decode b_U_stockUnits 26 = .ok (.iinc 3 (-1), 3) := by decide +kernel
theorem d_U_stockUnits_29 : decode b_U_stockUnits 29 = .ok (.goto (-17), 3) := by decide +kernel
theorem d_U_stockUnits_32 : decode b_U_stockUnits 32 = .ok (.iconst 0, 1) := by decide +kernel
theorem d_U_stockUnits_33 : decode b_U_stockUnits 33 = .ok (.aload_n 0, 1) := by decide +kernel
theorem d_U_stockUnits_34 : decode b_U_stockUnits 34 = .ok (.getfield 9, 3) := by decide +kernel
theorem d_U_stockUnits_37 : decode b_U_stockUnits 37 = .ok (.iload_n 1, 1) := by decide +kernel
theorem d_U_stockUnits_38 : decode b_U_stockUnits 38 = .ok (.iaload, 1) := by decide +kernel
theorem d_U_stockUnits_39 : decode b_U_stockUnits 39 = .ok (.iload_n 2, 1) := by decide +kernel
theorem d_U_stockUnits_40 : decode b_U_stockUnits 40 = .ok (.invokestatic 36, 3) := by decide +kernel
theorem d_U_stockUnits_43 : decode b_U_stockUnits 43 = .ok (.invokestatic 42, 3) := by decide +kernel
theorem d_U_stockUnits_46 : decode b_U_stockUnits 46 = .ok (.ireturn, 1) := by decide +kernel
theorem d_U_stockCents_0 : decode b_U_stockCents 0 = .ok (.aload_n 0, 1) := by decide +kernel
theorem d_U_stockCents_1 : decode b_U_stockCents 1 = .ok (.iload_n 1, 1) := by decide +kernel
theorem d_U_stockCents_2 : decode b_U_stockCents 2 = .ok (.invokevirtual 45, 3) := by decide +kernel
theorem d_U_stockCents_5 : decode b_U_stockCents 5 = .ok (.istore_n 2, 1) := by decide +kernel
theorem d_U_stockCents_6 : decode b_U_stockCents 6 = .ok (.iload_n 2, 1) := by decide +kernel
theorem d_U_stockCents_7 : decode b_U_stockCents 7 = .ok (.ifCond .gt 5, 3) := by decide +kernel
theorem d_U_stockCents_10 : decode b_U_stockCents 10 = .ok (.iconst 0, 1) := by decide +kernel
theorem d_U_stockCents_11 : decode b_U_stockCents 11 = .ok (.ireturn, 1) := by decide +kernel
theorem d_U_stockCents_12 : decode b_U_stockCents 12 = .ok (.iload_n 2, 1) := by decide +kernel
theorem d_U_stockCents_13 : decode b_U_stockCents 13 = .ok (.aload_n 0, 1) := by decide +kernel
theorem d_U_stockCents_14 : decode b_U_stockCents 14 = .ok (.getfield 9, 3) := by decide +kernel
theorem d_U_stockCents_17 : decode b_U_stockCents 17 = .ok (.iload_n 1, 1) := by decide +kernel
theorem d_U_stockCents_18 : decode b_U_stockCents 18 = .ok (.iaload, 1) := by decide +kernel
theorem d_U_stockCents_19 : decode b_U_stockCents 19 = .ok (.if_icmp .lt 10, 3) := by decide +kernel
theorem d_U_stockCents_22 : decode b_U_stockCents 22 = .ok (.aload_n 0, 1) := by decide +kernel
theorem d_U_stockCents_23 : decode b_U_stockCents 23 = .ok (.getfield 15, 3) := by decide +kernel
theorem d_U_stockCents_26 : decode b_U_stockCents 26 = .ok (.iload_n 1, 1) := by decide +kernel
theorem d_U_stockCents_27 : decode b_U_stockCents 27 = .ok (.iaload, 1) := by decide +kernel
theorem d_U_stockCents_28 : decode b_U_stockCents 28 = .ok (.ireturn, 1) := by decide +kernel
theorem d_U_stockCents_29 : decode b_U_stockCents 29 = .ok (.aload_n 0, 1) := by decide +kernel
theorem d_U_stockCents_30 : decode b_U_stockCents 30 = .ok (.getfield 15, 3) := by decide +kernel
theorem d_U_stockCents_33 : decode b_U_stockCents 33 = .ok (.iload_n 1, 1) := by decide +kernel
theorem d_U_stockCents_34 : decode b_U_stockCents 34 = .ok (.iaload, 1) := by decide +kernel
theorem d_U_stockCents_35 : decode b_U_stockCents 35 = .ok (.iload_n 2, 1) := by decide +kernel
theorem d_U_stockCents_36 : decode b_U_stockCents 36 = .ok (.imul, 1) := by decide +kernel
theorem d_U_stockCents_37 : decode b_U_stockCents 37 = .ok (.aload_n 0, 1) := by decide +kernel
theorem d_U_stockCents_38 : decode b_U_stockCents 38 = .ok (.getfield 9, 3) := by decide +kernel
theorem d_U_stockCents_41 : decode b_U_stockCents 41 = .ok (.iload_n 1, 1) := by decide +kernel
theorem d_U_stockCents_42 : decode b_U_stockCents 42 = .ok (.iaload, 1) := by decide +kernel
theorem d_U_stockCents_43 : decode b_U_stockCents 43 = .ok (.idiv, 1) := by decide +kernel
theorem d_U_stockCents_44 : decode b_U_stockCents 44 = .ok (.ireturn, 1) := by decide +kernel
theorem d_U_keepStock_0 : decode b_U_keepStock 0 = .ok (.iconst 0, 1) := by decide +kernel
theorem d_U_keepStock_1 : decode b_U_keepStock 1 = .ok (.istore_n 1, 1) := by decide +kernel
theorem d_U_keepStock_2 : decode b_U_keepStock 2 = .ok (.iconst 0, 1) := by decide +kernel
theorem d_U_keepStock_3 : decode b_U_keepStock 3 = .ok (.istore_n 2, 1) := by decide +kernel
theorem d_U_keepStock_4 : decode b_U_keepStock 4 = .ok (.iload_n 2, 1) := by decide +kernel
theorem d_U_keepStock_5 : decode b_U_keepStock 5 = .ok (.aload_n 0, 1) := by decide +kernel
theorem d_U_keepStock_6 : decode b_U_keepStock 6 = .ok (.getfield 18, 3) := by decide +kernel
theorem d_U_keepStock_9 : decode b_U_keepStock 9 = .ok (.if_icmp .ge 40, 3) := by decide +kernel
theorem d_U_keepStock_12 : decode b_U_keepStock 12 = .ok (.aload_n 0, 1) := by decide +kernel
theorem d_U_keepStock_13 : decode b_U_keepStock 13 = .ok (.iload_n 2, 1) := by decide +kernel
theorem d_U_keepStock_14 : decode b_U_keepStock 14 = .ok (.invokevirtual 45, 3) := by decide +kernel
theorem d_U_keepStock_17 : decode b_U_keepStock 17 = .ok (.istore_n 3, 1) := by decide +kernel
theorem d_U_keepStock_18 : decode b_U_keepStock 18 = .ok (.iload_n 3, 1) := by decide +kernel
theorem d_U_keepStock_19 : decode b_U_keepStock 19 = .ok (.ifCond .le 24, 3) := by decide +kernel
theorem d_U_keepStock_22 : decode b_U_keepStock 22 = .ok (.aload_n 0, 1) := by decide +kernel
theorem d_U_keepStock_23 : decode b_U_keepStock 23 = .ok (.getfield 15, 3) := by decide +kernel
theorem d_U_keepStock_26 : decode b_U_keepStock 26 = .ok (.iload_n 1, 1) := by decide +kernel
theorem d_U_keepStock_27 : decode b_U_keepStock 27 = .ok (.aload_n 0, 1) := by decide +kernel
theorem d_U_keepStock_28 : decode b_U_keepStock 28 = .ok (.iload_n 2, 1) := by decide +kernel
theorem d_U_keepStock_29 : decode b_U_keepStock 29 = .ok (.invokevirtual 32, 3) := by decide +kernel
theorem d_U_keepStock_32 : decode b_U_keepStock 32 = .ok (.iastore, 1) := by decide +kernel
theorem d_U_keepStock_33 : decode b_U_keepStock 33 = .ok (.aload_n 0, 1) := by decide +kernel
theorem d_U_keepStock_34 : decode b_U_keepStock 34 = .ok (.getfield 9, 3) := by decide +kernel
theorem d_U_keepStock_37 : decode b_U_keepStock 37 = .ok (.iload_n 1, 1) := by decide +kernel
theorem d_U_keepStock_38 : decode b_U_keepStock 38 = .ok (.iload_n 3, 1) := by decide +kernel
theorem d_U_keepStock_39 : decode b_U_keepStock 39 = .ok (.iastore, 1) := by decide +kernel
theorem d_U_keepStock_40 : decode b_U_keepStock 40 = .ok (.iinc 1 1, 3) := by decide +kernel
theorem d_U_keepStock_43 : decode b_U_keepStock 43 = .ok (.iinc 2 1, 3) := by decide +kernel
theorem d_U_keepStock_46 : decode b_U_keepStock 46 = .ok (.goto (-42), 3) := by decide +kernel
theorem d_U_keepStock_49 : decode b_U_keepStock 49 = .ok (.aload_n 0, 1) := by decide +kernel
theorem d_U_keepStock_50 : decode b_U_keepStock 50 = .ok (.iload_n 1, 1) := by decide +kernel
theorem d_U_keepStock_51 : decode b_U_keepStock 51 = .ok (.putfield 18, 3) := by decide +kernel
theorem d_U_keepStock_54 : decode b_U_keepStock 54 = .ok (.aload_n 0, 1) := by decide +kernel
theorem d_U_keepStock_55 : decode b_U_keepStock 55 = .ok (.iconst (-1), 1) := by decide +kernel
theorem d_U_keepStock_56 : decode b_U_keepStock 56 = .ok (.putfield 22, 3) := by decide +kernel
theorem d_U_keepStock_59 : decode b_U_keepStock 59 = .ok (.return_, 1) := by decide +kernel
theorem d_O_init_0 : decode b_O_init 0 = .ok (.aload_n 0, 1) := by decide +kernel
theorem d_O_init_1 : decode b_O_init 1 = .ok (.invokespecial 3, 3) := by decide +kernel
theorem d_O_init_4 : decode b_O_init 4 = .ok (.aload_n 0, 1) := by decide +kernel
theorem d_O_init_5 : decode b_O_init 5 = .ok (.bipush 6, 2) := by decide +kernel
theorem d_O_init_7 : decode b_O_init 7 = .ok (.anewarray 9, 3) := by decide +kernel
theorem d_O_init_10 : decode b_O_init 10 = .ok (.putfield 11, 3) := by decide +kernel
theorem d_O_init_13 : decode b_O_init 13 = .ok (.aload_n 0, 1) := by decide +kernel
theorem d_O_init_14 : decode b_O_init 14 = .ok (.iconst 0, 1) := by decide +kernel
theorem d_O_init_15 : decode b_O_init 15 = .ok (.putfield 17, 3) := by decide +kernel
theorem d_O_init_18 : decode b_O_init 18 = .ok (.iconst 0, 1) := by decide +kernel
theorem d_O_init_19 : decode b_O_init 19 = .ok (.istore_n 1, 1) := by decide +kernel
theorem d_O_init_20 : decode b_O_init 20 = .ok (.iload_n 1, 1) := by decide +kernel
theorem d_O_init_21 : decode b_O_init 21 = .ok (.bipush 6, 2) := by decide +kernel
theorem d_O_init_23 : decode b_O_init 23 = .ok (.if_icmp .ge 22, 3) := by decide +kernel
theorem d_O_init_26 : decode b_O_init 26 = .ok (.aload_n 0, 1) := by decide +kernel
theorem d_O_init_27 : decode b_O_init 27 = .ok (.getfield 11, 3) := by decide +kernel
theorem d_O_init_30 : decode b_O_init 30 = .ok (.iload_n 1, 1) := by decide +kernel
theorem d_O_init_31 : decode b_O_init 31 = .ok (.new 9, 3) := by decide +kernel
theorem d_O_init_34 : decode b_O_init 34 = .ok (.dup, 1) := by decide +kernel
theorem d_O_init_35 : decode b_O_init 35 = .ok (.invokespecial 21, 3) := by decide +kernel
theorem d_O_init_38 : decode b_O_init 38 = .ok (.aastore, 1) := by decide +kernel
theorem d_O_init_39 : decode b_O_init 39 = .ok (.iinc 1 1, 3) := by decide +kernel
theorem d_O_init_42 : decode b_O_init 42 = .ok (.goto (-22), 3) := by decide +kernel
theorem d_O_init_45 : decode b_O_init 45 = .ok (.return_, 1) := by decide +kernel
theorem d_O_addFlat_0 : decode b_O_addFlat 0 = .ok (.aload_n 0, 1) := by decide +kernel
theorem d_O_addFlat_1 : decode b_O_addFlat 1 = .ok (.getfield 17, 3) := by decide +kernel
theorem d_O_addFlat_4 : decode b_O_addFlat 4 = .ok (.istore 4, 2) := by decide +kernel
theorem d_O_addFlat_6 : decode b_O_addFlat 6 = .ok (.aload_n 0, 1) := by decide +kernel
theorem d_O_addFlat_7 : decode b_O_addFlat 7 = .ok (.getfield 11, 3) := by decide +kernel
theorem d_O_addFlat_10 : decode b_O_addFlat 10 = .ok (.iload 4, 2) := by decide +kernel
theorem d_O_addFlat_12 : decode b_O_addFlat 12 = .ok (.aaload, 1) := by decide +kernel
theorem d_O_addFlat_13 : decode b_O_addFlat 13 = .ok (.astore 5, 2) := by decide +kernel
theorem d_O_addFlat_15 : decode b_O_addFlat 15 = .ok (.aload 5, 2) := by decide +kernel
theorem d_O_addFlat_17 : decode b_O_addFlat 17 = .ok (.iload_n 1, 1) := by decide +kernel
theorem d_O_addFlat_18 : decode b_O_addFlat 18 = .ok (.putfield 22, 3) := by decide +kernel
theorem d_O_addFlat_21 : decode b_O_addFlat 21 = .ok (.aload 5, 2) := by decide +kernel
theorem d_O_addFlat_23 : decode b_O_addFlat 23 = .ok (.iload_n 2, 1) := by decide +kernel
theorem d_O_addFlat_24 : decode b_O_addFlat 24 = .ok (.putfield 25, 3) := by decide +kernel
theorem d_O_addFlat_27 : decode b_O_addFlat 27 = .ok (.aload 5, 2) := by decide +kernel
theorem d_O_addFlat_29 : decode b_O_addFlat 29 = .ok (.iload_n 3, 1) := by decide +kernel
theorem d_O_addFlat_30 : decode b_O_addFlat 30 = .ok (.putfield 28, 3) := by decide +kernel
theorem d_O_addFlat_33 : decode b_O_addFlat 33 = .ok (.aload_n 0, 1) := by decide +kernel
theorem d_O_addFlat_34 : decode b_O_addFlat 34 = .ok (.dup, 1) := by decide +kernel
theorem d_O_addFlat_35 : decode b_O_addFlat 35 = .ok (.getfield 17, 3) := by decide +kernel
theorem d_O_addFlat_38 : decode b_O_addFlat 38 = .ok (.iconst 1, 1) := by decide +kernel
theorem d_O_addFlat_39 : decode b_O_addFlat 39 = .ok (.iadd, 1) := by decide +kernel
theorem d_O_addFlat_40 : decode b_O_addFlat 40 = .ok (.putfield 17, 3) := by decide +kernel
theorem d_O_addFlat_43 : decode b_O_addFlat 43 = .ok (.iload 4, 2) := by decide +kernel
theorem d_O_addFlat_45 : decode b_O_addFlat 45 = .ok (.ireturn, 1) := by decide +kernel
theorem d_O_allArea_0 : decode b_O_allArea 0 = .ok (.iconst 0, 1) := by decide +kernel
theorem d_O_allArea_1 : decode b_O_allArea 1 = .ok (.istore_n 1, 1) := by decide +kernel
theorem d_O_allArea_2 : decode b_O_allArea 2 = .ok (.iconst 0, 1) := by decide +kernel
theorem d_O_allArea_3 : decode b_O_allArea 3 = .ok (.istore_n 2, 1) := by decide +kernel
theorem d_O_allArea_4 : decode b_O_allArea 4 = .ok (.iload_n 2, 1) := by decide +kernel
theorem d_O_allArea_5 : decode b_O_allArea 5 = .ok (.aload_n 0, 1) := by decide +kernel
theorem d_O_allArea_6 : decode b_O_allArea 6 = .ok (.getfield 17, 3) := by decide +kernel
theorem d_O_allArea_9 : decode b_O_allArea 9 = .ok (.if_icmp .ge 21, 3) := by decide +kernel
theorem d_O_allArea_12 : decode b_O_allArea 12 = .ok (.iload_n 1, 1) := by decide +kernel
theorem d_O_allArea_13 : decode b_O_allArea 13 = .ok (.aload_n 0, 1) := by decide +kernel
theorem d_O_allArea_14 : decode b_O_allArea 14 = .ok (.getfield 11, 3) := by decide +kernel
theorem d_O_allArea_17 : decode b_O_allArea 17 = .ok (.iload_n 2, 1) := by decide +kernel
theorem d_O_allArea_18 : decode b_O_allArea 18 = .ok (.aaload, 1) := by decide +kernel
theorem d_O_allArea_19 : decode b_O_allArea 19 = .ok (.getfield 22, 3) := by decide +kernel
theorem d_O_allArea_22 : decode b_O_allArea 22 = .ok (.iadd, 1) := by decide +kernel
theorem d_O_allArea_23 : decode b_O_allArea 23 = .ok (.istore_n 1, 1) := by decide +kernel
theorem d_O_allArea_24 : decode b_O_allArea 24 = .ok (.iinc 2 1, 3) := by decide +kernel
theorem d_O_allArea_27 : decode b_O_allArea 27 = .ok (.goto (-23), 3) := by decide +kernel
theorem d_O_allArea_30 : decode b_O_allArea 30 = .ok (.iload_n 1, 1) := by decide +kernel
theorem d_O_allArea_31 : decode b_O_allArea 31 = .ok (.ireturn, 1) := by decide +kernel
theorem d_O_hasWaterArea_0 : decode b_O_hasWaterArea 0 = .ok (.iconst 0, 1) := by decide +kernel
theorem d_O_hasWaterArea_1 : decode b_O_hasWaterArea 1 = .ok (.istore_n 1, 1) := by decide +kernel
theorem d_O_hasWaterArea_2 : decode b_O_hasWaterArea 2 = .ok (.iload_n 1, 1) := by decide +kernel
theorem d_O_hasWaterArea_3 : decode b_O_hasWaterArea 3 = .ok (.aload_n 0, 1) := by decide +kernel
theorem d_O_hasWaterArea_4 : decode b_O_hasWaterArea 4 = .ok (.getfield 17, 3) := by decide +kernel
theorem d_O_hasWaterArea_7 : decode b_O_hasWaterArea 7 = .ok (.if_icmp .ge 23, 3) := by decide +kernel
theorem d_O_hasWaterArea_10 : decode b_O_hasWaterArea 10 = .ok (.aload_n 0, 1) := by decide +kernel
theorem d_O_hasWaterArea_11 : decode b_O_hasWaterArea 11 = .ok (.getfield 11, 3) := by decide +kernel
theorem d_O_hasWaterArea_14 : decode b_O_hasWaterArea 14 = .ok (.iload_n 1, 1) := by decide +kernel
theorem d_O_hasWaterArea_15 : decode b_O_hasWaterArea 15 = .ok (.aaload, 1) := by decide +kernel
theorem d_O_hasWaterArea_16 : decode b_O_hasWaterArea 16 = .ok (.getfield 25, 3) := by decide +kernel
theorem d_O_hasWaterArea_19 : decode b_O_hasWaterArea 19 = .ok (.ifCond .le 5, 3) := by decide +kernel
theorem d_O_hasWaterArea_22 : decode b_O_hasWaterArea 22 = .ok (.iconst 1, 1) := by decide +kernel
theorem d_O_hasWaterArea_23 : decode b_O_hasWaterArea 23 = .ok (.ireturn, 1) := by decide +kernel
theorem d_O_hasWaterArea_24 : decode b_O_hasWaterArea 24 = .ok (.iinc 1 1, 3) := by decide +kernel
theorem d_O_hasWaterArea_27 : decode b_O_hasWaterArea 27 = .ok (.goto (-25), 3) := by decide +kernel
theorem d_O_hasWaterArea_30 : decode b_O_hasWaterArea 30 = .ok (.iconst 0, 1) := by decide +kernel
theorem d_O_hasWaterArea_31 : decode b_O_hasWaterArea 31 = .ok (.ireturn, 1) := by decide +kernel
end
section
/-! Decode rows. -/
theorem d_M_init_0 : decode b_M_init 0 = .ok (.aload_n 0, 1) := by decide +kernel
theorem d_M_init_1 : decode b_M_init 1 = .ok (.invokespecial 3, 3) := by decide +kernel
theorem d_M_init_4 : decode b_M_init 4 = .ok (.aload_n 0, 1) := by decide +kernel
theorem d_M_init_5 : decode b_M_init 5 = .ok (.bipush 6, 2) := by decide +kernel
theorem d_M_init_7 : decode b_M_init 7 = .ok (.newarray .int, 2) := by decide +kernel
theorem d_M_init_9 : decode b_M_init 9 = .ok (.putfield 9, 3) := by decide +kernel
theorem d_M_init_12 : decode b_M_init 12 = .ok (.aload_n 0, 1) := by decide +kernel
theorem d_M_init_13 : decode b_M_init 13 = .ok (.bipush 6, 2) := by decide +kernel
theorem d_M_init_15 : decode b_M_init 15 = .ok (.newarray .long, 2) := by decide +kernel
theorem d_M_init_17 : decode b_M_init 17 = .ok (.putfield 15, 3) := by decide +kernel
theorem d_M_init_20 : decode b_M_init 20 = .ok (.aload_n 0, 1) := by decide +kernel
theorem d_M_init_21 : decode b_M_init 21 = .ok (.lconst 1, 1) := by decide +kernel
theorem d_M_init_22 : decode b_M_init 22 = .ok (.putfield 19, 3) := by decide +kernel
theorem d_M_init_25 : decode b_M_init 25 = .ok (.aload_n 0, 1) := by decide +kernel
theorem d_M_init_26 : decode b_M_init 26 = .ok (.lconst 0, 1) := by decide +kernel
theorem d_M_init_27 : decode b_M_init 27 = .ok (.putfield 23, 3) := by decide +kernel
theorem d_M_init_30 : decode b_M_init 30 = .ok (.aload_n 0, 1) := by decide +kernel
theorem d_M_init_31 : decode b_M_init 31 = .ok (.iconst 0, 1) := by decide +kernel
theorem d_M_init_32 : decode b_M_init 32 = .ok (.putfield 26, 3) := by decide +kernel
theorem d_M_init_35 : decode b_M_init 35 = .ok (.aload_n 0, 1) := by decide +kernel
theorem d_M_init_36 : decode b_M_init 36 = .ok (.iconst 0, 1) := by decide +kernel
theorem d_M_init_37 : decode b_M_init 37 = .ok (.putfield 30, 3) := by decide +kernel
theorem d_M_init_40 : decode b_M_init 40 = .ok (.aload_n 0, 1) := by decide +kernel
theorem d_M_init_41 : decode b_M_init 41 = .ok (.iconst 0, 1) := by decide +kernel
theorem d_M_init_42 : decode b_M_init 42 = .ok (.putfield 33, 3) := by decide +kernel
theorem d_M_init_45 : decode b_M_init 45 = .ok (.aload_n 0, 1) := by decide +kernel
theorem d_M_init_46 : decode b_M_init 46 = .ok (.iconst 0, 1) := by decide +kernel
theorem d_M_init_47 : decode b_M_init 47 = .ok (.putfield 36, 3) := by decide +kernel
theorem d_M_init_50 : decode b_M_init 50 = .ok (.return_, 1) := by decide +kernel
theorem d_M_look_0 : decode b_M_look 0 = .ok (.aload_n 0, 1) := by decide +kernel
theorem d_M_look_1 : decode b_M_look 1 = .ok (.aload_n 1, 1) := by decide +kernel
theorem d_M_look_2 : decode b_M_look 2 = .ok (.invokevirtual 39, 3) := by decide +kernel
theorem d_M_look_5 : decode b_M_look 5 = .ok (.aload_n 0, 1) := by decide +kernel
theorem d_M_look_6 : decode b_M_look 6 = .ok (.getfield 36, 3) := by decide +kernel
theorem d_M_look_9 : decode b_M_look 9 = .ok (.ifCond .le 11, 3) := by decide +kernel
theorem d_M_look_12 : decode b_M_look 12 = .ok (.aload_n 0, 1) := by decide +kernel
theorem d_M_look_13 : decode b_M_look 13 = .ok (.getfield 36, 3) := by decide +kernel
theorem d_M_look_16 : decode b_M_look 16 = .ok (.i2l, 1) := by decide +kernel
theorem d_M_look_17 : decode b_M_look 17 = .ok (.goto 4, 3) := by decide +kernel
theorem d_M_look_20 : decode b_M_look 20 = .ok (.lconst 1, 1) := by decide +kernel
theorem d_M_look_21 : decode b_M_look 21 = .ok (.lstore_n 2, 1) := by decide +kernel
theorem d_M_look_22 : decode b_M_look 22 = .ok (.aload_n 0, 1) := by decide +kernel
theorem d_M_look_23 : decode b_M_look 23 = .ok (.getfield 30, 3) := by decide +kernel
theorem d_M_look_26 : decode b_M_look 26 = .ok (.ifCond .le 11, 3) := by decide +kernel
theorem d_M_look_29 : decode b_M_look 29 = .ok (.aload_n 0, 1) := by decide +kernel
theorem d_M_look_30 : decode b_M_look 30 = .ok (.getfield 30, 3) := by decide +kernel
theorem d_M_look_33 : decode b_M_look 33 = .ok (.i2l, 1) := by decide +kernel
theorem d_M_look_34 : decode b_M_look 34 = .ok (.goto 4, 3) := by decide +kernel
theorem d_M_look_37 : decode b_M_look 37 = .ok (.lconst 1, 1) := by decide +kernel
theorem d_M_look_38 : decode b_M_look 38 = .ok (.lstore 4, 2) := by decide +kernel
theorem d_M_look_40 : decode b_M_look 40 = .ok (.aload_n 0, 1) := by decide +kernel
theorem d_M_look_41 : decode b_M_look 41 = .ok (.lload_n 2, 1) := by decide +kernel
theorem d_M_look_42 : decode b_M_look 42 = .ok (.lload 4, 2) := by decide +kernel
theorem d_M_look_44 : decode b_M_look 44 = .ok (.lmul, 1) := by decide +kernel
theorem d_M_look_45 : decode b_M_look 45 = .ok (.putfield 19, 3) := by decide +kernel
theorem d_M_look_48 : decode b_M_look 48 = .ok (.aload_n 0, 1) := by decide +kernel
theorem d_M_look_49 : decode b_M_look 49 = .ok (.lconst 0, 1) := by decide +kernel
theorem d_M_look_50 : decode b_M_look 50 = .ok (.putfield 23, 3) := by decide +kernel
theorem d_M_look_53 : decode b_M_look 53 = .ok (.iconst 0, 1) := by decide +kernel
theorem d_M_look_54 : decode b_M_look 54 = .ok (.istore 6, 2) := by decide +kernel
theorem d_M_look_56 : decode b_M_look 56 = .ok (.iload 6, 2) := by decide +kernel
theorem d_M_look_58 : decode b_M_look 58 = .ok (.aload_n 1, 1) := by decide +kernel
theorem d_M_look_59 : decode b_M_look 59 = .ok (.getfield 43, 3) := by decide +kernel
theorem d_M_look_62 : decode b_M_look 62 = .ok (.if_icmp .ge 70, 3) := by decide +kernel
theorem d_M_look_65 : decode b_M_look 65 = .ok (.aload_n 1, 1) := by decide +kernel
theorem d_M_look_66 : decode b_M_look 66 = .ok (.getfield 48, 3) := by decide +kernel
theorem d_M_look_69 : decode b_M_look 69 = .ok (.iload 6, 2) := by decide +kernel
theorem d_M_look_71 : decode b_M_look 71 = .ok (.aaload, 1) := by decide +kernel
theorem d_M_look_72 : decode b_M_look 72 = .ok (.astore 7, 2) := by decide +kernel
theorem d_M_look_74 : decode b_M_look 74 = .ok (.aload_n 0, 1) := by decide +kernel
theorem d_M_look_75 : decode b_M_look 75 = .ok (.getfield 9, 3) := by decide +kernel
theorem d_M_look_78 : decode b_M_look 78 = .ok (.iload 6, 2) := by decide +kernel
theorem d_M_look_80 : decode b_M_look 80 = .ok (.aload_n 0, 1) := by decide +kernel
theorem d_M_look_81 : decode b_M_look 81 = .ok (.aload 7, 2) := by decide +kernel
theorem d_M_look_83 : decode b_M_look 83 = .ok (.invokevirtual 52, 3) := by decide +kernel
theorem d_M_look_86 : decode b_M_look 86 = .ok (.iastore, 1) := by decide +kernel
theorem d_M_look_87 : decode b_M_look 87 = .ok (.aload_n 0, 1) := by decide +kernel
theorem d_M_look_88 : decode b_M_look 88 = .ok (.getfield 15, 3) := by decide +kernel
theorem d_M_look_91 : decode b_M_look 91 = .ok (.iload 6, 2) := by decide +kernel
theorem d_M_look_93 : decode b_M_look 93 = .ok (.aload_n 0, 1) := by decide +kernel
theorem d_M_look_94 : decode b_M_look 94 = .ok (.aload 7, 2) := by decide +kernel
theorem d_M_look_96 : decode b_M_look 96 = .ok (.aload_n 0, 1) := by decide +kernel
theorem d_M_look_97 : decode b_M_look 97 = .ok (.getfield 9, 3) := by decide +kernel
theorem d_M_look_100 : decode b_M_look 100 = .ok (.iload 6, 2) := by decide +kernel
theorem d_M_look_102 : decode b_M_look 102 = .ok (.iaload, 1) := by decide +kernel
theorem d_M_look_103 : decode b_M_look 103 = .ok (.lload_n 2, 1) := by decide +kernel
theorem d_M_look_104 : decode b_M_look 104 = .ok (.lload 4, 2) := by decide +kernel
theorem d_M_look_106 : decode b_M_look 106 = .ok (.invokevirtual 56, 3) := by decide +kernel
theorem d_M_look_109 : decode b_M_look 109 = .ok (.lastore, 1) := by decide +kernel
theorem d_M_look_110 : decode b_M_look 110 = .ok (.aload_n 0, 1) := by decide +kernel
theorem d_M_look_111 : decode b_M_look 111 = .ok (.dup, 1) := by decide +kernel
theorem d_M_look_112 : decode b_M_look 112 = .ok (.getfield 23, 3) := by decide +kernel
theorem d_M_look_115 : decode b_M_look 115 = .ok (.aload_n 0, 1) := by decide +kernel
theorem d_M_look_116 : decode b_M_look 116 = .ok (.getfield 15, 3) := by decide +kernel
theorem d_M_look_119 : decode b_M_look 119 = .ok (.iload 6, 2) := by decide +kernel
theorem d_M_look_121 : decode b_M_look 121 = .ok (.laload, 1) := by decide +kernel
theorem d_M_look_122 : decode b_M_look 122 = .ok (.ladd, 1) := by decide +kernel
theorem d_M_look_123 : decode b_M_look 123 = .ok (.putfield 23, 3) := by decide +kernel
theorem d_M_look_126 : decode b_M_look 126 = .ok (.iinc 6 1, 3) := by decide +kernel
theorem d_M_look_129 : decode b_M_look 129 = .ok (.goto (-73), 3) := by decide +kernel
theorem d_M_look_132 : decode b_M_look 132 = .ok (.return_, 1) := by decide +kernel
theorem d_M_sumRead_0 : decode b_M_sumRead 0 = .ok (.aload_n 0, 1) := by decide +kernel
theorem d_M_sumRead_1 : decode b_M_sumRead 1 = .ok (.iconst 0, 1) := by decide +kernel
theorem d_M_sumRead_2 : decode b_M_sumRead 2 = .ok (.putfield 26, 3) := by decide +kernel
theorem d_M_sumRead_5 : decode b_M_sumRead 5 = .ok (.aload_n 0, 1) := by decide +kernel
theorem d_M_sumRead_6 : decode b_M_sumRead 6 = .ok (.iconst 0, 1) := by decide +kernel
theorem d_M_sumRead_7 : decode b_M_sumRead 7 = .ok (.putfield 30, 3) := by decide +kernel
theorem d_M_sumRead_10 : decode b_M_sumRead 10 = .ok (.aload_n 0, 1) := by decide +kernel
theorem d_M_sumRead_11 : decode b_M_sumRead 11 = .ok (.iconst 0, 1) := by decide +kernel
theorem d_M_sumRead_12 : decode b_M_sumRead 12 = .ok (.putfield 33, 3) := by decide +kernel
theorem d_M_sumRead_15 : decode b_M_sumRead 15 = .ok (.aload_n 0, 1) := by decide +kernel
theorem d_M_sumRead_16 : decode b_M_sumRead 16 = .ok (.iconst 0, 1) := by decide +kernel
theorem d_M_sumRead_17 : decode b_M_sumRead 17 = .ok (.putfield 36, 3) := by decide +kernel
theorem d_M_sumRead_20 : decode b_M_sumRead 20 = .ok (.iconst 0, 1) := by decide +kernel
theorem d_M_sumRead_21 : decode b_M_sumRead 21 = .ok (.istore_n 2, 1) := by decide +kernel
theorem d_M_sumRead_22 : decode b_M_sumRead 22 = .ok (.iload_n 2, 1) := by decide +kernel
theorem d_M_sumRead_23 : decode b_M_sumRead 23 = .ok (.aload_n 1, 1) := by decide +kernel
theorem d_M_sumRead_24 : decode b_M_sumRead 24 = .ok (.getfield 43, 3) := by decide +kernel
theorem d_M_sumRead_27 : decode b_M_sumRead 27 = .ok (.if_icmp .ge 83, 3) := by decide +kernel
theorem d_M_sumRead_30 : decode b_M_sumRead 30 = .ok (.aload_n 1, 1) := by decide +kernel
theorem d_M_sumRead_31 : decode b_M_sumRead 31 = .ok (.getfield 48, 3) := by decide +kernel
theorem d_M_sumRead_34 : decode b_M_sumRead 34 = .ok (.iload_n 2, 1) := by decide +kernel
theorem d_M_sumRead_35 : decode b_M_sumRead 35 = .ok (.aaload, 1) := by decide +kernel
theorem d_M_sumRead_36 : decode b_M_sumRead 36 = .ok (.astore_n 3, 1) := by decide +kernel
theorem d_M_sumRead_37 : decode b_M_sumRead 37 = .ok (.aload_n 3, 1) := by decide +kernel
theorem d_M_sumRead_38 : decode b_M_sumRead 38 = .ok (.invokevirtual 60, 3) := by decide +kernel
theorem d_M_sumRead_41 : decode b_M_sumRead 41 = .ok (.ifCond .eq 63, 3) := by decide +kernel
theorem d_M_sumRead_44 : decode b_M_sumRead 44 = .ok (.aload_n 0, 1) := by decide +kernel
theorem d_M_sumRead_45 : decode b_M_sumRead 45 = .ok (.dup, 1) := by decide +kernel
theorem d_M_sumRead_46 : decode b_M_sumRead 46 = .ok (.getfield 26, 3) := by decide +kernel
theorem d_M_sumRead_49 : decode b_M_sumRead 49 = .ok (.aload_n 3, 1) := by decide +kernel
theorem d_M_sumRead_50 : decode b_M_sumRead 50 = .ok (.invokevirtual 66, 3) := by decide +kernel
theorem d_M_sumRead_53 : decode b_M_sumRead 53 = .ok (.iadd, 1) := by decide +kernel
theorem d_M_sumRead_54 : decode b_M_sumRead 54 = .ok (.putfield 26, 3) := by decide +kernel
theorem d_M_sumRead_57 : decode b_M_sumRead 57 = .ok (.aload_n 0, 1) := by decide +kernel
theorem d_M_sumRead_58 : decode b_M_sumRead 58 = .ok (.dup, 1) := by decide +kernel
theorem d_M_sumRead_59 : decode b_M_sumRead 59 = .ok (.getfield 30, 3) := by decide +kernel
theorem d_M_sumRead_62 : decode b_M_sumRead 62 = .ok (.aload_n 3, 1) := by decide +kernel
theorem d_M_sumRead_63 : decode b_M_sumRead 63 = .ok (.getfield 70, 3) := by decide +kernel
theorem d_M_sumRead_66 : decode b_M_sumRead 66 = .ok (.iadd, 1) := by decide +kernel
theorem d_M_sumRead_67 : decode b_M_sumRead 67 = .ok (.putfield 30, 3) := by decide +kernel
theorem d_M_sumRead_70 : decode b_M_sumRead 70 = .ok (.aload_n 3, 1) := by decide +kernel
theorem d_M_sumRead_71 : decode b_M_sumRead 71 = .ok (.getfield 73, 3) := by decide +kernel
theorem d_M_sumRead_74 : decode b_M_sumRead 74 = .ok (.iconst (-1), 1) := by decide +kernel
theorem d_M_sumRead_75 : decode b_M_sumRead 75 = .ok (.if_icmp .eq 29, 3) := by decide +kernel
theorem d_M_sumRead_78 : decode b_M_sumRead 78 = .ok (.aload_n 0, 1) := by decide +kernel
theorem d_M_sumRead_79 : decode b_M_sumRead 79 = .ok (.dup, 1) := by decide +kernel
theorem d_M_sumRead_80 : decode b_M_sumRead 80 = .ok (.getfield 33, 3) := by decide +kernel
theorem d_M_sumRead_83 : decode b_M_sumRead 83 = .ok (.aload_n 3, 1) := by decide +kernel
theorem d_M_sumRead_84 : decode b_M_sumRead 84 = .ok (.invokevirtual 66, 3) := by decide +kernel
theorem d_M_sumRead_87 : decode b_M_sumRead 87 = .ok (.iadd, 1) := by decide +kernel
theorem d_M_sumRead_88 : decode b_M_sumRead 88 = .ok (.putfield 33, 3) := by decide +kernel
theorem d_M_sumRead_91 : decode b_M_sumRead 91 = .ok (.aload_n 0, 1) := by decide +kernel
theorem d_M_sumRead_92 : decode b_M_sumRead 92 = .ok (.dup, 1) := by decide +kernel
theorem d_M_sumRead_93 : decode b_M_sumRead 93 = .ok (.getfield 36, 3) := by decide +kernel
theorem d_M_sumRead_96 : decode b_M_sumRead 96 = .ok (.aload_n 3, 1) := by decide +kernel
theorem d_M_sumRead_97 : decode b_M_sumRead 97 = .ok (.getfield 73, 3) := by decide +kernel
theorem d_M_sumRead_100 : decode b_M_sumRead 100 = .ok (.iadd, 1) := by decide +kernel
theorem d_M_sumRead_101 : decode b_M_sumRead 101 = .ok (.putfield 36, 3) := by decide +kernel
theorem d_M_sumRead_104 : decode b_M_sumRead 104 = .ok (.iinc 2 1, 3) := by decide +kernel
theorem d_M_sumRead_107 : decode b_M_sumRead 107 = .ok (.goto (-85), 3) := by decide +kernel
theorem d_M_sumRead_110 : decode b_M_sumRead 110 = .ok (.return_, 1) := by decide +kernel
theorem d_M_kindOf_0 : decode b_M_kindOf 0 = .ok (.aload_n 1, 1) := by decide +kernel
theorem d_M_kindOf_1 : decode b_M_kindOf 1 = .ok (.invokevirtual 60, 3) := by decide +kernel
theorem d_M_kindOf_4 : decode b_M_kindOf 4 = .ok (.ifCond .eq 5, 3) := by decide +kernel
theorem d_M_kindOf_7 : decode b_M_kindOf 7 = .ok (.iconst 0, 1) := by decide +kernel
theorem d_M_kindOf_8 : decode b_M_kindOf 8 = .ok (.ireturn, 1) := by decide +kernel
theorem d_M_kindOf_9 : decode b_M_kindOf 9 = .ok (.aload_n 1, 1) := by decide +kernel
theorem d_M_kindOf_10 : decode b_M_kindOf 10 = .ok (.getfield 73, 3) := by decide +kernel
theorem d_M_kindOf_13 : decode b_M_kindOf 13 = .ok (.iconst (-1), 1) := by decide +kernel
theorem d_M_kindOf_14 : decode b_M_kindOf 14 = .ok (.if_icmp .eq 19, 3) := by decide +kernel
theorem d_M_kindOf_17 : decode b_M_kindOf 17 = .ok (.aload_n 0, 1) := by decide +kernel
theorem d_M_kindOf_18 : decode b_M_kindOf 18 = .ok (.getfield 33, 3) := by decide +kernel
theorem d_M_kindOf_21 : decode b_M_kindOf 21 = .ok (.ifCond .le 12, 3) := by decide +kernel
theorem d_M_kindOf_24 : decode b_M_kindOf 24 = .ok (.aload_n 0, 1) := by decide +kernel
theorem d_M_kindOf_25 : decode b_M_kindOf 25 = .ok (.getfield 36, 3) := by decide +kernel
theorem d_M_kindOf_28 : decode b_M_kindOf 28 = .ok (.ifCond .le 5, 3) := by decide +kernel
theorem d_M_kindOf_31 : decode b_M_kindOf 31 = .ok (.iconst 1, 1) := by decide +kernel
theorem d_M_kindOf_32 : decode b_M_kindOf 32 = .ok (.ireturn, 1) := by decide +kernel
theorem d_M_kindOf_33 : decode b_M_kindOf 33 = .ok (.aload_n 0, 1) := by decide +kernel
theorem d_M_kindOf_34 : decode b_M_kindOf 34 = .ok (.getfield 30, 3) := by decide +kernel
theorem d_M_kindOf_37 : decode b_M_kindOf 37 = .ok (.ifCond .le 7, 3) := by decide +kernel
theorem d_M_kindOf_40 : decode b_M_kindOf 40 = .ok (.iconst 2, 1) := by decide +kernel
theorem d_M_kindOf_41 : decode b_M_kindOf 41 = .ok (.goto 4, 3) := by decide +kernel
theorem d_M_kindOf_44 : decode b_M_kindOf 44 = .ok (.iconst 3, 1) := by decide +kernel
theorem d_M_kindOf_45 : decode b_M_kindOf 45 = .ok (.ireturn, 1) := by decide +kernel
theorem d_M_scaledUnits_0 : decode b_M_scaledUnits 0 = .ok (.ldc2_w 76, 3) := by decide +kernel
theorem d_M_scaledUnits_3 : decode b_M_scaledUnits 3 = .ok (.aload_n 0, 1) := by decide +kernel
theorem d_M_scaledUnits_4 : decode b_M_scaledUnits 4 = .ok (.getfield 19, 3) := by decide +kernel
theorem d_M_scaledUnits_7 : decode b_M_scaledUnits 7 = .ok (.lmul, 1) := by decide +kernel
theorem d_M_scaledUnits_8 : decode b_M_scaledUnits 8 = .ok (.lstore 7, 2) := by decide +kernel
theorem d_M_scaledUnits_10 : decode b_M_scaledUnits 10 = .ok (.iload_n 2, 1) := by decide +kernel
theorem d_M_scaledUnits_11 : decode b_M_scaledUnits 11 = .ok (.tableswitch 75 0 2 #[25, 36, 56], 25) := by decide +kernel
theorem d_M_scaledUnits_36 : decode b_M_scaledUnits 36 = .ok (.aload_n 1, 1) := by decide +kernel
theorem d_M_scaledUnits_37 : decode b_M_scaledUnits 37 = .ok (.invokevirtual 66, 3) := by decide +kernel
theorem d_M_scaledUnits_40 : decode b_M_scaledUnits 40 = .ok (.i2l, 1) := by decide +kernel
theorem d_M_scaledUnits_41 : decode b_M_scaledUnits 41 = .ok (.aload_n 0, 1) := by decide +kernel
theorem d_M_scaledUnits_42 : decode b_M_scaledUnits 42 = .ok (.getfield 19, 3) := by decide +kernel
theorem d_M_scaledUnits_45 : decode b_M_scaledUnits 45 = .ok (.lmul, 1) := by decide +kernel
theorem d_M_scaledUnits_46 : decode b_M_scaledUnits 46 = .ok (.lreturn, 1) := by decide +kernel
theorem d_M_scaledUnits_47 : decode b_M_scaledUnits 47 = .ok (.lload 7, 2) := by decide +kernel
theorem d_M_scaledUnits_49 : decode b_M_scaledUnits 49 = .ok (.aload_n 1, 1) := by decide +kernel
theorem d_M_scaledUnits_50 : decode b_M_scaledUnits 50 = .ok (.getfield 73, 3) := by decide +kernel
theorem d_M_scaledUnits_53 : decode b_M_scaledUnits 53 = .ok (.i2l, 1) := by decide +kernel
theorem d_M_scaledUnits_54 : decode b_M_scaledUnits 54 = .ok (.aload_n 0, 1) := by decide +kernel
theorem d_M_scaledUnits_55 : decode b_M_scaledUnits 55 = .ok (.getfield 33, 3) := by decide +kernel
theorem d_M_scaledUnits_58 : decode b_M_scaledUnits 58 = .ok (.i2l, 1) := by decide +kernel
theorem d_M_scaledUnits_59 : decode b_M_scaledUnits 59 = .ok (.lmul, 1) := by decide +kernel
theorem d_M_scaledUnits_60 : decode b_M_scaledUnits 60 = .ok (.lload 5, 2) := by decide +kernel
theorem d_M_scaledUnits_62 : decode b_M_scaledUnits 62 = .ok (.lmul, 1) := by decide +kernel
theorem d_M_scaledUnits_63 : decode b_M_scaledUnits 63 = .ok (.invokestatic 78, 3) := by decide +kernel
theorem d_M_scaledUnits_66 : decode b_M_scaledUnits 66 = .ok (.lreturn, 1) := by decide +kernel
theorem d_M_scaledUnits_67 : decode b_M_scaledUnits 67 = .ok (.lload 7, 2) := by decide +kernel
theorem d_M_scaledUnits_69 : decode b_M_scaledUnits 69 = .ok (.aload_n 1, 1) := by decide +kernel
theorem d_M_scaledUnits_70 : decode b_M_scaledUnits 70 = .ok (.getfield 70, 3) := by decide +kernel
theorem d_M_scaledUnits_73 : decode b_M_scaledUnits 73 = .ok (.i2l, 1) := by decide +kernel
theorem d_M_scaledUnits_74 : decode b_M_scaledUnits 74 = .ok (.aload_n 0, 1) := by decide +kernel
theorem d_M_scaledUnits_75 : decode b_M_scaledUnits 75 = .ok (.getfield 26, 3) := by decide +kernel
theorem d_M_scaledUnits_78 : decode b_M_scaledUnits 78 = .ok (.i2l, 1) := by decide +kernel
theorem d_M_scaledUnits_79 : decode b_M_scaledUnits 79 = .ok (.lmul, 1) := by decide +kernel
theorem d_M_scaledUnits_80 : decode b_M_scaledUnits 80 = .ok (.lload_n 3, 1) := by decide +kernel
theorem d_M_scaledUnits_81 : decode b_M_scaledUnits 81 = .ok (.lmul, 1) := by decide +kernel
theorem d_M_scaledUnits_82 : decode b_M_scaledUnits 82 = .ok (.invokestatic 78, 3) := by decide +kernel
theorem d_M_scaledUnits_85 : decode b_M_scaledUnits 85 = .ok (.lreturn, 1) := by decide +kernel
theorem d_M_scaledUnits_86 : decode b_M_scaledUnits 86 = .ok (.lconst 0, 1) := by decide +kernel
theorem d_M_scaledUnits_87 : decode b_M_scaledUnits 87 = .ok (.lreturn, 1) := by decide +kernel
theorem d_M_areFitFor_0 : decode b_M_areFitFor 0 = .ok (.iconst 0, 1) := by decide +kernel
theorem d_M_areFitFor_1 : decode b_M_areFitFor 1 = .ok (.istore_n 2, 1) := by decide +kernel
theorem d_M_areFitFor_2 : decode b_M_areFitFor 2 = .ok (.iconst 0, 1) := by decide +kernel
theorem d_M_areFitFor_3 : decode b_M_areFitFor 3 = .ok (.istore_n 3, 1) := by decide +kernel
theorem d_M_areFitFor_4 : decode b_M_areFitFor 4 = .ok (.iload_n 3, 1) := by decide +kernel
theorem d_M_areFitFor_5 : decode b_M_areFitFor 5 = .ok (.aload_n 1, 1) := by decide +kernel
theorem d_M_areFitFor_6 : decode b_M_areFitFor 6 = .ok (.getfield 43, 3) := by decide +kernel
theorem d_M_areFitFor_9 : decode b_M_areFitFor 9 = .ok (.if_icmp .ge 42, 3) := by decide +kernel
theorem d_M_areFitFor_12 : decode b_M_areFitFor 12 = .ok (.aload_n 0, 1) := by decide +kernel
theorem d_M_areFitFor_13 : decode b_M_areFitFor 13 = .ok (.getfield 9, 3) := by decide +kernel
theorem d_M_areFitFor_16 : decode b_M_areFitFor 16 = .ok (.iload_n 3, 1) := by decide +kernel
theorem d_M_areFitFor_17 : decode b_M_areFitFor 17 = .ok (.iaload, 1) := by decide +kernel
theorem d_M_areFitFor_18 : decode b_M_areFitFor 18 = .ok (.iconst 3, 1) := by decide +kernel
theorem d_M_areFitFor_19 : decode b_M_areFitFor 19 = .ok (.if_icmp .ne 5, 3) := by decide +kernel
theorem d_M_areFitFor_22 : decode b_M_areFitFor 22 = .ok (.iconst 0, 1) := by decide +kernel
theorem d_M_areFitFor_23 : decode b_M_areFitFor 23 = .ok (.ireturn, 1) := by decide +kernel
theorem d_M_areFitFor_24 : decode b_M_areFitFor 24 = .ok (.aload_n 0, 1) := by decide +kernel
theorem d_M_areFitFor_25 : decode b_M_areFitFor 25 = .ok (.getfield 9, 3) := by decide +kernel
theorem d_M_areFitFor_28 : decode b_M_areFitFor 28 = .ok (.iload_n 3, 1) := by decide +kernel
theorem d_M_areFitFor_29 : decode b_M_areFitFor 29 = .ok (.iaload, 1) := by decide +kernel
theorem d_M_areFitFor_30 : decode b_M_areFitFor 30 = .ok (.ifCond .eq 15, 3) := by decide +kernel
theorem d_M_areFitFor_33 : decode b_M_areFitFor 33 = .ok (.iload_n 2, 1) := by decide +kernel
theorem d_M_areFitFor_34 : decode b_M_areFitFor 34 = .ok (.aload_n 1, 1) := by decide +kernel
theorem d_M_areFitFor_35 : decode b_M_areFitFor 35 = .ok (.getfield 48, 3) := by decide +kernel
theorem d_M_areFitFor_38 : decode b_M_areFitFor 38 = .ok (.iload_n 3, 1) := by decide +kernel
theorem d_M_areFitFor_39 : decode b_M_areFitFor 39 = .ok (.aaload, 1) := by decide +kernel
theorem d_M_areFitFor_40 : decode b_M_areFitFor 40 = .ok (.getfield 70, 3) := by decide +kernel
theorem d_M_areFitFor_43 : decode b_M_areFitFor 43 = .ok (.iadd, 1) := by decide +kernel
theorem d_M_areFitFor_44 : decode b_M_areFitFor 44 = .ok (.istore_n 2, 1) := by decide +kernel
theorem d_M_areFitFor_45 : decode b_M_areFitFor 45 = .ok (.iinc 3 1, 3) := by decide +kernel
theorem d_M_areFitFor_48 : decode b_M_areFitFor 48 = .ok (.goto (-44), 3) := by decide +kernel
theorem d_M_areFitFor_51 : decode b_M_areFitFor 51 = .ok (.iconst 4, 1) := by decide +kernel
theorem d_M_areFitFor_52 : decode b_M_areFitFor 52 = .ok (.iload_n 2, 1) := by decide +kernel
theorem d_M_areFitFor_53 : decode b_M_areFitFor 53 = .ok (.imul, 1) := by decide +kernel
theorem d_M_areFitFor_54 : decode b_M_areFitFor 54 = .ok (.aload_n 1, 1) := by decide +kernel
theorem d_M_areFitFor_55 : decode b_M_areFitFor 55 = .ok (.invokevirtual 84, 3) := by decide +kernel
theorem d_M_areFitFor_58 : decode b_M_areFitFor 58 = .ok (.if_icmp .gt 16, 3) := by decide +kernel
theorem d_M_areFitFor_61 : decode b_M_areFitFor 61 = .ok (.aload_n 0, 1) := by decide +kernel
theorem d_M_areFitFor_62 : decode b_M_areFitFor 62 = .ok (.getfield 23, 3) := by decide +kernel
theorem d_M_areFitFor_65 : decode b_M_areFitFor 65 = .ok (.lconst 0, 1) := by decide +kernel
theorem d_M_areFitFor_66 : decode b_M_areFitFor 66 = .ok (.lcmp, 1) := by decide +kernel
theorem d_M_areFitFor_67 : decode b_M_areFitFor 67 = .ok (.ifCond .le 7, 3) := by decide +kernel
theorem d_M_areFitFor_70 : decode b_M_areFitFor 70 = .ok (.iconst 1, 1) := by decide +kernel
theorem d_M_areFitFor_71 : decode b_M_areFitFor 71 = .ok (.goto 4, 3) := by decide +kernel
theorem d_M_areFitFor_74 : decode b_M_areFitFor 74 = .ok (.iconst 0, 1) := by decide +kernel
theorem d_M_areFitFor_75 : decode b_M_areFitFor 75 = .ok (.ireturn, 1) := by decide +kernel
theorem d_M_wholeUnits_0 : decode b_M_wholeUnits 0 = .ok (.aload_n 0, 1) := by decide +kernel
theorem d_M_wholeUnits_1 : decode b_M_wholeUnits 1 = .ok (.getfield 19, 3) := by decide +kernel
theorem d_M_wholeUnits_4 : decode b_M_wholeUnits 4 = .ok (.lconst 0, 1) := by decide +kernel
theorem d_M_wholeUnits_5 : decode b_M_wholeUnits 5 = .ok (.lcmp, 1) := by decide +kernel
theorem d_M_wholeUnits_6 : decode b_M_wholeUnits 6 = .ok (.ifCond .le 17, 3) := by decide +kernel
theorem d_M_wholeUnits_9 : decode b_M_wholeUnits 9 = .ok (.aload_n 0, 1) := by decide +kernel
theorem d_M_wholeUnits_10 : decode b_M_wholeUnits 10 = .ok (.getfield 15, 3) := by decide +kernel
theorem d_M_wholeUnits_13 : decode b_M_wholeUnits 13 = .ok (.iload_n 1, 1) := by decide +kernel
theorem d_M_wholeUnits_14 : decode b_M_wholeUnits 14 = .ok (.laload, 1) := by decide +kernel
theorem d_M_wholeUnits_15 : decode b_M_wholeUnits 15 = .ok (.aload_n 0, 1) := by decide +kernel
theorem d_M_wholeUnits_16 : decode b_M_wholeUnits 16 = .ok (.getfield 19, 3) := by decide +kernel
theorem d_M_wholeUnits_19 : decode b_M_wholeUnits 19 = .ok (.ldiv, 1) := by decide +kernel
theorem d_M_wholeUnits_20 : decode b_M_wholeUnits 20 = .ok (.goto 4, 3) := by decide +kernel
theorem d_M_wholeUnits_23 : decode b_M_wholeUnits 23 = .ok (.lconst 0, 1) := by decide +kernel
theorem d_M_wholeUnits_24 : decode b_M_wholeUnits 24 = .ok (.lstore_n 2, 1) := by decide +kernel
theorem d_M_wholeUnits_25 : decode b_M_wholeUnits 25 = .ok (.lload_n 2, 1) := by decide +kernel
theorem d_M_wholeUnits_26 : decode b_M_wholeUnits 26 = .ok (.lconst 0, 1) := by decide +kernel
theorem d_M_wholeUnits_27 : decode b_M_wholeUnits 27 = .ok (.lcmp, 1) := by decide +kernel
theorem d_M_wholeUnits_28 : decode b_M_wholeUnits 28 = .ok (.ifCond .le 8, 3) := by decide +kernel
theorem d_M_wholeUnits_31 : decode b_M_wholeUnits 31 = .ok (.lload_n 2, 1) := by decide +kernel
theorem d_M_wholeUnits_32 : decode b_M_wholeUnits 32 = .ok (.l2i, 1) := by decide +kernel
theorem d_M_wholeUnits_33 : decode b_M_wholeUnits 33 = .ok (.goto 4, 3) := by decide +kernel
theorem d_M_wholeUnits_36 : decode b_M_wholeUnits 36 = .ok (.iconst (-1), 1) := by decide +kernel
theorem d_M_wholeUnits_37 : decode b_M_wholeUnits 37 = .ok (.ireturn, 1) := by decide +kernel
theorem d_M_endsStretch_0 : decode b_M_endsStretch 0 = .ok (.iload_n 3, 1) := by decide +kernel
theorem d_M_endsStretch_1 : decode b_M_endsStretch 1 = .ok (.bipush 12, 2) := by decide +kernel
theorem d_M_endsStretch_3 : decode b_M_endsStretch 3 = .ok (.if_icmp .eq 22, 3) := by decide +kernel
theorem d_M_endsStretch_6 : decode b_M_endsStretch 6 = .ok (.aload_n 0, 1) := by decide +kernel
theorem d_M_endsStretch_7 : decode b_M_endsStretch 7 = .ok (.getfield 9, 3) := by decide +kernel
theorem d_M_endsStretch_10 : decode b_M_endsStretch 10 = .ok (.iload_n 2, 1) := by decide +kernel
theorem d_M_endsStretch_11 : decode b_M_endsStretch 11 = .ok (.iaload, 1) := by decide +kernel
theorem d_M_endsStretch_12 : decode b_M_endsStretch 12 = .ok (.ifCond .ne 17, 3) := by decide +kernel
theorem d_M_endsStretch_15 : decode b_M_endsStretch 15 = .ok (.aload_n 1, 1) := by decide +kernel
theorem d_M_endsStretch_16 : decode b_M_endsStretch 16 = .ok (.getfield 87, 3) := by decide +kernel
theorem d_M_endsStretch_19 : decode b_M_endsStretch 19 = .ok (.iload_n 3, 1) := by decide +kernel
theorem d_M_endsStretch_20 : decode b_M_endsStretch 20 = .ok (.iaload, 1) := by decide +kernel
theorem d_M_endsStretch_21 : decode b_M_endsStretch 21 = .ok (.iconst (-1), 1) := by decide +kernel
theorem d_M_endsStretch_22 : decode b_M_endsStretch 22 = .ok (.if_icmp .eq 7, 3) := by decide +kernel
theorem d_M_endsStretch_25 : decode b_M_endsStretch 25 = .ok (.iconst 1, 1) := by decide +kernel
theorem d_M_endsStretch_26 : decode b_M_endsStretch 26 = .ok (.goto 4, 3) := by decide +kernel
theorem d_M_endsStretch_29 : decode b_M_endsStretch 29 = .ok (.iconst 0, 1) := by decide +kernel
theorem d_M_endsStretch_30 : decode b_M_endsStretch 30 = .ok (.ireturn, 1) := by decide +kernel
theorem d_M_stretchUnits_0 : decode b_M_stretchUnits 0 = .ok (.aload_n 0, 1) := by decide +kernel
theorem d_M_stretchUnits_1 : decode b_M_stretchUnits 1 = .ok (.getfield 9, 3) := by decide +kernel
theorem d_M_stretchUnits_4 : decode b_M_stretchUnits 4 = .ok (.iload_n 2, 1) := by decide +kernel
theorem d_M_stretchUnits_5 : decode b_M_stretchUnits 5 = .ok (.iaload, 1) := by decide +kernel
theorem d_M_stretchUnits_6 : decode b_M_stretchUnits 6 = .ok (.ifCond .ne 19, 3) := by decide +kernel
theorem d_M_stretchUnits_9 : decode b_M_stretchUnits 9 = .ok (.aload_n 1, 1) := by decide +kernel
theorem d_M_stretchUnits_10 : decode b_M_stretchUnits 10 = .ok (.iload_n 3, 1) := by decide +kernel
theorem d_M_stretchUnits_11 : decode b_M_stretchUnits 11 = .ok (.iload 4, 2) := by decide +kernel
theorem d_M_stretchUnits_13 : decode b_M_stretchUnits 13 = .ok (.invokevirtual 90, 3) := by decide +kernel
theorem d_M_stretchUnits_16 : decode b_M_stretchUnits 16 = .ok (.i2l, 1) := by decide +kernel
theorem d_M_stretchUnits_17 : decode b_M_stretchUnits 17 = .ok (.aload_n 0, 1) := by decide +kernel
theorem d_M_stretchUnits_18 : decode b_M_stretchUnits 18 = .ok (.getfield 19, 3) := by decide +kernel
theorem d_M_stretchUnits_21 : decode b_M_stretchUnits 21 = .ok (.lmul, 1) := by decide +kernel
theorem d_M_stretchUnits_22 : decode b_M_stretchUnits 22 = .ok (.goto 9, 3) := by decide +kernel
theorem d_M_stretchUnits_25 : decode b_M_stretchUnits 25 = .ok (.aload_n 0, 1) := by decide +kernel
theorem d_M_stretchUnits_26 : decode b_M_stretchUnits 26 = .ok (.getfield 15, 3) := by decide +kernel
theorem d_M_stretchUnits_29 : decode b_M_stretchUnits 29 = .ok (.iload_n 2, 1) := by decide +kernel
theorem d_M_stretchUnits_30 : decode b_M_stretchUnits 30 = .ok (.laload, 1) := by decide +kernel
theorem d_M_stretchUnits_31 : decode b_M_stretchUnits 31 = .ok (.lreturn, 1) := by decide +kernel
theorem d_S_init_0 : decode b_S_init 0 = .ok (.aload_n 0, 1) := by decide +kernel
theorem d_S_init_1 : decode b_S_init 1 = .ok (.invokespecial 3, 3) := by decide +kernel
theorem d_S_init_4 : decode b_S_init 4 = .ok (.aload_n 0, 1) := by decide +kernel
theorem d_S_init_5 : decode b_S_init 5 = .ok (.bipush 72, 2) := by decide +kernel
theorem d_S_init_7 : decode b_S_init 7 = .ok (.newarray .int, 2) := by decide +kernel
theorem d_S_init_9 : decode b_S_init 9 = .ok (.putfield 9, 3) := by decide +kernel
theorem d_S_init_12 : decode b_S_init 12 = .ok (.aload_n 0, 1) := by decide +kernel
theorem d_S_init_13 : decode b_S_init 13 = .ok (.bipush 72, 2) := by decide +kernel
theorem d_S_init_15 : decode b_S_init 15 = .ok (.newarray .long, 2) := by decide +kernel
theorem d_S_init_17 : decode b_S_init 17 = .ok (.putfield 15, 3) := by decide +kernel
theorem d_S_init_20 : decode b_S_init 20 = .ok (.aload_n 0, 1) := by decide +kernel
theorem d_S_init_21 : decode b_S_init 21 = .ok (.bipush 72, 2) := by decide +kernel
theorem d_S_init_23 : decode b_S_init 23 = .ok (.newarray .long, 2) := by decide +kernel
theorem d_S_init_25 : decode b_S_init 25 = .ok (.putfield 19, 3) := by decide +kernel
theorem d_S_init_28 : decode b_S_init 28 = .ok (.aload_n 0, 1) := by decide +kernel
theorem d_S_init_29 : decode b_S_init 29 = .ok (.bipush 72, 2) := by decide +kernel
theorem d_S_init_31 : decode b_S_init 31 = .ok (.newarray .long, 2) := by decide +kernel
theorem d_S_init_33 : decode b_S_init 33 = .ok (.putfield 22, 3) := by decide +kernel
theorem d_S_init_36 : decode b_S_init 36 = .ok (.aload_n 0, 1) := by decide +kernel
theorem d_S_init_37 : decode b_S_init 37 = .ok (.lconst 0, 1) := by decide +kernel
theorem d_S_init_38 : decode b_S_init 38 = .ok (.putfield 25, 3) := by decide +kernel
theorem d_S_init_41 : decode b_S_init 41 = .ok (.return_, 1) := by decide +kernel
theorem d_S_weighByArea_0 : decode b_S_weighByArea 0 = .ok (.aload_n 0, 1) := by decide +kernel
theorem d_S_weighByArea_1 : decode b_S_weighByArea 1 = .ok (.lconst 0, 1) := by decide +kernel
theorem d_S_weighByArea_2 : decode b_S_weighByArea 2 = .ok (.putfield 25, 3) := by decide +kernel
theorem d_S_weighByArea_5 : decode b_S_weighByArea 5 = .ok (.iconst 0, 1) := by decide +kernel
theorem d_S_weighByArea_6 : decode b_S_weighByArea 6 = .ok (.istore_n 3, 1) := by decide +kernel
theorem d_S_weighByArea_7 : decode b_S_weighByArea 7 = .ok (.iload_n 3, 1) := by decide +kernel
theorem d_S_weighByArea_8 : decode b_S_weighByArea 8 = .ok (.aload_n 2, 1) := by decide +kernel
theorem d_S_weighByArea_9 : decode b_S_weighByArea 9 = .ok (.getfield 29, 3) := by decide +kernel
theorem d_S_weighByArea_12 : decode b_S_weighByArea 12 = .ok (.if_icmp .ge 34, 3) := by decide +kernel
theorem d_S_weighByArea_15 : decode b_S_weighByArea 15 = .ok (.aload_n 0, 1) := by decide +kernel
theorem d_S_weighByArea_16 : decode b_S_weighByArea 16 = .ok (.iload_n 3, 1) := by decide +kernel
theorem d_S_weighByArea_17 : decode b_S_weighByArea 17 = .ok (.aload_n 1, 1) := by decide +kernel
theorem d_S_weighByArea_18 : decode b_S_weighByArea 18 = .ok (.getfield 35, 3) := by decide +kernel
theorem d_S_weighByArea_21 : decode b_S_weighByArea 21 = .ok (.aload_n 2, 1) := by decide +kernel
theorem d_S_weighByArea_22 : decode b_S_weighByArea 22 = .ok (.getfield 41, 3) := by decide +kernel
theorem d_S_weighByArea_25 : decode b_S_weighByArea 25 = .ok (.iload_n 3, 1) := by decide +kernel
theorem d_S_weighByArea_26 : decode b_S_weighByArea 26 = .ok (.iaload, 1) := by decide +kernel
theorem d_S_weighByArea_27 : decode b_S_weighByArea 27 = .ok (.aaload, 1) := by decide +kernel
theorem d_S_weighByArea_28 : decode b_S_weighByArea 28 = .ok (.getfield 44, 3) := by decide +kernel
theorem d_S_weighByArea_31 : decode b_S_weighByArea 31 = .ok (.aload_n 2, 1) := by decide +kernel
theorem d_S_weighByArea_32 : decode b_S_weighByArea 32 = .ok (.iload_n 3, 1) := by decide +kernel
theorem d_S_weighByArea_33 : decode b_S_weighByArea 33 = .ok (.invokevirtual 49, 3) := by decide +kernel
theorem d_S_weighByArea_36 : decode b_S_weighByArea 36 = .ok (.imul, 1) := by decide +kernel
theorem d_S_weighByArea_37 : decode b_S_weighByArea 37 = .ok (.invokevirtual 53, 3) := by decide +kernel
theorem d_S_weighByArea_40 : decode b_S_weighByArea 40 = .ok (.iinc 3 1, 3) := by decide +kernel
theorem d_S_weighByArea_43 : decode b_S_weighByArea 43 = .ok (.goto (-36), 3) := by decide +kernel
theorem d_S_weighByArea_46 : decode b_S_weighByArea 46 = .ok (.return_, 1) := by decide +kernel
theorem d_S_weighByWaterArea_0 : decode b_S_weighByWaterArea 0 = .ok (.aload_n 0, 1) := by decide +kernel
theorem d_S_weighByWaterArea_1 : decode b_S_weighByWaterArea 1 = .ok (.lconst 0, 1) := by decide +kernel
theorem d_S_weighByWaterArea_2 : decode b_S_weighByWaterArea 2 = .ok (.putfield 25, 3) := by decide +kernel
theorem d_S_weighByWaterArea_5 : decode b_S_weighByWaterArea 5 = .ok (.iconst 0, 1) := by decide +kernel
theorem d_S_weighByWaterArea_6 : decode b_S_weighByWaterArea 6 = .ok (.istore_n 3, 1) := by decide +kernel
theorem d_S_weighByWaterArea_7 : decode b_S_weighByWaterArea 7 = .ok (.iload_n 3, 1) := by decide +kernel
theorem d_S_weighByWaterArea_8 : decode b_S_weighByWaterArea 8 = .ok (.aload_n 2, 1) := by decide +kernel
theorem d_S_weighByWaterArea_9 : decode b_S_weighByWaterArea 9 = .ok (.getfield 29, 3) := by decide +kernel
theorem d_S_weighByWaterArea_12 : decode b_S_weighByWaterArea 12 = .ok (.if_icmp .ge 34, 3) := by decide +kernel
theorem d_S_weighByWaterArea_15 : decode b_S_weighByWaterArea 15 = .ok (.aload_n 0, 1) := by decide +kernel
theorem d_S_weighByWaterArea_16 : decode b_S_weighByWaterArea 16 = .ok (.iload_n 3, 1) := by decide +kernel
theorem d_S_weighByWaterArea_17 : decode b_S_weighByWaterArea 17 = .ok (.aload_n 1, 1) := by decide +kernel
theorem d_S_weighByWaterArea_18 : decode b_S_weighByWaterArea 18 = .ok (.getfield 35, 3) := by decide +kernel
theorem d_S_weighByWaterArea_21 : decode b_S_weighByWaterArea 21 = .ok (.aload_n 2, 1) := by decide +kernel
theorem d_S_weighByWaterArea_22 : decode b_S_weighByWaterArea 22 = .ok (.getfield 41, 3) := by decide +kernel
theorem d_S_weighByWaterArea_25 : decode b_S_weighByWaterArea 25 = .ok (.iload_n 3, 1) := by decide +kernel
theorem d_S_weighByWaterArea_26 : decode b_S_weighByWaterArea 26 = .ok (.iaload, 1) := by decide +kernel
theorem d_S_weighByWaterArea_27 : decode b_S_weighByWaterArea 27 = .ok (.aaload, 1) := by decide +kernel
theorem d_S_weighByWaterArea_28 : decode b_S_weighByWaterArea 28 = .ok (.getfield 57, 3) := by decide +kernel
theorem d_S_weighByWaterArea_31 : decode b_S_weighByWaterArea 31 = .ok (.aload_n 2, 1) := by decide +kernel
theorem d_S_weighByWaterArea_32 : decode b_S_weighByWaterArea 32 = .ok (.iload_n 3, 1) := by decide +kernel
theorem d_S_weighByWaterArea_33 : decode b_S_weighByWaterArea 33 = .ok (.invokevirtual 49, 3) := by decide +kernel
theorem d_S_weighByWaterArea_36 : decode b_S_weighByWaterArea 36 = .ok (.imul, 1) := by decide +kernel
theorem d_S_weighByWaterArea_37 : decode b_S_weighByWaterArea 37 = .ok (.invokevirtual 53, 3) := by decide +kernel
theorem d_S_weighByWaterArea_40 : decode b_S_weighByWaterArea 40 = .ok (.iinc 3 1, 3) := by decide +kernel
theorem d_S_weighByWaterArea_43 : decode b_S_weighByWaterArea 43 = .ok (.goto (-36), 3) := by decide +kernel
theorem d_S_weighByWaterArea_46 : decode b_S_weighByWaterArea 46 = .ok (.return_, 1) := by decide +kernel
theorem d_S_setWhole_0 : decode b_S_setWhole 0 = .ok (.aload_n 0, 1) := by decide +kernel
theorem d_S_setWhole_1 : decode b_S_setWhole 1 = .ok (.getfield 15, 3) := by decide +kernel
theorem d_S_setWhole_4 : decode b_S_setWhole 4 = .ok (.iload_n 1, 1) := by decide +kernel
theorem d_S_setWhole_5 : decode b_S_setWhole 5 = .ok (.iload_n 2, 1) := by decide +kernel
theorem d_S_setWhole_6 : decode b_S_setWhole 6 = .ok (.i2l, 1) := by decide +kernel
theorem d_S_setWhole_7 : decode b_S_setWhole 7 = .ok (.lastore, 1) := by decide +kernel
theorem d_S_setWhole_8 : decode b_S_setWhole 8 = .ok (.aload_n 0, 1) := by decide +kernel
theorem d_S_setWhole_9 : decode b_S_setWhole 9 = .ok (.getfield 19, 3) := by decide +kernel
theorem d_S_setWhole_12 : decode b_S_setWhole 12 = .ok (.iload_n 1, 1) := by decide +kernel
theorem d_S_setWhole_13 : decode b_S_setWhole 13 = .ok (.lconst 1, 1) := by decide +kernel
theorem d_S_setWhole_14 : decode b_S_setWhole 14 = .ok (.lastore, 1) := by decide +kernel
theorem d_S_setWhole_15 : decode b_S_setWhole 15 = .ok (.aload_n 0, 1) := by decide +kernel
theorem d_S_setWhole_16 : decode b_S_setWhole 16 = .ok (.dup, 1) := by decide +kernel
theorem d_S_setWhole_17 : decode b_S_setWhole 17 = .ok (.getfield 25, 3) := by decide +kernel
theorem d_S_setWhole_20 : decode b_S_setWhole 20 = .ok (.iload_n 2, 1) := by decide +kernel
theorem d_S_setWhole_21 : decode b_S_setWhole 21 = .ok (.i2l, 1) := by decide +kernel
theorem d_S_setWhole_22 : decode b_S_setWhole 22 = .ok (.ladd, 1) := by decide +kernel
theorem d_S_setWhole_23 : decode b_S_setWhole 23 = .ok (.putfield 25, 3) := by decide +kernel
theorem d_S_setWhole_26 : decode b_S_setWhole 26 = .ok (.return_, 1) := by decide +kernel
theorem d_S_weighByMeters_0 : decode b_S_weighByMeters 0 = .ok (.aload_n 0, 1) := by decide +kernel
theorem d_S_weighByMeters_1 : decode b_S_weighByMeters 1 = .ok (.aload_n 3, 1) := by decide +kernel
theorem d_S_weighByMeters_2 : decode b_S_weighByMeters 2 = .ok (.getfield 60, 3) := by decide +kernel
theorem d_S_weighByMeters_5 : decode b_S_weighByMeters 5 = .ok (.putfield 25, 3) := by decide +kernel
theorem d_S_weighByMeters_8 : decode b_S_weighByMeters 8 = .ok (.iconst 0, 1) := by decide +kernel
theorem d_S_weighByMeters_9 : decode b_S_weighByMeters 9 = .ok (.istore 5, 2) := by decide +kernel
theorem d_S_weighByMeters_11 : decode b_S_weighByMeters 11 = .ok (.iload 5, 2) := by decide +kernel
theorem d_S_weighByMeters_13 : decode b_S_weighByMeters 13 = .ok (.aload_n 2, 1) := by decide +kernel
theorem d_S_weighByMeters_14 : decode b_S_weighByMeters 14 = .ok (.getfield 29, 3) := by decide +kernel
theorem d_S_weighByMeters_17 : decode b_S_weighByMeters 17 = .ok (.if_icmp .ge 108, 3) := by decide +kernel
theorem d_S_weighByMeters_20 : decode b_S_weighByMeters 20 = .ok (.aload_n 0, 1) := by decide +kernel
theorem d_S_weighByMeters_21 : decode b_S_weighByMeters 21 = .ok (.getfield 15, 3) := by decide +kernel
theorem d_S_weighByMeters_24 : decode b_S_weighByMeters 24 = .ok (.iload 5, 2) := by decide +kernel
theorem d_S_weighByMeters_26 : decode b_S_weighByMeters 26 = .ok (.lconst 0, 1) := by decide +kernel
theorem d_S_weighByMeters_27 : decode b_S_weighByMeters 27 = .ok (.lastore, 1) := by decide +kernel
theorem d_S_weighByMeters_28 : decode b_S_weighByMeters 28 = .ok (.aload_n 0, 1) := by decide +kernel
theorem d_S_weighByMeters_29 : decode b_S_weighByMeters 29 = .ok (.getfield 19, 3) := by decide +kernel
theorem d_S_weighByMeters_32 : decode b_S_weighByMeters 32 = .ok (.iload 5, 2) := by decide +kernel
theorem d_S_weighByMeters_34 : decode b_S_weighByMeters 34 = .ok (.lconst 1, 1) := by decide +kernel
theorem d_S_weighByMeters_35 : decode b_S_weighByMeters 35 = .ok (.lastore, 1) := by decide +kernel
theorem d_S_weighByMeters_36 : decode b_S_weighByMeters 36 = .ok (.aload_n 2, 1) := by decide +kernel
theorem d_S_weighByMeters_37 : decode b_S_weighByMeters 37 = .ok (.getfield 41, 3) := by decide +kernel
theorem d_S_weighByMeters_40 : decode b_S_weighByMeters 40 = .ok (.iload 5, 2) := by decide +kernel
theorem d_S_weighByMeters_42 : decode b_S_weighByMeters 42 = .ok (.iaload, 1) := by decide +kernel
theorem d_S_weighByMeters_43 : decode b_S_weighByMeters 43 = .ok (.istore 6, 2) := by decide +kernel
theorem d_S_weighByMeters_45 : decode b_S_weighByMeters 45 = .ok (.aload_n 1, 1) := by decide +kernel
theorem d_S_weighByMeters_46 : decode b_S_weighByMeters 46 = .ok (.getfield 35, 3) := by decide +kernel
theorem d_S_weighByMeters_49 : decode b_S_weighByMeters 49 = .ok (.iload 6, 2) := by decide +kernel
theorem d_S_weighByMeters_51 : decode b_S_weighByMeters 51 = .ok (.aaload, 1) := by decide +kernel
theorem d_S_weighByMeters_52 : decode b_S_weighByMeters 52 = .ok (.astore 7, 2) := by decide +kernel
theorem d_S_weighByMeters_54 : decode b_S_weighByMeters 54 = .ok (.iconst 0, 1) := by decide +kernel
theorem d_S_weighByMeters_55 : decode b_S_weighByMeters 55 = .ok (.istore 8, 2) := by decide +kernel
theorem d_S_weighByMeters_57 : decode b_S_weighByMeters 57 = .ok (.iconst 1, 1) := by decide +kernel
theorem d_S_weighByMeters_58 : decode b_S_weighByMeters 58 = .ok (.istore 9, 2) := by decide +kernel
theorem d_S_weighByMeters_60 : decode b_S_weighByMeters 60 = .ok (.iload 9, 2) := by decide +kernel
theorem d_S_weighByMeters_62 : decode b_S_weighByMeters 62 = .ok (.bipush 12, 2) := by decide +kernel
theorem d_S_weighByMeters_64 : decode b_S_weighByMeters 64 = .ok (.if_icmp .gt 55, 3) := by decide +kernel
theorem d_S_weighByMeters_67 : decode b_S_weighByMeters 67 = .ok (.aload_n 3, 1) := by decide +kernel
theorem d_S_weighByMeters_68 : decode b_S_weighByMeters 68 = .ok (.aload 7, 2) := by decide +kernel
theorem d_S_weighByMeters_70 : decode b_S_weighByMeters 70 = .ok (.iload 6, 2) := by decide +kernel
theorem d_S_weighByMeters_72 : decode b_S_weighByMeters 72 = .ok (.iload 9, 2) := by decide +kernel
theorem d_S_weighByMeters_74 : decode b_S_weighByMeters 74 = .ok (.invokevirtual 65, 3) := by decide +kernel
theorem d_S_weighByMeters_77 : decode b_S_weighByMeters 77 = .ok (.ifCond .eq 36, 3) := by decide +kernel
theorem d_S_weighByMeters_80 : decode b_S_weighByMeters 80 = .ok (.aload_n 3, 1) := by decide +kernel
theorem d_S_weighByMeters_81 : decode b_S_weighByMeters 81 = .ok (.aload 7, 2) := by decide +kernel
theorem d_S_weighByMeters_83 : decode b_S_weighByMeters 83 = .ok (.iload 6, 2) := by decide +kernel
theorem d_S_weighByMeters_85 : decode b_S_weighByMeters 85 = .ok (.iload 8, 2) := by decide +kernel
theorem d_S_weighByMeters_87 : decode b_S_weighByMeters 87 = .ok (.iload 9, 2) := by decide +kernel
theorem d_S_weighByMeters_89 : decode b_S_weighByMeters 89 = .ok (.invokevirtual 69, 3) := by decide +kernel
theorem d_S_weighByMeters_92 : decode b_S_weighByMeters 92 = .ok (.lstore 10, 2) := by decide +kernel
theorem d_S_weighByMeters_94 : decode b_S_weighByMeters 94 = .ok (.aload_n 0, 1) := by decide +kernel
theorem d_S_weighByMeters_95 : decode b_S_weighByMeters 95 = .ok (.aload_n 2, 1) := by decide +kernel
theorem d_S_weighByMeters_96 : decode b_S_weighByMeters 96 = .ok (.iload 5, 2) := by decide +kernel
theorem d_S_weighByMeters_98 : decode b_S_weighByMeters 98 = .ok (.iload 8, 2) := by decide +kernel
theorem d_S_weighByMeters_100 : decode b_S_weighByMeters 100 = .ok (.iload 9, 2) := by decide +kernel
theorem d_S_weighByMeters_102 : decode b_S_weighByMeters 102 = .ok (.lload 10, 2) := by decide +kernel
theorem d_S_weighByMeters_104 : decode b_S_weighByMeters 104 = .ok (.aload 4, 2) := by decide +kernel
theorem d_S_weighByMeters_106 : decode b_S_weighByMeters 106 = .ok (.invokevirtual 73, 3) := by decide +kernel
theorem d_S_weighByMeters_109 : decode b_S_weighByMeters 109 = .ok (.iload 9, 2) := by decide +kernel
theorem d_S_weighByMeters_111 : decode b_S_weighByMeters 111 = .ok (.istore 8, 2) := by decide +kernel
theorem d_S_weighByMeters_113 : decode b_S_weighByMeters 113 = .ok (.iinc 9 1, 3) := by decide +kernel
theorem d_S_weighByMeters_116 : decode b_S_weighByMeters 116 = .ok (.goto (-56), 3) := by decide +kernel
theorem d_S_weighByMeters_119 : decode b_S_weighByMeters 119 = .ok (.iinc 5 1, 3) := by decide +kernel
theorem d_S_weighByMeters_122 : decode b_S_weighByMeters 122 = .ok (.goto (-111), 3) := by decide +kernel
theorem d_S_weighByMeters_125 : decode b_S_weighByMeters 125 = .ok (.return_, 1) := by decide +kernel
theorem d_S_addStretch_0 : decode b_S_addStretch 0 = .ok (.iload_n 3, 1) := by decide +kernel
theorem d_S_addStretch_1 : decode b_S_addStretch 1 = .ok (.aload_n 1, 1) := by decide +kernel
theorem d_S_addStretch_2 : decode b_S_addStretch 2 = .ok (.getfield 77, 3) := by decide +kernel
theorem d_S_addStretch_5 : decode b_S_addStretch 5 = .ok (.iload_n 2, 1) := by decide +kernel
theorem d_S_addStretch_6 : decode b_S_addStretch 6 = .ok (.iaload, 1) := by decide +kernel
theorem d_S_addStretch_7 : decode b_S_addStretch 7 = .ok (.invokestatic 80, 3) := by decide +kernel
theorem d_S_addStretch_10 : decode b_S_addStretch 10 = .ok (.istore 8, 2) := by decide +kernel
theorem d_S_addStretch_12 : decode b_S_addStretch 12 = .ok (.iload 4, 2) := by decide +kernel
theorem d_S_addStretch_14 : decode b_S_addStretch 14 = .ok (.aload_n 1, 1) := by decide +kernel
theorem d_S_addStretch_15 : decode b_S_addStretch 15 = .ok (.getfield 86, 3) := by decide +kernel
theorem d_S_addStretch_18 : decode b_S_addStretch 18 = .ok (.iload_n 2, 1) := by decide +kernel
theorem d_S_addStretch_19 : decode b_S_addStretch 19 = .ok (.iaload, 1) := by decide +kernel
theorem d_S_addStretch_20 : decode b_S_addStretch 20 = .ok (.invokestatic 89, 3) := by decide +kernel
theorem d_S_addStretch_23 : decode b_S_addStretch 23 = .ok (.istore 9, 2) := by decide +kernel
theorem d_S_addStretch_25 : decode b_S_addStretch 25 = .ok (.iload 8, 2) := by decide +kernel
theorem d_S_addStretch_27 : decode b_S_addStretch 27 = .ok (.iload 9, 2) := by decide +kernel
theorem d_S_addStretch_29 : decode b_S_addStretch 29 = .ok (.if_icmp .lt 4, 3) := by decide +kernel
theorem d_S_addStretch_32 : decode b_S_addStretch 32 = .ok (.return_, 1) := by decide +kernel
theorem d_S_addStretch_33 : decode b_S_addStretch 33 = .ok (.iload 8, 2) := by decide +kernel
theorem d_S_addStretch_35 : decode b_S_addStretch 35 = .ok (.iload_n 3, 1) := by decide +kernel
theorem d_S_addStretch_36 : decode b_S_addStretch 36 = .ok (.if_icmp .ne 29, 3) := by decide +kernel
theorem d_S_addStretch_39 : decode b_S_addStretch 39 = .ok (.iload 9, 2) := by decide +kernel
theorem d_S_addStretch_41 : decode b_S_addStretch 41 = .ok (.iload 4, 2) := by decide +kernel
theorem d_S_addStretch_43 : decode b_S_addStretch 43 = .ok (.if_icmp .ne 22, 3) := by decide +kernel
theorem d_S_addStretch_46 : decode b_S_addStretch 46 = .ok (.aload_n 0, 1) := by decide +kernel
theorem d_S_addStretch_47 : decode b_S_addStretch 47 = .ok (.getfield 15, 3) := by decide +kernel
theorem d_S_addStretch_50 : decode b_S_addStretch 50 = .ok (.iload_n 2, 1) := by decide +kernel
theorem d_S_addStretch_51 : decode b_S_addStretch 51 = .ok (.dup2, 1) := by decide +kernel
theorem d_S_addStretch_52 : decode b_S_addStretch 52 = .ok (.laload, 1) := by decide +kernel
theorem d_S_addStretch_53 : decode b_S_addStretch 53 = .ok (.lload 5, 2) := by decide +kernel
theorem d_S_addStretch_55 : decode b_S_addStretch 55 = .ok (.aload_n 0, 1) := by decide +kernel
theorem d_S_addStretch_56 : decode b_S_addStretch 56 = .ok (.getfield 19, 3) := by decide +kernel
theorem d_S_addStretch_59 : decode b_S_addStretch 59 = .ok (.iload_n 2, 1) := by decide +kernel
theorem d_S_addStretch_60 : decode b_S_addStretch 60 = .ok (.laload, 1) := by decide +kernel
theorem d_S_addStretch_61 : decode b_S_addStretch 61 = .ok (.lmul, 1) := by decide +kernel
theorem d_S_addStretch_62 : decode b_S_addStretch 62 = .ok (.ladd, 1) := by decide +kernel
theorem d_S_addStretch_63 : decode b_S_addStretch 63 = .ok (.lastore, 1) := by decide +kernel
theorem d_S_addStretch_64 : decode b_S_addStretch 64 = .ok (.return_, 1) := by decide +kernel
theorem d_S_addStretch_65 : decode b_S_addStretch 65 = .ok (.aload 7, 2) := by decide +kernel
theorem d_S_addStretch_67 : decode b_S_addStretch 67 = .ok (.iload 8, 2) := by decide +kernel
theorem d_S_addStretch_69 : decode b_S_addStretch 69 = .ok (.iload 9, 2) := by decide +kernel
theorem d_S_addStretch_71 : decode b_S_addStretch 71 = .ok (.invokestatic 92, 3) := by decide +kernel
theorem d_S_addStretch_74 : decode b_S_addStretch 74 = .ok (.i2l, 1) := by decide +kernel
theorem d_S_addStretch_75 : decode b_S_addStretch 75 = .ok (.lstore 10, 2) := by decide +kernel
theorem d_S_addStretch_77 : decode b_S_addStretch 77 = .ok (.aload 7, 2) := by decide +kernel
theorem d_S_addStretch_79 : decode b_S_addStretch 79 = .ok (.iload_n 3, 1) := by decide +kernel
theorem d_S_addStretch_80 : decode b_S_addStretch 80 = .ok (.iload 4, 2) := by decide +kernel
theorem d_S_addStretch_82 : decode b_S_addStretch 82 = .ok (.invokestatic 92, 3) := by decide +kernel
theorem d_S_addStretch_85 : decode b_S_addStretch 85 = .ok (.i2l, 1) := by decide +kernel
theorem d_S_addStretch_86 : decode b_S_addStretch 86 = .ok (.lstore 12, 2) := by decide +kernel
theorem d_S_addStretch_88 : decode b_S_addStretch 88 = .ok (.lload 12, 2) := by decide +kernel
theorem d_S_addStretch_90 : decode b_S_addStretch 90 = .ok (.lconst 0, 1) := by decide +kernel
theorem d_S_addStretch_91 : decode b_S_addStretch 91 = .ok (.lcmp, 1) := by decide +kernel
theorem d_S_addStretch_92 : decode b_S_addStretch 92 = .ok (.ifCond .ne 18, 3) := by decide +kernel
theorem d_S_addStretch_95 : decode b_S_addStretch 95 = .ok (.iload 9, 2) := by decide +kernel
theorem d_S_addStretch_97 : decode b_S_addStretch 97 = .ok (.iload 8, 2) := by decide +kernel
theorem d_S_addStretch_99 : decode b_S_addStretch 99 = .ok (.isub, 1) := by decide +kernel
theorem d_S_addStretch_100 : decode b_S_addStretch 100 = .ok (.i2l, 1) := by decide +kernel
theorem d_S_addStretch_101 : decode b_S_addStretch 101 = .ok (.lstore 10, 2) := by decide +kernel
theorem d_S_addStretch_103 : decode b_S_addStretch 103 = .ok (.iload 4, 2) := by decide +kernel
theorem d_S_addStretch_105 : decode b_S_addStretch 105 = .ok (.iload_n 3, 1) := by decide +kernel
theorem d_S_addStretch_106 : decode b_S_addStretch 106 = .ok (.isub, 1) := by decide +kernel
theorem d_S_addStretch_107 : decode b_S_addStretch 107 = .ok (.i2l, 1) := by decide +kernel
theorem d_S_addStretch_108 : decode b_S_addStretch 108 = .ok (.lstore 12, 2) := by decide +kernel
theorem d_S_addStretch_110 : decode b_S_addStretch 110 = .ok (.aload_n 0, 1) := by decide +kernel
theorem d_S_addStretch_111 : decode b_S_addStretch 111 = .ok (.getfield 15, 3) := by decide +kernel
theorem d_S_addStretch_114 : decode b_S_addStretch 114 = .ok (.iload_n 2, 1) := by decide +kernel
theorem d_S_addStretch_115 : decode b_S_addStretch 115 = .ok (.aload_n 0, 1) := by decide +kernel
theorem d_S_addStretch_116 : decode b_S_addStretch 116 = .ok (.getfield 15, 3) := by decide +kernel
theorem d_S_addStretch_119 : decode b_S_addStretch 119 = .ok (.iload_n 2, 1) := by decide +kernel
theorem d_S_addStretch_120 : decode b_S_addStretch 120 = .ok (.laload, 1) := by decide +kernel
theorem d_S_addStretch_121 : decode b_S_addStretch 121 = .ok (.lload 12, 2) := by decide +kernel
theorem d_S_addStretch_123 : decode b_S_addStretch 123 = .ok (.lmul, 1) := by decide +kernel
theorem d_S_addStretch_124 : decode b_S_addStretch 124 = .ok (.lload 5, 2) := by decide +kernel
theorem d_S_addStretch_126 : decode b_S_addStretch 126 = .ok (.lload 10, 2) := by decide +kernel
theorem d_S_addStretch_128 : decode b_S_addStretch 128 = .ok (.lmul, 1) := by decide +kernel
theorem d_S_addStretch_129 : decode b_S_addStretch 129 = .ok (.aload_n 0, 1) := by decide +kernel
theorem d_S_addStretch_130 : decode b_S_addStretch 130 = .ok (.getfield 19, 3) := by decide +kernel
theorem d_S_addStretch_133 : decode b_S_addStretch 133 = .ok (.iload_n 2, 1) := by decide +kernel
theorem d_S_addStretch_134 : decode b_S_addStretch 134 = .ok (.laload, 1) := by decide +kernel
theorem d_S_addStretch_135 : decode b_S_addStretch 135 = .ok (.lmul, 1) := by decide +kernel
theorem d_S_addStretch_136 : decode b_S_addStretch 136 = .ok (.ladd, 1) := by decide +kernel
theorem d_S_addStretch_137 : decode b_S_addStretch 137 = .ok (.lastore, 1) := by decide +kernel
theorem d_S_addStretch_138 : decode b_S_addStretch 138 = .ok (.aload_n 0, 1) := by decide +kernel
theorem d_S_addStretch_139 : decode b_S_addStretch 139 = .ok (.getfield 19, 3) := by decide +kernel
theorem d_S_addStretch_142 : decode b_S_addStretch 142 = .ok (.iload_n 2, 1) := by decide +kernel
theorem d_S_addStretch_143 : decode b_S_addStretch 143 = .ok (.dup2, 1) := by decide +kernel
theorem d_S_addStretch_144 : decode b_S_addStretch 144 = .ok (.laload, 1) := by decide +kernel
theorem d_S_addStretch_145 : decode b_S_addStretch 145 = .ok (.lload 12, 2) := by decide +kernel
theorem d_S_addStretch_147 : decode b_S_addStretch 147 = .ok (.lmul, 1) := by decide +kernel
theorem d_S_addStretch_148 : decode b_S_addStretch 148 = .ok (.lastore, 1) := by decide +kernel
theorem d_S_addStretch_149 : decode b_S_addStretch 149 = .ok (.return_, 1) := by decide +kernel
theorem d_S_sumBetween_0 : decode b_S_sumBetween 0 = .ok (.iconst 0, 1) := by decide +kernel
theorem d_S_sumBetween_1 : decode b_S_sumBetween 1 = .ok (.istore_n 3, 1) := by decide +kernel
theorem d_S_sumBetween_2 : decode b_S_sumBetween 2 = .ok (.iload_n 1, 1) := by decide +kernel
theorem d_S_sumBetween_3 : decode b_S_sumBetween 3 = .ok (.istore 4, 2) := by decide +kernel
theorem d_S_sumBetween_5 : decode b_S_sumBetween 5 = .ok (.iload 4, 2) := by decide +kernel
theorem d_S_sumBetween_7 : decode b_S_sumBetween 7 = .ok (.iload_n 2, 1) := by decide +kernel
theorem d_S_sumBetween_8 : decode b_S_sumBetween 8 = .ok (.if_icmp .ge 16, 3) := by decide +kernel
theorem d_S_sumBetween_11 : decode b_S_sumBetween 11 = .ok (.iload_n 3, 1) := by decide +kernel
theorem d_S_sumBetween_12 : decode b_S_sumBetween 12 = .ok (.aload_n 0, 1) := by decide +kernel
theorem d_S_sumBetween_13 : decode b_S_sumBetween 13 = .ok (.iload 4, 2) := by decide +kernel
theorem d_S_sumBetween_15 : decode b_S_sumBetween 15 = .ok (.iaload, 1) := by decide +kernel
theorem d_S_sumBetween_16 : decode b_S_sumBetween 16 = .ok (.iadd, 1) := by decide +kernel
theorem d_S_sumBetween_17 : decode b_S_sumBetween 17 = .ok (.istore_n 3, 1) := by decide +kernel
theorem d_S_sumBetween_18 : decode b_S_sumBetween 18 = .ok (.iinc 4 1, 3) := by decide +kernel
theorem d_S_sumBetween_21 : decode b_S_sumBetween 21 = .ok (.goto (-16), 3) := by decide +kernel
theorem d_S_sumBetween_24 : decode b_S_sumBetween 24 = .ok (.iload_n 3, 1) := by decide +kernel
theorem d_S_sumBetween_25 : decode b_S_sumBetween 25 = .ok (.ireturn, 1) := by decide +kernel
theorem d_S_split_0 : decode b_S_split 0 = .ok (.iload_n 1, 1) := by decide +kernel
theorem d_S_split_1 : decode b_S_split 1 = .ok (.istore_n 3, 1) := by decide +kernel
theorem d_S_split_2 : decode b_S_split 2 = .ok (.iconst 0, 1) := by decide +kernel
theorem d_S_split_3 : decode b_S_split 3 = .ok (.istore 4, 2) := by decide +kernel
theorem d_S_split_5 : decode b_S_split 5 = .ok (.iload 4, 2) := by decide +kernel
theorem d_S_split_7 : decode b_S_split 7 = .ok (.iload_n 2, 1) := by decide +kernel
theorem d_S_split_8 : decode b_S_split 8 = .ok (.if_icmp .ge 26, 3) := by decide +kernel
theorem d_S_split_11 : decode b_S_split 11 = .ok (.aload_n 0, 1) := by decide +kernel
theorem d_S_split_12 : decode b_S_split 12 = .ok (.iload_n 1, 1) := by decide +kernel
theorem d_S_split_13 : decode b_S_split 13 = .ok (.iload 4, 2) := by decide +kernel
theorem d_S_split_15 : decode b_S_split 15 = .ok (.invokevirtual 96, 3) := by decide +kernel
theorem d_S_split_18 : decode b_S_split 18 = .ok (.iload_n 3, 1) := by decide +kernel
theorem d_S_split_19 : decode b_S_split 19 = .ok (.aload_n 0, 1) := by decide +kernel
theorem d_S_split_20 : decode b_S_split 20 = .ok (.getfield 9, 3) := by decide +kernel
theorem d_S_split_23 : decode b_S_split 23 = .ok (.iload 4, 2) := by decide +kernel
theorem d_S_split_25 : decode b_S_split 25 = .ok (.iaload, 1) := by decide +kernel
theorem d_S_split_26 : decode b_S_split 26 = .ok (.isub, 1) := by decide +kernel
theorem d_S_split_27 : decode b_S_split 27 = .ok (.istore_n 3, 1) := by decide +kernel
theorem d_S_split_28 : decode b_S_split 28 = .ok (.iinc 4 1, 3) := by decide +kernel
theorem d_S_split_31 : decode b_S_split 31 = .ok (.goto (-26), 3) := by decide +kernel
theorem d_S_split_34 : decode b_S_split 34 = .ok (.iconst 0, 1) := by decide +kernel
theorem d_S_split_35 : decode b_S_split 35 = .ok (.istore 4, 2) := by decide +kernel
theorem d_S_split_37 : decode b_S_split 37 = .ok (.iload 4, 2) := by decide +kernel
theorem d_S_split_39 : decode b_S_split 39 = .ok (.iload_n 2, 1) := by decide +kernel
theorem d_S_split_40 : decode b_S_split 40 = .ok (.if_icmp .ge 42, 3) := by decide +kernel
theorem d_S_split_43 : decode b_S_split 43 = .ok (.iload_n 3, 1) := by decide +kernel
theorem d_S_split_44 : decode b_S_split 44 = .ok (.ifCond .le 38, 3) := by decide +kernel
theorem d_S_split_47 : decode b_S_split 47 = .ok (.aload_n 0, 1) := by decide +kernel
theorem d_S_split_48 : decode b_S_split 48 = .ok (.iload_n 2, 1) := by decide +kernel
theorem d_S_split_49 : decode b_S_split 49 = .ok (.invokevirtual 99, 3) := by decide +kernel
theorem d_S_split_52 : decode b_S_split 52 = .ok (.istore 5, 2) := by decide +kernel
theorem d_S_split_54 : decode b_S_split 54 = .ok (.aload_n 0, 1) := by decide +kernel
theorem d_S_split_55 : decode b_S_split 55 = .ok (.getfield 9, 3) := by decide +kernel
theorem d_S_split_58 : decode b_S_split 58 = .ok (.iload 5, 2) := by decide +kernel
theorem d_S_split_60 : decode b_S_split 60 = .ok (.dup2, 1) := by decide +kernel
theorem d_S_split_61 : decode b_S_split 61 = .ok (.iaload, 1) := by decide +kernel
theorem d_S_split_62 : decode b_S_split 62 = .ok (.iconst 1, 1) := by decide +kernel
theorem d_S_split_63 : decode b_S_split 63 = .ok (.iadd, 1) := by decide +kernel
theorem d_S_split_64 : decode b_S_split 64 = .ok (.iastore, 1) := by decide +kernel
theorem d_S_split_65 : decode b_S_split 65 = .ok (.aload_n 0, 1) := by decide +kernel
theorem d_S_split_66 : decode b_S_split 66 = .ok (.getfield 22, 3) := by decide +kernel
theorem d_S_split_69 : decode b_S_split 69 = .ok (.iload 5, 2) := by decide +kernel
theorem d_S_split_71 : decode b_S_split 71 = .ok (.lconst 0, 1) := by decide +kernel
theorem d_S_split_72 : decode b_S_split 72 = .ok (.lastore, 1) := by decide +kernel
theorem d_S_split_73 : decode b_S_split 73 = .ok (.iinc 3 (-1), 3) := by decide +kernel
theorem d_S_split_76 : decode b_S_split 76 = .ok (.iinc 4 1, 3) := by decide +kernel
theorem d_S_split_79 : decode b_S_split 79 = .ok (.goto (-42), 3) := by decide +kernel
theorem d_S_split_82 : decode b_S_split 82 = .ok (.return_, 1) := by decide +kernel
theorem d_S_roundDown_0 : decode b_S_roundDown 0 = .ok (.aload_n 0, 1) := by decide +kernel
theorem d_S_roundDown_1 : decode b_S_roundDown 1 = .ok (.getfield 25, 3) := by decide +kernel
theorem d_S_roundDown_4 : decode b_S_roundDown 4 = .ok (.aload_n 0, 1) := by decide +kernel
theorem d_S_roundDown_5 : decode b_S_roundDown 5 = .ok (.getfield 19, 3) := by decide +kernel
theorem d_S_roundDown_8 : decode b_S_roundDown 8 = .ok (.iload_n 2, 1) := by decide +kernel
theorem d_S_roundDown_9 : decode b_S_roundDown 9 = .ok (.laload, 1) := by decide +kernel
theorem d_S_roundDown_10 : decode b_S_roundDown 10 = .ok (.lmul, 1) := by decide +kernel
theorem d_S_roundDown_11 : decode b_S_roundDown 11 = .ok (.lstore_n 3, 1) := by decide +kernel
theorem d_S_roundDown_12 : decode b_S_roundDown 12 = .ok (.iload_n 1, 1) := by decide +kernel
theorem d_S_roundDown_13 : decode b_S_roundDown 13 = .ok (.i2l, 1) := by decide +kernel
theorem d_S_roundDown_14 : decode b_S_roundDown 14 = .ok (.aload_n 0, 1) := by decide +kernel
theorem d_S_roundDown_15 : decode b_S_roundDown 15 = .ok (.getfield 15, 3) := by decide +kernel
theorem d_S_roundDown_18 : decode b_S_roundDown 18 = .ok (.iload_n 2, 1) := by decide +kernel
theorem d_S_roundDown_19 : decode b_S_roundDown 19 = .ok (.laload, 1) := by decide +kernel
theorem d_S_roundDown_20 : decode b_S_roundDown 20 = .ok (.lmul, 1) := by decide +kernel
theorem d_S_roundDown_21 : decode b_S_roundDown 21 = .ok (.lstore 5, 2) := by decide +kernel
theorem d_S_roundDown_23 : decode b_S_roundDown 23 = .ok (.aload_n 0, 1) := by decide +kernel
theorem d_S_roundDown_24 : decode b_S_roundDown 24 = .ok (.getfield 9, 3) := by decide +kernel
theorem d_S_roundDown_27 : decode b_S_roundDown 27 = .ok (.iload_n 2, 1) := by decide +kernel
theorem d_S_roundDown_28 : decode b_S_roundDown 28 = .ok (.lload_n 3, 1) := by decide +kernel
theorem d_S_roundDown_29 : decode b_S_roundDown 29 = .ok (.lconst 0, 1) := by decide +kernel
theorem d_S_roundDown_30 : decode b_S_roundDown 30 = .ok (.lcmp, 1) := by decide +kernel
theorem d_S_roundDown_31 : decode b_S_roundDown 31 = .ok (.ifCond .le 11, 3) := by decide +kernel
theorem d_S_roundDown_34 : decode b_S_roundDown 34 = .ok (.lload 5, 2) := by decide +kernel
theorem d_S_roundDown_36 : decode b_S_roundDown 36 = .ok (.lload_n 3, 1) := by decide +kernel
theorem d_S_roundDown_37 : decode b_S_roundDown 37 = .ok (.ldiv, 1) := by decide +kernel
theorem d_S_roundDown_38 : decode b_S_roundDown 38 = .ok (.l2i, 1) := by decide +kernel
theorem d_S_roundDown_39 : decode b_S_roundDown 39 = .ok (.goto 4, 3) := by decide +kernel
theorem d_S_roundDown_42 : decode b_S_roundDown 42 = .ok (.iconst 0, 1) := by decide +kernel
theorem d_S_roundDown_43 : decode b_S_roundDown 43 = .ok (.iastore, 1) := by decide +kernel
theorem d_S_roundDown_44 : decode b_S_roundDown 44 = .ok (.aload_n 0, 1) := by decide +kernel
theorem d_S_roundDown_45 : decode b_S_roundDown 45 = .ok (.getfield 22, 3) := by decide +kernel
theorem d_S_roundDown_48 : decode b_S_roundDown 48 = .ok (.iload_n 2, 1) := by decide +kernel
theorem d_S_roundDown_49 : decode b_S_roundDown 49 = .ok (.lload_n 3, 1) := by decide +kernel
theorem d_S_roundDown_50 : decode b_S_roundDown 50 = .ok (.lconst 0, 1) := by decide +kernel
theorem d_S_roundDown_51 : decode b_S_roundDown 51 = .ok (.lcmp, 1) := by decide +kernel
theorem d_S_roundDown_52 : decode b_S_roundDown 52 = .ok (.ifCond .le 10, 3) := by decide +kernel
theorem d_S_roundDown_55 : decode b_S_roundDown 55 = .ok (.lload 5, 2) := by decide +kernel
theorem d_S_roundDown_57 : decode b_S_roundDown 57 = .ok (.lload_n 3, 1) := by decide +kernel
theorem d_S_roundDown_58 : decode b_S_roundDown 58 = .ok (.lrem, 1) := by decide +kernel
theorem d_S_roundDown_59 : decode b_S_roundDown 59 = .ok (.goto 4, 3) := by decide +kernel
theorem d_S_roundDown_62 : decode b_S_roundDown 62 = .ok (.lconst 0, 1) := by decide +kernel
theorem d_S_roundDown_63 : decode b_S_roundDown 63 = .ok (.lastore, 1) := by decide +kernel
theorem d_S_roundDown_64 : decode b_S_roundDown 64 = .ok (.return_, 1) := by decide +kernel
theorem d_S_greatestCutOff_0 : decode b_S_greatestCutOff 0 = .ok (.iconst 0, 1) := by decide +kernel
theorem d_S_greatestCutOff_1 : decode b_S_greatestCutOff 1 = .ok (.istore_n 2, 1) := by decide +kernel
theorem d_S_greatestCutOff_2 : decode b_S_greatestCutOff 2 = .ok (.iconst 1, 1) := by decide +kernel
theorem d_S_greatestCutOff_3 : decode b_S_greatestCutOff 3 = .ok (.istore_n 3, 1) := by decide +kernel
theorem d_S_greatestCutOff_4 : decode b_S_greatestCutOff 4 = .ok (.iload_n 3, 1) := by decide +kernel
theorem d_S_greatestCutOff_5 : decode b_S_greatestCutOff 5 = .ok (.iload_n 1, 1) := by decide +kernel
theorem d_S_greatestCutOff_6 : decode b_S_greatestCutOff 6 = .ok (.if_icmp .ge 41, 3) := by decide +kernel
theorem d_S_greatestCutOff_9 : decode b_S_greatestCutOff 9 = .ok (.aload_n 0, 1) := by decide +kernel
theorem d_S_greatestCutOff_10 : decode b_S_greatestCutOff 10 = .ok (.getfield 22, 3) := by decide +kernel
theorem d_S_greatestCutOff_13 : decode b_S_greatestCutOff 13 = .ok (.iload_n 3, 1) := by decide +kernel
theorem d_S_greatestCutOff_14 : decode b_S_greatestCutOff 14 = .ok (.laload, 1) := by decide +kernel
theorem d_S_greatestCutOff_15 : decode b_S_greatestCutOff 15 = .ok (.aload_n 0, 1) := by decide +kernel
theorem d_S_greatestCutOff_16 : decode b_S_greatestCutOff 16 = .ok (.getfield 19, 3) := by decide +kernel
theorem d_S_greatestCutOff_19 : decode b_S_greatestCutOff 19 = .ok (.iload_n 2, 1) := by decide +kernel
theorem d_S_greatestCutOff_20 : decode b_S_greatestCutOff 20 = .ok (.laload, 1) := by decide +kernel
theorem d_S_greatestCutOff_21 : decode b_S_greatestCutOff 21 = .ok (.lmul, 1) := by decide +kernel
theorem d_S_greatestCutOff_22 : decode b_S_greatestCutOff 22 = .ok (.aload_n 0, 1) := by decide +kernel
theorem d_S_greatestCutOff_23 : decode b_S_greatestCutOff 23 = .ok (.getfield 22, 3) := by decide +kernel
theorem d_S_greatestCutOff_26 : decode b_S_greatestCutOff 26 = .ok (.iload_n 2, 1) := by decide +kernel
theorem d_S_greatestCutOff_27 : decode b_S_greatestCutOff 27 = .ok (.laload, 1) := by decide +kernel
theorem d_S_greatestCutOff_28 : decode b_S_greatestCutOff 28 = .ok (.aload_n 0, 1) := by decide +kernel
theorem d_S_greatestCutOff_29 : decode b_S_greatestCutOff 29 = .ok (.getfield 19, 3) := by decide +kernel
theorem d_S_greatestCutOff_32 : decode b_S_greatestCutOff 32 = .ok (.iload_n 3, 1) := by decide +kernel
theorem d_S_greatestCutOff_33 : decode b_S_greatestCutOff 33 = .ok (.laload, 1) := by decide +kernel
theorem d_S_greatestCutOff_34 : decode b_S_greatestCutOff 34 = .ok (.lmul, 1) := by decide +kernel
theorem d_S_greatestCutOff_35 : decode b_S_greatestCutOff 35 = .ok (.lcmp, 1) := by decide +kernel
theorem d_S_greatestCutOff_36 : decode b_S_greatestCutOff 36 = .ok (.ifCond .le 5, 3) := by decide +kernel
theorem d_S_greatestCutOff_39 : decode b_S_greatestCutOff 39 = .ok (.iload_n 3, 1) := by decide +kernel
theorem d_S_greatestCutOff_40 : decode b_S_greatestCutOff 40 = .ok (.istore_n 2, 1) := by decide +kernel
theorem d_S_greatestCutOff_41 : decode b_S_greatestCutOff 41 = .ok (.iinc 3 1, 3) := by decide +kernel
theorem d_S_greatestCutOff_44 : decode b_S_greatestCutOff 44 = .ok (.goto (-40), 3) := by decide +kernel
theorem d_S_greatestCutOff_47 : decode b_S_greatestCutOff 47 = .ok (.iload_n 2, 1) := by decide +kernel
theorem d_S_greatestCutOff_48 : decode b_S_greatestCutOff 48 = .ok (.ireturn, 1) := by decide +kernel
theorem d_P_init_0 : decode b_P_init 0 = .ok (.aload_n 0, 1) := by decide +kernel
theorem d_P_init_1 : decode b_P_init 1 = .ok (.invokespecial 3, 3) := by decide +kernel
theorem d_P_init_4 : decode b_P_init 4 = .ok (.aload_n 0, 1) := by decide +kernel
theorem d_P_init_5 : decode b_P_init 5 = .ok (.bipush 72, 2) := by decide +kernel
theorem d_P_init_7 : decode b_P_init 7 = .ok (.newarray .int, 2) := by decide +kernel
theorem d_P_init_9 : decode b_P_init 9 = .ok (.putfield 9, 3) := by decide +kernel
theorem d_P_init_12 : decode b_P_init 12 = .ok (.aload_n 0, 1) := by decide +kernel
theorem d_P_init_13 : decode b_P_init 13 = .ok (.bipush 72, 2) := by decide +kernel
theorem d_P_init_15 : decode b_P_init 15 = .ok (.newarray .int, 2) := by decide +kernel
theorem d_P_init_17 : decode b_P_init 17 = .ok (.putfield 15, 3) := by decide +kernel
theorem d_P_init_20 : decode b_P_init 20 = .ok (.aload_n 0, 1) := by decide +kernel
theorem d_P_init_21 : decode b_P_init 21 = .ok (.bipush 72, 2) := by decide +kernel
theorem d_P_init_23 : decode b_P_init 23 = .ok (.newarray .int, 2) := by decide +kernel
theorem d_P_init_25 : decode b_P_init 25 = .ok (.putfield 18, 3) := by decide +kernel
theorem d_P_init_28 : decode b_P_init 28 = .ok (.aload_n 0, 1) := by decide +kernel
theorem d_P_init_29 : decode b_P_init 29 = .ok (.bipush 72, 2) := by decide +kernel
theorem d_P_init_31 : decode b_P_init 31 = .ok (.newarray .int, 2) := by decide +kernel
theorem d_P_init_33 : decode b_P_init 33 = .ok (.putfield 21, 3) := by decide +kernel
theorem d_P_init_36 : decode b_P_init 36 = .ok (.aload_n 0, 1) := by decide +kernel
theorem d_P_init_37 : decode b_P_init 37 = .ok (.iconst 0, 1) := by decide +kernel
theorem d_P_init_38 : decode b_P_init 38 = .ok (.putfield 24, 3) := by decide +kernel
theorem d_P_init_41 : decode b_P_init 41 = .ok (.return_, 1) := by decide +kernel
theorem d_P_lay_0 : decode b_P_lay 0 = .ok (.aload_n 0, 1) := by decide +kernel
theorem d_P_lay_1 : decode b_P_lay 1 = .ok (.iconst 0, 1) := by decide +kernel
theorem d_P_lay_2 : decode b_P_lay 2 = .ok (.putfield 24, 3) := by decide +kernel
theorem d_P_lay_5 : decode b_P_lay 5 = .ok (.iconst 0, 1) := by decide +kernel
theorem d_P_lay_6 : decode b_P_lay 6 = .ok (.istore_n 2, 1) := by decide +kernel
theorem d_P_lay_7 : decode b_P_lay 7 = .ok (.iload_n 2, 1) := by decide +kernel
theorem d_P_lay_8 : decode b_P_lay 8 = .ok (.aload_n 1, 1) := by decide +kernel
theorem d_P_lay_9 : decode b_P_lay 9 = .ok (.getfield 28, 3) := by decide +kernel
theorem d_P_lay_12 : decode b_P_lay 12 = .ok (.if_icmp .ge 20, 3) := by decide +kernel
theorem d_P_lay_15 : decode b_P_lay 15 = .ok (.aload_n 0, 1) := by decide +kernel
theorem d_P_lay_16 : decode b_P_lay 16 = .ok (.iload_n 2, 1) := by decide +kernel
theorem d_P_lay_17 : decode b_P_lay 17 = .ok (.aload_n 1, 1) := by decide +kernel
theorem d_P_lay_18 : decode b_P_lay 18 = .ok (.getfield 31, 3) := by decide +kernel
theorem d_P_lay_21 : decode b_P_lay 21 = .ok (.iload_n 2, 1) := by decide +kernel
theorem d_P_lay_22 : decode b_P_lay 22 = .ok (.aaload, 1) := by decide +kernel
theorem d_P_lay_23 : decode b_P_lay 23 = .ok (.invokevirtual 35, 3) := by decide +kernel
theorem d_P_lay_26 : decode b_P_lay 26 = .ok (.iinc 2 1, 3) := by decide +kernel
theorem d_P_lay_29 : decode b_P_lay 29 = .ok (.goto (-22), 3) := by decide +kernel
theorem d_P_lay_32 : decode b_P_lay 32 = .ok (.return_, 1) := by decide +kernel
theorem d_P_layFlat_0 : decode b_P_layFlat 0 = .ok (.iconst 0, 1) := by decide +kernel
theorem d_P_layFlat_1 : decode b_P_layFlat 1 = .ok (.istore_n 3, 1) := by decide +kernel
theorem d_P_layFlat_2 : decode b_P_layFlat 2 = .ok (.aload_n 2, 1) := by decide +kernel
theorem d_P_layFlat_3 : decode b_P_layFlat 3 = .ok (.iconst 0, 1) := by decide +kernel
theorem d_P_layFlat_4 : decode b_P_layFlat 4 = .ok (.invokevirtual 39, 3) := by decide +kernel
theorem d_P_layFlat_7 : decode b_P_layFlat 7 = .ok (.ifCond .eq 12, 3) := by decide +kernel
theorem d_P_layFlat_10 : decode b_P_layFlat 10 = .ok (.aload_n 2, 1) := by decide +kernel
theorem d_P_layFlat_11 : decode b_P_layFlat 11 = .ok (.getfield 45, 3) := by decide +kernel
theorem d_P_layFlat_14 : decode b_P_layFlat 14 = .ok (.iconst 0, 1) := by decide +kernel
theorem d_P_layFlat_15 : decode b_P_layFlat 15 = .ok (.iaload, 1) := by decide +kernel
theorem d_P_layFlat_16 : decode b_P_layFlat 16 = .ok (.goto 7, 3) := by decide +kernel
theorem d_P_layFlat_19 : decode b_P_layFlat 19 = .ok (.aload_n 2, 1) := by decide +kernel
theorem d_P_layFlat_20 : decode b_P_layFlat 20 = .ok (.getfield 48, 3) := by decide +kernel
theorem d_P_layFlat_23 : decode b_P_layFlat 23 = .ok (.istore 4, 2) := by decide +kernel
theorem d_P_layFlat_25 : decode b_P_layFlat 25 = .ok (.iconst 1, 1) := by decide +kernel
theorem d_P_layFlat_26 : decode b_P_layFlat 26 = .ok (.istore 5, 2) := by decide +kernel
theorem d_P_layFlat_28 : decode b_P_layFlat 28 = .ok (.iload 5, 2) := by decide +kernel
theorem d_P_layFlat_30 : decode b_P_layFlat 30 = .ok (.bipush 12, 2) := by decide +kernel
theorem d_P_layFlat_32 : decode b_P_layFlat 32 = .ok (.if_icmp .ge 40, 3) := by decide +kernel
theorem d_P_layFlat_35 : decode b_P_layFlat 35 = .ok (.aload_n 2, 1) := by decide +kernel
theorem d_P_layFlat_36 : decode b_P_layFlat 36 = .ok (.iload 5, 2) := by decide +kernel
theorem d_P_layFlat_38 : decode b_P_layFlat 38 = .ok (.invokevirtual 39, 3) := by decide +kernel
theorem d_P_layFlat_41 : decode b_P_layFlat 41 = .ok (.ifCond .eq 25, 3) := by decide +kernel
theorem d_P_layFlat_44 : decode b_P_layFlat 44 = .ok (.aload_n 0, 1) := by decide +kernel
theorem d_P_layFlat_45 : decode b_P_layFlat 45 = .ok (.iload_n 1, 1) := by decide +kernel
theorem d_P_layFlat_46 : decode b_P_layFlat 46 = .ok (.iload_n 3, 1) := by decide +kernel
theorem d_P_layFlat_47 : decode b_P_layFlat 47 = .ok (.iload 5, 2) := by decide +kernel
theorem d_P_layFlat_49 : decode b_P_layFlat 49 = .ok (.iload 4, 2) := by decide +kernel
theorem d_P_layFlat_51 : decode b_P_layFlat 51 = .ok (.invokevirtual 51, 3) := by decide +kernel
theorem d_P_layFlat_54 : decode b_P_layFlat 54 = .ok (.iload 5, 2) := by decide +kernel
theorem d_P_layFlat_56 : decode b_P_layFlat 56 = .ok (.istore_n 3, 1) := by decide +kernel
theorem d_P_layFlat_57 : decode b_P_layFlat 57 = .ok (.aload_n 2, 1) := by decide +kernel
theorem d_P_layFlat_58 : decode b_P_layFlat 58 = .ok (.getfield 45, 3) := by decide +kernel
theorem d_P_layFlat_61 : decode b_P_layFlat 61 = .ok (.iload 5, 2) := by decide +kernel
theorem d_P_layFlat_63 : decode b_P_layFlat 63 = .ok (.iaload, 1) := by decide +kernel
theorem d_P_layFlat_64 : decode b_P_layFlat 64 = .ok (.istore 4, 2) := by decide +kernel
theorem d_P_layFlat_66 : decode b_P_layFlat 66 = .ok (.iinc 5 1, 3) := by decide +kernel
theorem d_P_layFlat_69 : decode b_P_layFlat 69 = .ok (.goto (-41), 3) := by decide +kernel
theorem d_P_layFlat_72 : decode b_P_layFlat 72 = .ok (.aload_n 0, 1) := by decide +kernel
theorem d_P_layFlat_73 : decode b_P_layFlat 73 = .ok (.iload_n 1, 1) := by decide +kernel
theorem d_P_layFlat_74 : decode b_P_layFlat 74 = .ok (.iload_n 3, 1) := by decide +kernel
theorem d_P_layFlat_75 : decode b_P_layFlat 75 = .ok (.bipush 12, 2) := by decide +kernel
theorem d_P_layFlat_77 : decode b_P_layFlat 77 = .ok (.iload 4, 2) := by decide +kernel
theorem d_P_layFlat_79 : decode b_P_layFlat 79 = .ok (.invokevirtual 51, 3) := by decide +kernel
theorem d_P_layFlat_82 : decode b_P_layFlat 82 = .ok (.return_, 1) := by decide +kernel
theorem d_P_addSpan_0 : decode b_P_addSpan 0 = .ok (.aload_n 0, 1) := by decide +kernel
theorem d_P_addSpan_1 : decode b_P_addSpan 1 = .ok (.getfield 24, 3) := by decide +kernel
theorem d_P_addSpan_4 : decode b_P_addSpan 4 = .ok (.bipush 72, 2) := by decide +kernel
theorem d_P_addSpan_6 : decode b_P_addSpan 6 = .ok (.if_icmp .lt 4, 3) := by decide +kernel
theorem d_P_addSpan_9 : decode b_P_addSpan 9 = .ok (.return_, 1) := by decide +kernel
theorem d_P_addSpan_10 : decode b_P_addSpan 10 = .ok (.aload_n 0, 1) := by decide +kernel
theorem d_P_addSpan_11 : decode b_P_addSpan 11 = .ok (.getfield 9, 3) := by decide +kernel
theorem d_P_addSpan_14 : decode b_P_addSpan 14 = .ok (.aload_n 0, 1) := by decide +kernel
theorem d_P_addSpan_15 : decode b_P_addSpan 15 = .ok (.getfield 24, 3) := by decide +kernel
theorem d_P_addSpan_18 : decode b_P_addSpan 18 = .ok (.iload_n 1, 1) := by decide +kernel
theorem d_P_addSpan_19 : decode b_P_addSpan 19 = .ok (.iastore, 1) := by decide +kernel
theorem d_P_addSpan_20 : decode b_P_addSpan 20 = .ok (.aload_n 0, 1) := by decide +kernel
theorem d_P_addSpan_21 : decode b_P_addSpan 21 = .ok (.getfield 15, 3) := by decide +kernel
theorem d_P_addSpan_24 : decode b_P_addSpan 24 = .ok (.aload_n 0, 1) := by decide +kernel
theorem d_P_addSpan_25 : decode b_P_addSpan 25 = .ok (.getfield 24, 3) := by decide +kernel
theorem d_P_addSpan_28 : decode b_P_addSpan 28 = .ok (.iload_n 2, 1) := by decide +kernel
theorem d_P_addSpan_29 : decode b_P_addSpan 29 = .ok (.iastore, 1) := by decide +kernel
theorem d_P_addSpan_30 : decode b_P_addSpan 30 = .ok (.aload_n 0, 1) := by decide +kernel
theorem d_P_addSpan_31 : decode b_P_addSpan 31 = .ok (.getfield 18, 3) := by decide +kernel
theorem d_P_addSpan_34 : decode b_P_addSpan 34 = .ok (.aload_n 0, 1) := by decide +kernel
theorem d_P_addSpan_35 : decode b_P_addSpan 35 = .ok (.getfield 24, 3) := by decide +kernel
theorem d_P_addSpan_38 : decode b_P_addSpan 38 = .ok (.iload_n 3, 1) := by decide +kernel
theorem d_P_addSpan_39 : decode b_P_addSpan 39 = .ok (.iastore, 1) := by decide +kernel
theorem d_P_addSpan_40 : decode b_P_addSpan 40 = .ok (.aload_n 0, 1) := by decide +kernel
theorem d_P_addSpan_41 : decode b_P_addSpan 41 = .ok (.getfield 21, 3) := by decide +kernel
theorem d_P_addSpan_44 : decode b_P_addSpan 44 = .ok (.aload_n 0, 1) := by decide +kernel
theorem d_P_addSpan_45 : decode b_P_addSpan 45 = .ok (.getfield 24, 3) := by decide +kernel
theorem d_P_addSpan_48 : decode b_P_addSpan 48 = .ok (.iload 4, 2) := by decide +kernel
theorem d_P_addSpan_50 : decode b_P_addSpan 50 = .ok (.iastore, 1) := by decide +kernel
theorem d_P_addSpan_51 : decode b_P_addSpan 51 = .ok (.aload_n 0, 1) := by decide +kernel
theorem d_P_addSpan_52 : decode b_P_addSpan 52 = .ok (.dup, 1) := by decide +kernel
theorem d_P_addSpan_53 : decode b_P_addSpan 53 = .ok (.getfield 24, 3) := by decide +kernel
theorem d_P_addSpan_56 : decode b_P_addSpan 56 = .ok (.iconst 1, 1) := by decide +kernel
theorem d_P_addSpan_57 : decode b_P_addSpan 57 = .ok (.iadd, 1) := by decide +kernel
theorem d_P_addSpan_58 : decode b_P_addSpan 58 = .ok (.putfield 24, 3) := by decide +kernel
theorem d_P_addSpan_61 : decode b_P_addSpan 61 = .ok (.return_, 1) := by decide +kernel
theorem d_P_months_0 : decode b_P_months 0 = .ok (.aload_n 0, 1) := by decide +kernel
theorem d_P_months_1 : decode b_P_months 1 = .ok (.getfield 18, 3) := by decide +kernel
theorem d_P_months_4 : decode b_P_months 4 = .ok (.iload_n 1, 1) := by decide +kernel
theorem d_P_months_5 : decode b_P_months 5 = .ok (.iaload, 1) := by decide +kernel
theorem d_P_months_6 : decode b_P_months 6 = .ok (.aload_n 0, 1) := by decide +kernel
theorem d_P_months_7 : decode b_P_months 7 = .ok (.getfield 15, 3) := by decide +kernel
theorem d_P_months_10 : decode b_P_months 10 = .ok (.iload_n 1, 1) := by decide +kernel
theorem d_P_months_11 : decode b_P_months 11 = .ok (.iaload, 1) := by decide +kernel
theorem d_P_months_12 : decode b_P_months 12 = .ok (.isub, 1) := by decide +kernel
theorem d_P_months_13 : decode b_P_months 13 = .ok (.ireturn, 1) := by decide +kernel
theorem d_P_cutStretches_0 : decode b_P_cutStretches 0 = .ok (.iconst 0, 1) := by decide +kernel
theorem d_P_cutStretches_1 : decode b_P_cutStretches 1 = .ok (.istore_n 3, 1) := by decide +kernel
theorem d_P_cutStretches_2 : decode b_P_cutStretches 2 = .ok (.iload_n 3, 1) := by decide +kernel
theorem d_P_cutStretches_3 : decode b_P_cutStretches 3 = .ok (.aload_n 0, 1) := by decide +kernel
theorem d_P_cutStretches_4 : decode b_P_cutStretches 4 = .ok (.getfield 24, 3) := by decide +kernel
theorem d_P_cutStretches_7 : decode b_P_cutStretches 7 = .ok (.if_icmp .ge 50, 3) := by decide +kernel
theorem d_P_cutStretches_10 : decode b_P_cutStretches 10 = .ok (.aload_n 0, 1) := by decide +kernel
theorem d_P_cutStretches_11 : decode b_P_cutStretches 11 = .ok (.getfield 9, 3) := by decide +kernel
theorem d_P_cutStretches_14 : decode b_P_cutStretches 14 = .ok (.iload_n 3, 1) := by decide +kernel
theorem d_P_cutStretches_15 : decode b_P_cutStretches 15 = .ok (.iaload, 1) := by decide +kernel
theorem d_P_cutStretches_16 : decode b_P_cutStretches 16 = .ok (.istore 4, 2) := by decide +kernel
theorem d_P_cutStretches_18 : decode b_P_cutStretches 18 = .ok (.aload_n 0, 1) := by decide +kernel
theorem d_P_cutStretches_19 : decode b_P_cutStretches 19 = .ok (.getfield 15, 3) := by decide +kernel
theorem d_P_cutStretches_22 : decode b_P_cutStretches 22 = .ok (.iload_n 3, 1) := by decide +kernel
theorem d_P_cutStretches_23 : decode b_P_cutStretches 23 = .ok (.iaload, 1) := by decide +kernel
theorem d_P_cutStretches_24 : decode b_P_cutStretches 24 = .ok (.ifCond .le 27, 3) := by decide +kernel
theorem d_P_cutStretches_27 : decode b_P_cutStretches 27 = .ok (.aload_n 2, 1) := by decide +kernel
theorem d_P_cutStretches_28 : decode b_P_cutStretches 28 = .ok (.aload_n 1, 1) := by decide +kernel
theorem d_P_cutStretches_29 : decode b_P_cutStretches 29 = .ok (.getfield 31, 3) := by decide +kernel
theorem d_P_cutStretches_32 : decode b_P_cutStretches 32 = .ok (.iload 4, 2) := by decide +kernel
theorem d_P_cutStretches_34 : decode b_P_cutStretches 34 = .ok (.aaload, 1) := by decide +kernel
theorem d_P_cutStretches_35 : decode b_P_cutStretches 35 = .ok (.iload 4, 2) := by decide +kernel
theorem d_P_cutStretches_37 : decode b_P_cutStretches 37 = .ok (.aload_n 0, 1) := by decide +kernel
theorem d_P_cutStretches_38 : decode b_P_cutStretches 38 = .ok (.getfield 15, 3) := by decide +kernel
theorem d_P_cutStretches_41 : decode b_P_cutStretches 41 = .ok (.iload_n 3, 1) := by decide +kernel
theorem d_P_cutStretches_42 : decode b_P_cutStretches 42 = .ok (.iaload, 1) := by decide +kernel
theorem d_P_cutStretches_43 : decode b_P_cutStretches 43 = .ok (.invokevirtual 55, 3) := by decide +kernel
theorem d_P_cutStretches_46 : decode b_P_cutStretches 46 = .ok (.ifCond .ne 5, 3) := by decide +kernel
theorem d_P_cutStretches_49 : decode b_P_cutStretches 49 = .ok (.iconst 1, 1) := by decide +kernel
theorem d_P_cutStretches_50 : decode b_P_cutStretches 50 = .ok (.ireturn, 1) := by decide +kernel
theorem d_P_cutStretches_51 : decode b_P_cutStretches 51 = .ok (.iinc 3 1, 3) := by decide +kernel
theorem d_P_cutStretches_54 : decode b_P_cutStretches 54 = .ok (.goto (-52), 3) := by decide +kernel
theorem d_P_cutStretches_57 : decode b_P_cutStretches 57 = .ok (.iconst 0, 1) := by decide +kernel
theorem d_P_cutStretches_58 : decode b_P_cutStretches 58 = .ok (.ireturn, 1) := by decide +kernel
end
section
/-! Decode rows. -/
theorem d_H_init_0 : decode b_H_init 0 = .ok (.aload_n 0, 1) := by decide +kernel
theorem d_H_init_1 : decode b_H_init 1 = .ok (.invokespecial 3, 3) := by decide +kernel
theorem d_H_init_4 : decode b_H_init 4 = .ok (.aload_n 0, 1) := by decide +kernel
theorem d_H_init_5 : decode b_H_init 5 = .ok (.new 9, 3) := by decide +kernel
theorem d_H_init_8 : decode b_H_init 8 = .ok (.dup, 1) := by decide +kernel
theorem d_H_init_9 : decode b_H_init 9 = .ok (.invokespecial 11, 3) := by decide +kernel
theorem d_H_init_12 : decode b_H_init 12 = .ok (.putfield 12, 3) := by decide +kernel
theorem d_H_init_15 : decode b_H_init 15 = .ok (.aload_n 0, 1) := by decide +kernel
theorem d_H_init_16 : decode b_H_init 16 = .ok (.new 16, 3) := by decide +kernel
theorem d_H_init_19 : decode b_H_init 19 = .ok (.dup, 1) := by decide +kernel
theorem d_H_init_20 : decode b_H_init 20 = .ok (.invokespecial 18, 3) := by decide +kernel
theorem d_H_init_23 : decode b_H_init 23 = .ok (.putfield 19, 3) := by decide +kernel
theorem d_H_init_26 : decode b_H_init 26 = .ok (.aload_n 0, 1) := by decide +kernel
theorem d_H_init_27 : decode b_H_init 27 = .ok (.new 23, 3) := by decide +kernel
theorem d_H_init_30 : decode b_H_init 30 = .ok (.dup, 1) := by decide +kernel
theorem d_H_init_31 : decode b_H_init 31 = .ok (.invokespecial 25, 3) := by decide +kernel
theorem d_H_init_34 : decode b_H_init 34 = .ok (.putfield 26, 3) := by decide +kernel
theorem d_H_init_37 : decode b_H_init 37 = .ok (.aload_n 0, 1) := by decide +kernel
theorem d_H_init_38 : decode b_H_init 38 = .ok (.new 30, 3) := by decide +kernel
theorem d_H_init_41 : decode b_H_init 41 = .ok (.dup, 1) := by decide +kernel
theorem d_H_init_42 : decode b_H_init 42 = .ok (.invokespecial 32, 3) := by decide +kernel
theorem d_H_init_45 : decode b_H_init 45 = .ok (.putfield 33, 3) := by decide +kernel
theorem d_H_init_48 : decode b_H_init 48 = .ok (.aload_n 0, 1) := by decide +kernel
theorem d_H_init_49 : decode b_H_init 49 = .ok (.new 37, 3) := by decide +kernel
theorem d_H_init_52 : decode b_H_init 52 = .ok (.dup, 1) := by decide +kernel
theorem d_H_init_53 : decode b_H_init 53 = .ok (.invokespecial 39, 3) := by decide +kernel
theorem d_H_init_56 : decode b_H_init 56 = .ok (.putfield 40, 3) := by decide +kernel
theorem d_H_init_59 : decode b_H_init 59 = .ok (.aload_n 0, 1) := by decide +kernel
theorem d_H_init_60 : decode b_H_init 60 = .ok (.new 44, 3) := by decide +kernel
theorem d_H_init_63 : decode b_H_init 63 = .ok (.dup, 1) := by decide +kernel
theorem d_H_init_64 : decode b_H_init 64 = .ok (.invokespecial 46, 3) := by decide +kernel
theorem d_H_init_67 : decode b_H_init 67 = .ok (.putfield 47, 3) := by decide +kernel
theorem d_H_init_70 : decode b_H_init 70 = .ok (.aload_n 0, 1) := by decide +kernel
theorem d_H_init_71 : decode b_H_init 71 = .ok (.bipush 12, 2) := by decide +kernel
theorem d_H_init_73 : decode b_H_init 73 = .ok (.newarray .int, 2) := by decide +kernel
theorem d_H_init_75 : decode b_H_init 75 = .ok (.putfield 51, 3) := by decide +kernel
theorem d_H_init_78 : decode b_H_init 78 = .ok (.aload_n 0, 1) := by decide +kernel
theorem d_H_init_79 : decode b_H_init 79 = .ok (.iconst 5, 1) := by decide +kernel
theorem d_H_init_80 : decode b_H_init 80 = .ok (.newarray .int, 2) := by decide +kernel
theorem d_H_init_82 : decode b_H_init 82 = .ok (.putfield 55, 3) := by decide +kernel
theorem d_H_init_85 : decode b_H_init 85 = .ok (.aload_n 0, 1) := by decide +kernel
theorem d_H_init_86 : decode b_H_init 86 = .ok (.iconst 0, 1) := by decide +kernel
theorem d_H_init_87 : decode b_H_init 87 = .ok (.putfield 58, 3) := by decide +kernel
theorem d_H_init_90 : decode b_H_init 90 = .ok (.aload_n 0, 1) := by decide +kernel
theorem d_H_init_91 : decode b_H_init 91 = .ok (.iconst (-1), 1) := by decide +kernel
theorem d_H_init_92 : decode b_H_init 92 = .ok (.putfield 62, 3) := by decide +kernel
theorem d_H_init_95 : decode b_H_init 95 = .ok (.aload_n 0, 1) := by decide +kernel
theorem d_H_init_96 : decode b_H_init 96 = .ok (.iconst 0, 1) := by decide +kernel
theorem d_H_init_97 : decode b_H_init 97 = .ok (.putfield 65, 3) := by decide +kernel
theorem d_H_init_100 : decode b_H_init 100 = .ok (.aload_n 0, 1) := by decide +kernel
theorem d_H_init_101 : decode b_H_init 101 = .ok (.sipush 500, 3) := by decide +kernel
theorem d_H_init_104 : decode b_H_init 104 = .ok (.putfield 68, 3) := by decide +kernel
theorem d_H_init_107 : decode b_H_init 107 = .ok (.aload_n 0, 1) := by decide +kernel
theorem d_H_init_108 : decode b_H_init 108 = .ok (.iconst 0, 1) := by decide +kernel
theorem d_H_init_109 : decode b_H_init 109 = .ok (.putfield 71, 3) := by decide +kernel
theorem d_H_init_112 : decode b_H_init 112 = .ok (.return_, 1) := by decide +kernel
theorem d_H_flat_0 : decode b_H_flat 0 = .ok (.iload_n 1, 1) := by decide +kernel
theorem d_H_flat_1 : decode b_H_flat 1 = .ok (.iconst 1, 1) := by decide +kernel
theorem d_H_flat_2 : decode b_H_flat 2 = .ok (.bipush 50, 2) := by decide +kernel
theorem d_H_flat_4 : decode b_H_flat 4 = .ok (.invokestatic 75, 3) := by decide +kernel
theorem d_H_flat_7 : decode b_H_flat 7 = .ok (.ifCond .ne 22, 3) := by decide +kernel
theorem d_H_flat_10 : decode b_H_flat 10 = .ok (.iload_n 2, 1) := by decide +kernel
theorem d_H_flat_11 : decode b_H_flat 11 = .ok (.iconst 0, 1) := by decide +kernel
theorem d_H_flat_12 : decode b_H_flat 12 = .ok (.bipush 50, 2) := by decide +kernel
theorem d_H_flat_14 : decode b_H_flat 14 = .ok (.invokestatic 75, 3) := by decide +kernel
theorem d_H_flat_17 : decode b_H_flat 17 = .ok (.ifCond .ne 12, 3) := by decide +kernel
theorem d_H_flat_20 : decode b_H_flat 20 = .ok (.iload_n 3, 1) := by decide +kernel
theorem d_H_flat_21 : decode b_H_flat 21 = .ok (.iconst 1, 1) := by decide +kernel
theorem d_H_flat_22 : decode b_H_flat 22 = .ok (.iconst 2, 1) := by decide +kernel
theorem d_H_flat_23 : decode b_H_flat 23 = .ok (.invokestatic 75, 3) := by decide +kernel
theorem d_H_flat_26 : decode b_H_flat 26 = .ok (.ifCond .eq 13, 3) := by decide +kernel
theorem d_H_flat_29 : decode b_H_flat 29 = .ok (.new 79, 3) := by decide +kernel
theorem d_H_flat_32 : decode b_H_flat 32 = .ok (.dup, 1) := by decide +kernel
theorem d_H_flat_33 : decode b_H_flat 33 = .ok (.ldc 81, 2) := by decide +kernel
theorem d_H_flat_35 : decode b_H_flat 35 = .ok (.invokespecial 83, 3) := by decide +kernel
theorem d_H_flat_38 : decode b_H_flat 38 = .ok (.athrow, 1) := by decide +kernel
theorem d_H_flat_39 : decode b_H_flat 39 = .ok (.aload_n 0, 1) := by decide +kernel
theorem d_H_flat_40 : decode b_H_flat 40 = .ok (.getfield 12, 3) := by decide +kernel
theorem d_H_flat_43 : decode b_H_flat 43 = .ok (.getfield 86, 3) := by decide +kernel
theorem d_H_flat_46 : decode b_H_flat 46 = .ok (.bipush 6, 2) := by decide +kernel
theorem d_H_flat_48 : decode b_H_flat 48 = .ok (.if_icmp .lt 13, 3) := by decide +kernel
theorem d_H_flat_51 : decode b_H_flat 51 = .ok (.new 89, 3) := by decide +kernel
theorem d_H_flat_54 : decode b_H_flat 54 = .ok (.dup, 1) := by decide +kernel
theorem d_H_flat_55 : decode b_H_flat 55 = .ok (.ldc 91, 2) := by decide +kernel
theorem d_H_flat_57 : decode b_H_flat 57 = .ok (.invokespecial 93, 3) := by decide +kernel
theorem d_H_flat_60 : decode b_H_flat 60 = .ok (.athrow, 1) := by decide +kernel
theorem d_H_flat_61 : decode b_H_flat 61 = .ok (.aload_n 0, 1) := by decide +kernel
theorem d_H_flat_62 : decode b_H_flat 62 = .ok (.iconst 0, 1) := by decide +kernel
theorem d_H_flat_63 : decode b_H_flat 63 = .ok (.putfield 71, 3) := by decide +kernel
theorem d_H_flat_66 : decode b_H_flat 66 = .ok (.aload_n 0, 1) := by decide +kernel
theorem d_H_flat_67 : decode b_H_flat 67 = .ok (.getfield 12, 3) := by decide +kernel
theorem d_H_flat_70 : decode b_H_flat 70 = .ok (.iload_n 1, 1) := by decide +kernel
theorem d_H_flat_71 : decode b_H_flat 71 = .ok (.iload_n 2, 1) := by decide +kernel
theorem d_H_flat_72 : decode b_H_flat 72 = .ok (.iload_n 3, 1) := by decide +kernel
theorem d_H_flat_73 : decode b_H_flat 73 = .ok (.invokevirtual 94, 3) := by decide +kernel
theorem d_H_flat_76 : decode b_H_flat 76 = .ok (.ireturn, 1) := by decide +kernel
theorem d_H_reading_0 : decode b_H_reading 0 = .ok (.aload_n 0, 1) := by decide +kernel
theorem d_H_reading_1 : decode b_H_reading 1 = .ok (.iload_n 1, 1) := by decide +kernel
theorem d_H_reading_2 : decode b_H_reading 2 = .ok (.invokevirtual 98, 3) := by decide +kernel
theorem d_H_reading_5 : decode b_H_reading 5 = .ok (.iload_n 2, 1) := by decide +kernel
theorem d_H_reading_6 : decode b_H_reading 6 = .ok (.iconst 0, 1) := by decide +kernel
theorem d_H_reading_7 : decode b_H_reading 7 = .ok (.bipush 12, 2) := by decide +kernel
theorem d_H_reading_9 : decode b_H_reading 9 = .ok (.invokestatic 75, 3) := by decide +kernel
theorem d_H_reading_12 : decode b_H_reading 12 = .ok (.ifCond .eq 13, 3) := by decide +kernel
theorem d_H_reading_15 : decode b_H_reading 15 = .ok (.new 102, 3) := by decide +kernel
theorem d_H_reading_18 : decode b_H_reading 18 = .ok (.dup, 1) := by decide +kernel
theorem d_H_reading_19 : decode b_H_reading 19 = .ok (.ldc 104, 2) := by decide +kernel
theorem d_H_reading_21 : decode b_H_reading 21 = .ok (.invokespecial 106, 3) := by decide +kernel
theorem d_H_reading_24 : decode b_H_reading 24 = .ok (.athrow, 1) := by decide +kernel
theorem d_H_reading_25 : decode b_H_reading 25 = .ok (.iload_n 3, 1) := by decide +kernel
theorem d_H_reading_26 : decode b_H_reading 26 = .ok (.iconst (-1), 1) := by decide +kernel
theorem d_H_reading_27 : decode b_H_reading 27 = .ok (.bipush 99, 2) := by decide +kernel
theorem d_H_reading_29 : decode b_H_reading 29 = .ok (.invokestatic 75, 3) := by decide +kernel
theorem d_H_reading_32 : decode b_H_reading 32 = .ok (.ifCond .eq 13, 3) := by decide +kernel
theorem d_H_reading_35 : decode b_H_reading 35 = .ok (.new 79, 3) := by decide +kernel
theorem d_H_reading_38 : decode b_H_reading 38 = .ok (.dup, 1) := by decide +kernel
theorem d_H_reading_39 : decode b_H_reading 39 = .ok (.ldc 107, 2) := by decide +kernel
theorem d_H_reading_41 : decode b_H_reading 41 = .ok (.invokespecial 83, 3) := by decide +kernel
theorem d_H_reading_44 : decode b_H_reading 44 = .ok (.athrow, 1) := by decide +kernel
theorem d_H_reading_45 : decode b_H_reading 45 = .ok (.aload_n 0, 1) := by decide +kernel
theorem d_H_reading_46 : decode b_H_reading 46 = .ok (.iconst 0, 1) := by decide +kernel
theorem d_H_reading_47 : decode b_H_reading 47 = .ok (.putfield 71, 3) := by decide +kernel
theorem d_H_reading_50 : decode b_H_reading 50 = .ok (.aload_n 0, 1) := by decide +kernel
theorem d_H_reading_51 : decode b_H_reading 51 = .ok (.getfield 12, 3) := by decide +kernel
theorem d_H_reading_54 : decode b_H_reading 54 = .ok (.getfield 109, 3) := by decide +kernel
theorem d_H_reading_57 : decode b_H_reading 57 = .ok (.iload_n 1, 1) := by decide +kernel
theorem d_H_reading_58 : decode b_H_reading 58 = .ok (.aaload, 1) := by decide +kernel
theorem d_H_reading_59 : decode b_H_reading 59 = .ok (.getfield 113, 3) := by decide +kernel
theorem d_H_reading_62 : decode b_H_reading 62 = .ok (.iload_n 2, 1) := by decide +kernel
theorem d_H_reading_63 : decode b_H_reading 63 = .ok (.iload_n 3, 1) := by decide +kernel
theorem d_H_reading_64 : decode b_H_reading 64 = .ok (.iastore, 1) := by decide +kernel
theorem d_H_reading_65 : decode b_H_reading 65 = .ok (.return_, 1) := by decide +kernel
theorem d_H_enter_0 : decode b_H_enter 0 = .ok (.aload_n 0, 1) := by decide +kernel
theorem d_H_enter_1 : decode b_H_enter 1 = .ok (.iload_n 1, 1) := by decide +kernel
theorem d_H_enter_2 : decode b_H_enter 2 = .ok (.iload_n 2, 1) := by decide +kernel
theorem d_H_enter_3 : decode b_H_enter 3 = .ok (.invokevirtual 118, 3) := by decide +kernel
theorem d_H_enter_6 : decode b_H_enter 6 = .ok (.aload_n 0, 1) := by decide +kernel
theorem d_H_enter_7 : decode b_H_enter 7 = .ok (.getfield 47, 3) := by decide +kernel
theorem d_H_enter_10 : decode b_H_enter 10 = .ok (.getfield 122, 3) := by decide +kernel
theorem d_H_enter_13 : decode b_H_enter 13 = .ok (.bipush 20, 2) := by decide +kernel
theorem d_H_enter_15 : decode b_H_enter 15 = .ok (.if_icmp .lt 13, 3) := by decide +kernel
theorem d_H_enter_18 : decode b_H_enter 18 = .ok (.new 89, 3) := by decide +kernel
theorem d_H_enter_21 : decode b_H_enter 21 = .ok (.dup, 1) := by decide +kernel
theorem d_H_enter_22 : decode b_H_enter 22 = .ok (.ldc 125, 2) := by decide +kernel
theorem d_H_enter_24 : decode b_H_enter 24 = .ok (.invokespecial 93, 3) := by decide +kernel
theorem d_H_enter_27 : decode b_H_enter 27 = .ok (.athrow, 1) := by decide +kernel
theorem d_H_enter_28 : decode b_H_enter 28 = .ok (.aload_n 0, 1) := by decide +kernel
theorem d_H_enter_29 : decode b_H_enter 29 = .ok (.iconst 0, 1) := by decide +kernel
theorem d_H_enter_30 : decode b_H_enter 30 = .ok (.putfield 71, 3) := by decide +kernel
theorem d_H_enter_33 : decode b_H_enter 33 = .ok (.aload_n 0, 1) := by decide +kernel
theorem d_H_enter_34 : decode b_H_enter 34 = .ok (.getfield 47, 3) := by decide +kernel
theorem d_H_enter_37 : decode b_H_enter 37 = .ok (.invokevirtual 127, 3) := by decide +kernel
theorem d_H_enter_40 : decode b_H_enter 40 = .ok (.istore_n 3, 1) := by decide +kernel
theorem d_H_enter_41 : decode b_H_enter 41 = .ok (.aload_n 0, 1) := by decide +kernel
theorem d_H_enter_42 : decode b_H_enter 42 = .ok (.getfield 12, 3) := by decide +kernel
theorem d_H_enter_45 : decode b_H_enter 45 = .ok (.getfield 109, 3) := by decide +kernel
theorem d_H_enter_48 : decode b_H_enter 48 = .ok (.iload_n 1, 1) := by decide +kernel
theorem d_H_enter_49 : decode b_H_enter 49 = .ok (.aaload, 1) := by decide +kernel
theorem d_H_enter_50 : decode b_H_enter 50 = .ok (.getfield 131, 3) := by decide +kernel
theorem d_H_enter_53 : decode b_H_enter 53 = .ok (.iload_n 2, 1) := by decide +kernel
theorem d_H_enter_54 : decode b_H_enter 54 = .ok (.iload_n 3, 1) := by decide +kernel
theorem d_H_enter_55 : decode b_H_enter 55 = .ok (.iastore, 1) := by decide +kernel
theorem d_H_enter_56 : decode b_H_enter 56 = .ok (.iload_n 3, 1) := by decide +kernel
theorem d_H_enter_57 : decode b_H_enter 57 = .ok (.ireturn, 1) := by decide +kernel
theorem d_H_leave_0 : decode b_H_leave 0 = .ok (.aload_n 0, 1) := by decide +kernel
theorem d_H_leave_1 : decode b_H_leave 1 = .ok (.iload_n 1, 1) := by decide +kernel
theorem d_H_leave_2 : decode b_H_leave 2 = .ok (.iload_n 2, 1) := by decide +kernel
theorem d_H_leave_3 : decode b_H_leave 3 = .ok (.invokevirtual 118, 3) := by decide +kernel
theorem d_H_leave_6 : decode b_H_leave 6 = .ok (.aload_n 0, 1) := by decide +kernel
theorem d_H_leave_7 : decode b_H_leave 7 = .ok (.iconst 0, 1) := by decide +kernel
theorem d_H_leave_8 : decode b_H_leave 8 = .ok (.putfield 71, 3) := by decide +kernel
theorem d_H_leave_11 : decode b_H_leave 11 = .ok (.aload_n 0, 1) := by decide +kernel
theorem d_H_leave_12 : decode b_H_leave 12 = .ok (.getfield 12, 3) := by decide +kernel
theorem d_H_leave_15 : decode b_H_leave 15 = .ok (.getfield 109, 3) := by decide +kernel
theorem d_H_leave_18 : decode b_H_leave 18 = .ok (.iload_n 1, 1) := by decide +kernel
theorem d_H_leave_19 : decode b_H_leave 19 = .ok (.aaload, 1) := by decide +kernel
theorem d_H_leave_20 : decode b_H_leave 20 = .ok (.getfield 131, 3) := by decide +kernel
theorem d_H_leave_23 : decode b_H_leave 23 = .ok (.iload_n 2, 1) := by decide +kernel
theorem d_H_leave_24 : decode b_H_leave 24 = .ok (.iconst (-1), 1) := by decide +kernel
theorem d_H_leave_25 : decode b_H_leave 25 = .ok (.iastore, 1) := by decide +kernel
theorem d_H_leave_26 : decode b_H_leave 26 = .ok (.return_, 1) := by decide +kernel
theorem d_H_deliver_0 : decode b_H_deliver 0 = .ok (.iload_n 1, 1) := by decide +kernel
theorem d_H_deliver_1 : decode b_H_deliver 1 = .ok (.iconst 1, 1) := by decide +kernel
theorem d_H_deliver_2 : decode b_H_deliver 2 = .ok (.sipush 1000, 3) := by decide +kernel
theorem d_H_deliver_5 : decode b_H_deliver 5 = .ok (.invokestatic 75, 3) := by decide +kernel
theorem d_H_deliver_8 : decode b_H_deliver 8 = .ok (.ifCond .ne 14, 3) := by decide +kernel
theorem d_H_deliver_11 : decode b_H_deliver 11 = .ok (.iload_n 2, 1) := by decide +kernel
theorem d_H_deliver_12 : decode b_H_deliver 12 = .ok (.iconst 0, 1) := by decide +kernel
theorem d_H_deliver_13 : decode b_H_deliver 13 = .ok (.sipush 20000, 3) := by decide +kernel
theorem d_H_deliver_16 : decode b_H_deliver 16 = .ok (.invokestatic 75, 3) := by decide +kernel
theorem d_H_deliver_19 : decode b_H_deliver 19 = .ok (.ifCond .eq 13, 3) := by decide +kernel
theorem d_H_deliver_22 : decode b_H_deliver 22 = .ok (.new 79, 3) := by decide +kernel
theorem d_H_deliver_25 : decode b_H_deliver 25 = .ok (.dup, 1) := by decide +kernel
theorem d_H_deliver_26 : decode b_H_deliver 26 = .ok (.ldc 134, 2) := by decide +kernel
theorem d_H_deliver_28 : decode b_H_deliver 28 = .ok (.invokespecial 83, 3) := by decide +kernel
theorem d_H_deliver_31 : decode b_H_deliver 31 = .ok (.athrow, 1) := by decide +kernel
theorem d_H_deliver_32 : decode b_H_deliver 32 = .ok (.aload_n 0, 1) := by decide +kernel
theorem d_H_deliver_33 : decode b_H_deliver 33 = .ok (.getfield 19, 3) := by decide +kernel
theorem d_H_deliver_36 : decode b_H_deliver 36 = .ok (.getfield 136, 3) := by decide +kernel
theorem d_H_deliver_39 : decode b_H_deliver 39 = .ok (.bipush 12, 2) := by decide +kernel
theorem d_H_deliver_41 : decode b_H_deliver 41 = .ok (.if_icmp .lt 13, 3) := by decide +kernel
theorem d_H_deliver_44 : decode b_H_deliver 44 = .ok (.new 89, 3) := by decide +kernel
theorem d_H_deliver_47 : decode b_H_deliver 47 = .ok (.dup, 1) := by decide +kernel
theorem d_H_deliver_48 : decode b_H_deliver 48 = .ok (.ldc 139, 2) := by decide +kernel
theorem d_H_deliver_50 : decode b_H_deliver 50 = .ok (.invokespecial 93, 3) := by decide +kernel
theorem d_H_deliver_53 : decode b_H_deliver 53 = .ok (.athrow, 1) := by decide +kernel
theorem d_H_deliver_54 : decode b_H_deliver 54 = .ok (.aload_n 0, 1) := by decide +kernel
theorem d_H_deliver_55 : decode b_H_deliver 55 = .ok (.iconst 0, 1) := by decide +kernel
theorem d_H_deliver_56 : decode b_H_deliver 56 = .ok (.putfield 71, 3) := by decide +kernel
theorem d_H_deliver_59 : decode b_H_deliver 59 = .ok (.aload_n 0, 1) := by decide +kernel
theorem d_H_deliver_60 : decode b_H_deliver 60 = .ok (.getfield 19, 3) := by decide +kernel
theorem d_H_deliver_63 : decode b_H_deliver 63 = .ok (.iload_n 1, 1) := by decide +kernel
theorem d_H_deliver_64 : decode b_H_deliver 64 = .ok (.iload_n 2, 1) := by decide +kernel
theorem d_H_deliver_65 : decode b_H_deliver 65 = .ok (.invokevirtual 141, 3) := by decide +kernel
theorem d_H_deliver_68 : decode b_H_deliver 68 = .ok (.return_, 1) := by decide +kernel
theorem d_H_endStock_0 : decode b_H_endStock 0 = .ok (.iload_n 1, 1) := by decide +kernel
theorem d_H_endStock_1 : decode b_H_endStock 1 = .ok (.iconst (-1), 1) := by decide +kernel
theorem d_H_endStock_2 : decode b_H_endStock 2 = .ok (.aload_n 0, 1) := by decide +kernel
theorem d_H_endStock_3 : decode b_H_endStock 3 = .ok (.getfield 19, 3) := by decide +kernel
theorem d_H_endStock_6 : decode b_H_endStock 6 = .ok (.invokevirtual 144, 3) := by decide +kernel
theorem d_H_endStock_9 : decode b_H_endStock 9 = .ok (.invokestatic 75, 3) := by decide +kernel
theorem d_H_endStock_12 : decode b_H_endStock 12 = .ok (.ifCond .eq 13, 3) := by decide +kernel
theorem d_H_endStock_15 : decode b_H_endStock 15 = .ok (.new 79, 3) := by decide +kernel
theorem d_H_endStock_18 : decode b_H_endStock 18 = .ok (.dup, 1) := by decide +kernel
theorem d_H_endStock_19 : decode b_H_endStock 19 = .ok (.ldc 147, 2) := by decide +kernel
theorem d_H_endStock_21 : decode b_H_endStock 21 = .ok (.invokespecial 83, 3) := by decide +kernel
theorem d_H_endStock_24 : decode b_H_endStock 24 = .ok (.athrow, 1) := by decide +kernel
theorem d_H_endStock_25 : decode b_H_endStock 25 = .ok (.aload_n 0, 1) := by decide +kernel
theorem d_H_endStock_26 : decode b_H_endStock 26 = .ok (.iconst 0, 1) := by decide +kernel
theorem d_H_endStock_27 : decode b_H_endStock 27 = .ok (.putfield 71, 3) := by decide +kernel
theorem d_H_endStock_30 : decode b_H_endStock 30 = .ok (.aload_n 0, 1) := by decide +kernel
theorem d_H_endStock_31 : decode b_H_endStock 31 = .ok (.getfield 19, 3) := by decide +kernel
theorem d_H_endStock_34 : decode b_H_endStock 34 = .ok (.iload_n 1, 1) := by decide +kernel
theorem d_H_endStock_35 : decode b_H_endStock 35 = .ok (.putfield 149, 3) := by decide +kernel
theorem d_H_endStock_38 : decode b_H_endStock 38 = .ok (.return_, 1) := by decide +kernel
theorem d_H_sideCosts_0 : decode b_H_sideCosts 0 = .ok (.iload_n 1, 1) := by decide +kernel
theorem d_H_sideCosts_1 : decode b_H_sideCosts 1 = .ok (.iconst 0, 1) := by decide +kernel
theorem d_H_sideCosts_2 : decode b_H_sideCosts 2 = .ok (.sipush 20000, 3) := by decide +kernel
theorem d_H_sideCosts_5 : decode b_H_sideCosts 5 = .ok (.invokestatic 75, 3) := by decide +kernel
theorem d_H_sideCosts_8 : decode b_H_sideCosts 8 = .ok (.ifCond .eq 13, 3) := by decide +kernel
theorem d_H_sideCosts_11 : decode b_H_sideCosts 11 = .ok (.new 79, 3) := by decide +kernel
theorem d_H_sideCosts_14 : decode b_H_sideCosts 14 = .ok (.dup, 1) := by decide +kernel
theorem d_H_sideCosts_15 : decode b_H_sideCosts 15 = .ok (.ldc 152, 2) := by decide +kernel
theorem d_H_sideCosts_17 : decode b_H_sideCosts 17 = .ok (.invokespecial 83, 3) := by decide +kernel
theorem d_H_sideCosts_20 : decode b_H_sideCosts 20 = .ok (.athrow, 1) := by decide +kernel
theorem d_H_sideCosts_21 : decode b_H_sideCosts 21 = .ok (.aload_n 0, 1) := by decide +kernel
theorem d_H_sideCosts_22 : decode b_H_sideCosts 22 = .ok (.iconst 0, 1) := by decide +kernel
theorem d_H_sideCosts_23 : decode b_H_sideCosts 23 = .ok (.putfield 71, 3) := by decide +kernel
theorem d_H_sideCosts_26 : decode b_H_sideCosts 26 = .ok (.aload_n 0, 1) := by decide +kernel
theorem d_H_sideCosts_27 : decode b_H_sideCosts 27 = .ok (.iload_n 1, 1) := by decide +kernel
theorem d_H_sideCosts_28 : decode b_H_sideCosts 28 = .ok (.putfield 58, 3) := by decide +kernel
theorem d_H_sideCosts_31 : decode b_H_sideCosts 31 = .ok (.return_, 1) := by decide +kernel
theorem d_H_water_0 : decode b_H_water 0 = .ok (.iload_n 1, 1) := by decide +kernel
theorem d_H_water_1 : decode b_H_water 1 = .ok (.iconst (-1), 1) := by decide +kernel
theorem d_H_water_2 : decode b_H_water 2 = .ok (.ldc 154, 2) := by decide +kernel
theorem d_H_water_4 : decode b_H_water 4 = .ok (.invokestatic 75, 3) := by decide +kernel
theorem d_H_water_7 : decode b_H_water 7 = .ok (.ifCond .ne 13, 3) := by decide +kernel
theorem d_H_water_10 : decode b_H_water 10 = .ok (.iload_n 2, 1) := by decide +kernel
theorem d_H_water_11 : decode b_H_water 11 = .ok (.iconst 0, 1) := by decide +kernel
theorem d_H_water_12 : decode b_H_water 12 = .ok (.bipush 100, 2) := by decide +kernel
theorem d_H_water_14 : decode b_H_water 14 = .ok (.invokestatic 75, 3) := by decide +kernel
theorem d_H_water_17 : decode b_H_water 17 = .ok (.ifCond .eq 13, 3) := by decide +kernel
theorem d_H_water_20 : decode b_H_water 20 = .ok (.new 79, 3) := by decide +kernel
theorem d_H_water_23 : decode b_H_water 23 = .ok (.dup, 1) := by decide +kernel
theorem d_H_water_24 : decode b_H_water 24 = .ok (.ldc 155, 2) := by decide +kernel
theorem d_H_water_26 : decode b_H_water 26 = .ok (.invokespecial 83, 3) := by decide +kernel
theorem d_H_water_29 : decode b_H_water 29 = .ok (.athrow, 1) := by decide +kernel
theorem d_H_water_30 : decode b_H_water 30 = .ok (.aload_n 0, 1) := by decide +kernel
theorem d_H_water_31 : decode b_H_water 31 = .ok (.iconst 0, 1) := by decide +kernel
theorem d_H_water_32 : decode b_H_water 32 = .ok (.putfield 71, 3) := by decide +kernel
theorem d_H_water_35 : decode b_H_water 35 = .ok (.aload_n 0, 1) := by decide +kernel
theorem d_H_water_36 : decode b_H_water 36 = .ok (.iload_n 1, 1) := by decide +kernel
theorem d_H_water_37 : decode b_H_water 37 = .ok (.putfield 62, 3) := by decide +kernel
theorem d_H_water_40 : decode b_H_water 40 = .ok (.aload_n 0, 1) := by decide +kernel
theorem d_H_water_41 : decode b_H_water 41 = .ok (.iload_n 2, 1) := by decide +kernel
theorem d_H_water_42 : decode b_H_water 42 = .ok (.putfield 65, 3) := by decide +kernel
theorem d_H_water_45 : decode b_H_water 45 = .ok (.return_, 1) := by decide +kernel
theorem d_H_permille_0 : decode b_H_permille 0 = .ok (.iload_n 1, 1) := by decide +kernel
theorem d_H_permille_1 : decode b_H_permille 1 = .ok (.sipush 300, 3) := by decide +kernel
theorem d_H_permille_4 : decode b_H_permille 4 = .ok (.sipush 700, 3) := by decide +kernel
theorem d_H_permille_7 : decode b_H_permille 7 = .ok (.invokestatic 75, 3) := by decide +kernel
theorem d_H_permille_10 : decode b_H_permille 10 = .ok (.ifCond .eq 13, 3) := by decide +kernel
theorem d_H_permille_13 : decode b_H_permille 13 = .ok (.new 79, 3) := by decide +kernel
theorem d_H_permille_16 : decode b_H_permille 16 = .ok (.dup, 1) := by decide +kernel
theorem d_H_permille_17 : decode b_H_permille 17 = .ok (.ldc 157, 2) := by decide +kernel
theorem d_H_permille_19 : decode b_H_permille 19 = .ok (.invokespecial 83, 3) := by decide +kernel
theorem d_H_permille_22 : decode b_H_permille 22 = .ok (.athrow, 1) := by decide +kernel
theorem d_H_permille_23 : decode b_H_permille 23 = .ok (.aload_n 0, 1) := by decide +kernel
theorem d_H_permille_24 : decode b_H_permille 24 = .ok (.iconst 0, 1) := by decide +kernel
theorem d_H_permille_25 : decode b_H_permille 25 = .ok (.putfield 71, 3) := by decide +kernel
theorem d_H_permille_28 : decode b_H_permille 28 = .ok (.aload_n 0, 1) := by decide +kernel
theorem d_H_permille_29 : decode b_H_permille 29 = .ok (.iload_n 1, 1) := by decide +kernel
theorem d_H_permille_30 : decode b_H_permille 30 = .ok (.putfield 68, 3) := by decide +kernel
theorem d_H_permille_33 : decode b_H_permille 33 = .ok (.return_, 1) := by decide +kernel
theorem d_H_degrees_0 : decode b_H_degrees 0 = .ok (.iload_n 1, 1) := by decide +kernel
theorem d_H_degrees_1 : decode b_H_degrees 1 = .ok (.iconst 0, 1) := by decide +kernel
theorem d_H_degrees_2 : decode b_H_degrees 2 = .ok (.bipush 11, 2) := by decide +kernel
theorem d_H_degrees_4 : decode b_H_degrees 4 = .ok (.invokestatic 75, 3) := by decide +kernel
theorem d_H_degrees_7 : decode b_H_degrees 7 = .ok (.ifCond .eq 13, 3) := by decide +kernel
theorem d_H_degrees_10 : decode b_H_degrees 10 = .ok (.new 102, 3) := by decide +kernel
theorem d_H_degrees_13 : decode b_H_degrees 13 = .ok (.dup, 1) := by decide +kernel
theorem d_H_degrees_14 : decode b_H_degrees 14 = .ok (.ldc 159, 2) := by decide +kernel
theorem d_H_degrees_16 : decode b_H_degrees 16 = .ok (.invokespecial 106, 3) := by decide +kernel
theorem d_H_degrees_19 : decode b_H_degrees 19 = .ok (.athrow, 1) := by decide +kernel
theorem d_H_degrees_20 : decode b_H_degrees 20 = .ok (.iload_n 2, 1) := by decide +kernel
theorem d_H_degrees_21 : decode b_H_degrees 21 = .ok (.iconst 0, 1) := by decide +kernel
theorem d_H_degrees_22 : decode b_H_degrees 22 = .ok (.bipush 100, 2) := by decide +kernel
theorem d_H_degrees_24 : decode b_H_degrees 24 = .ok (.invokestatic 75, 3) := by decide +kernel
theorem d_H_degrees_27 : decode b_H_degrees 27 = .ok (.ifCond .eq 13, 3) := by decide +kernel
theorem d_H_degrees_30 : decode b_H_degrees 30 = .ok (.new 79, 3) := by decide +kernel
theorem d_H_degrees_33 : decode b_H_degrees 33 = .ok (.dup, 1) := by decide +kernel
theorem d_H_degrees_34 : decode b_H_degrees 34 = .ok (.ldc 161, 2) := by decide +kernel
theorem d_H_degrees_36 : decode b_H_degrees 36 = .ok (.invokespecial 83, 3) := by decide +kernel
theorem d_H_degrees_39 : decode b_H_degrees 39 = .ok (.athrow, 1) := by decide +kernel
theorem d_H_degrees_40 : decode b_H_degrees 40 = .ok (.aload_n 0, 1) := by decide +kernel
theorem d_H_degrees_41 : decode b_H_degrees 41 = .ok (.iconst 0, 1) := by decide +kernel
theorem d_H_degrees_42 : decode b_H_degrees 42 = .ok (.putfield 71, 3) := by decide +kernel
theorem d_H_degrees_45 : decode b_H_degrees 45 = .ok (.aload_n 0, 1) := by decide +kernel
theorem d_H_degrees_46 : decode b_H_degrees 46 = .ok (.getfield 51, 3) := by decide +kernel
theorem d_H_degrees_49 : decode b_H_degrees 49 = .ok (.iload_n 1, 1) := by decide +kernel
theorem d_H_degrees_50 : decode b_H_degrees 50 = .ok (.iload_n 2, 1) := by decide +kernel
theorem d_H_degrees_51 : decode b_H_degrees 51 = .ok (.iastore, 1) := by decide +kernel
theorem d_H_degrees_52 : decode b_H_degrees 52 = .ok (.return_, 1) := by decide +kernel
theorem d_H_prepay_0 : decode b_H_prepay 0 = .ok (.aload_n 0, 1) := by decide +kernel
theorem d_H_prepay_1 : decode b_H_prepay 1 = .ok (.iload_n 1, 1) := by decide +kernel
theorem d_H_prepay_2 : decode b_H_prepay 2 = .ok (.invokevirtual 163, 3) := by decide +kernel
theorem d_H_prepay_5 : decode b_H_prepay 5 = .ok (.iload_n 2, 1) := by decide +kernel
theorem d_H_prepay_6 : decode b_H_prepay 6 = .ok (.iconst 0, 1) := by decide +kernel
theorem d_H_prepay_7 : decode b_H_prepay 7 = .ok (.sipush 20000, 3) := by decide +kernel
theorem d_H_prepay_10 : decode b_H_prepay 10 = .ok (.invokestatic 75, 3) := by decide +kernel
theorem d_H_prepay_13 : decode b_H_prepay 13 = .ok (.ifCond .ne 19, 3) := by decide +kernel
theorem d_H_prepay_16 : decode b_H_prepay 16 = .ok (.aload_n 0, 1) := by decide +kernel
theorem d_H_prepay_17 : decode b_H_prepay 17 = .ok (.getfield 47, 3) := by decide +kernel
theorem d_H_prepay_20 : decode b_H_prepay 20 = .ok (.getfield 166, 3) := by decide +kernel
theorem d_H_prepay_23 : decode b_H_prepay 23 = .ok (.iload_n 1, 1) := by decide +kernel
theorem d_H_prepay_24 : decode b_H_prepay 24 = .ok (.iaload, 1) := by decide +kernel
theorem d_H_prepay_25 : decode b_H_prepay 25 = .ok (.iload_n 2, 1) := by decide +kernel
theorem d_H_prepay_26 : decode b_H_prepay 26 = .ok (.iadd, 1) := by decide +kernel
theorem d_H_prepay_27 : decode b_H_prepay 27 = .ok (.ldc 169, 2) := by decide +kernel
theorem d_H_prepay_29 : decode b_H_prepay 29 = .ok (.if_icmp .le 13, 3) := by decide +kernel
theorem d_H_prepay_32 : decode b_H_prepay 32 = .ok (.new 79, 3) := by decide +kernel
theorem d_H_prepay_35 : decode b_H_prepay 35 = .ok (.dup, 1) := by decide +kernel
theorem d_H_prepay_36 : decode b_H_prepay 36 = .ok (.ldc 152, 2) := by decide +kernel
theorem d_H_prepay_38 : decode b_H_prepay 38 = .ok (.invokespecial 83, 3) := by decide +kernel
theorem d_H_prepay_41 : decode b_H_prepay 41 = .ok (.athrow, 1) := by decide +kernel
theorem d_H_prepay_42 : decode b_H_prepay 42 = .ok (.aload_n 0, 1) := by decide +kernel
theorem d_H_prepay_43 : decode b_H_prepay 43 = .ok (.getfield 47, 3) := by decide +kernel
theorem d_H_prepay_46 : decode b_H_prepay 46 = .ok (.getfield 166, 3) := by decide +kernel
theorem d_H_prepay_49 : decode b_H_prepay 49 = .ok (.iload_n 1, 1) := by decide +kernel
theorem d_H_prepay_50 : decode b_H_prepay 50 = .ok (.dup2, 1) := by decide +kernel
theorem d_H_prepay_51 : decode b_H_prepay 51 = .ok (.iaload, 1) := by decide +kernel
theorem d_H_prepay_52 : decode b_H_prepay 52 = .ok (.iload_n 2, 1) := by decide +kernel
theorem d_H_prepay_53 : decode b_H_prepay 53 = .ok (.iadd, 1) := by decide +kernel
theorem d_H_prepay_54 : decode b_H_prepay 54 = .ok (.iastore, 1) := by decide +kernel
theorem d_H_prepay_55 : decode b_H_prepay 55 = .ok (.return_, 1) := by decide +kernel
theorem d_H_bill_0 : decode b_H_bill 0 = .ok (.aload_n 0, 1) := by decide +kernel
theorem d_H_bill_1 : decode b_H_bill 1 = .ok (.getfield 12, 3) := by decide +kernel
theorem d_H_bill_4 : decode b_H_bill 4 = .ok (.getfield 86, 3) := by decide +kernel
theorem d_H_bill_7 : decode b_H_bill 7 = .ok (.ifCond .eq 13, 3) := by decide +kernel
theorem d_H_bill_10 : decode b_H_bill 10 = .ok (.aload_n 0, 1) := by decide +kernel
theorem d_H_bill_11 : decode b_H_bill 11 = .ok (.getfield 19, 3) := by decide +kernel
theorem d_H_bill_14 : decode b_H_bill 14 = .ok (.invokevirtual 170, 3) := by decide +kernel
theorem d_H_bill_17 : decode b_H_bill 17 = .ok (.ifCond .ne 5, 3) := by decide +kernel
theorem d_H_bill_20 : decode b_H_bill 20 = .ok (.iconst (-1), 1) := by decide +kernel
theorem d_H_bill_21 : decode b_H_bill 21 = .ok (.ireturn, 1) := by decide +kernel
theorem d_H_bill_22 : decode b_H_bill 22 = .ok (.aload_n 0, 1) := by decide +kernel
theorem d_H_bill_23 : decode b_H_bill 23 = .ok (.getfield 26, 3) := by decide +kernel
theorem d_H_bill_26 : decode b_H_bill 26 = .ok (.aload_n 0, 1) := by decide +kernel
theorem d_H_bill_27 : decode b_H_bill 27 = .ok (.getfield 12, 3) := by decide +kernel
theorem d_H_bill_30 : decode b_H_bill 30 = .ok (.invokevirtual 174, 3) := by decide +kernel
theorem d_H_bill_33 : decode b_H_bill 33 = .ok (.aload_n 0, 1) := by decide +kernel
theorem d_H_bill_34 : decode b_H_bill 34 = .ok (.getfield 33, 3) := by decide +kernel
theorem d_H_bill_37 : decode b_H_bill 37 = .ok (.aload_n 0, 1) := by decide +kernel
theorem d_H_bill_38 : decode b_H_bill 38 = .ok (.getfield 12, 3) := by decide +kernel
theorem d_H_bill_41 : decode b_H_bill 41 = .ok (.invokevirtual 178, 3) := by decide +kernel
theorem d_H_bill_44 : decode b_H_bill 44 = .ok (.aload_n 0, 1) := by decide +kernel
theorem d_H_bill_45 : decode b_H_bill 45 = .ok (.getfield 26, 3) := by decide +kernel
theorem d_H_bill_48 : decode b_H_bill 48 = .ok (.aload_n 0, 1) := by decide +kernel
theorem d_H_bill_49 : decode b_H_bill 49 = .ok (.getfield 12, 3) := by decide +kernel
theorem d_H_bill_52 : decode b_H_bill 52 = .ok (.invokevirtual 181, 3) := by decide +kernel
theorem d_H_bill_55 : decode b_H_bill 55 = .ok (.istore_n 1, 1) := by decide +kernel
theorem d_H_bill_56 : decode b_H_bill 56 = .ok (.iload_n 1, 1) := by decide +kernel
theorem d_H_bill_57 : decode b_H_bill 57 = .ok (.ifCond .eq 30, 3) := by decide +kernel
theorem d_H_bill_60 : decode b_H_bill 60 = .ok (.aload_n 0, 1) := by decide +kernel
theorem d_H_bill_61 : decode b_H_bill 61 = .ok (.getfield 33, 3) := by decide +kernel
theorem d_H_bill_64 : decode b_H_bill 64 = .ok (.aload_n 0, 1) := by decide +kernel
theorem d_H_bill_65 : decode b_H_bill 65 = .ok (.getfield 12, 3) := by decide +kernel
theorem d_H_bill_68 : decode b_H_bill 68 = .ok (.aload_n 0, 1) := by decide +kernel
theorem d_H_bill_69 : decode b_H_bill 69 = .ok (.getfield 26, 3) := by decide +kernel
theorem d_H_bill_72 : decode b_H_bill 72 = .ok (.invokevirtual 185, 3) := by decide +kernel
theorem d_H_bill_75 : decode b_H_bill 75 = .ok (.ifCond .eq 12, 3) := by decide +kernel
theorem d_H_bill_78 : decode b_H_bill 78 = .ok (.aload_n 0, 1) := by decide +kernel
theorem d_H_bill_79 : decode b_H_bill 79 = .ok (.invokevirtual 189, 3) := by decide +kernel
theorem d_H_bill_82 : decode b_H_bill 82 = .ok (.ifCond .ne 5, 3) := by decide +kernel
theorem d_H_bill_85 : decode b_H_bill 85 = .ok (.iconst (-1), 1) := by decide +kernel
theorem d_H_bill_86 : decode b_H_bill 86 = .ok (.ireturn, 1) := by decide +kernel
theorem d_H_bill_87 : decode b_H_bill 87 = .ok (.aload_n 0, 1) := by decide +kernel
theorem d_H_bill_88 : decode b_H_bill 88 = .ok (.invokevirtual 192, 3) := by decide +kernel
theorem d_H_bill_91 : decode b_H_bill 91 = .ok (.aload_n 0, 1) := by decide +kernel
theorem d_H_bill_92 : decode b_H_bill 92 = .ok (.iload_n 1, 1) := by decide +kernel
theorem d_H_bill_93 : decode b_H_bill 93 = .ok (.invokevirtual 195, 3) := by decide +kernel
theorem d_H_bill_96 : decode b_H_bill 96 = .ok (.aload_n 0, 1) := by decide +kernel
theorem d_H_bill_97 : decode b_H_bill 97 = .ok (.iconst 1, 1) := by decide +kernel
theorem d_H_bill_98 : decode b_H_bill 98 = .ok (.putfield 71, 3) := by decide +kernel
theorem d_H_bill_101 : decode b_H_bill 101 = .ok (.iload_n 1, 1) := by decide +kernel
theorem d_H_bill_102 : decode b_H_bill 102 = .ok (.ifCond .eq 7, 3) := by decide +kernel
theorem d_H_bill_105 : decode b_H_bill 105 = .ok (.iconst 0, 1) := by decide +kernel
theorem d_H_bill_106 : decode b_H_bill 106 = .ok (.goto 4, 3) := by decide +kernel
theorem d_H_bill_109 : decode b_H_bill 109 = .ok (.iconst 2, 1) := by decide +kernel
theorem d_H_bill_110 : decode b_H_bill 110 = .ok (.ireturn, 1) := by decide +kernel
theorem d_H_amount_0 : decode b_H_amount 0 = .ok (.aload_n 0, 1) := by decide +kernel
theorem d_H_amount_1 : decode b_H_amount 1 = .ok (.invokevirtual 199, 3) := by decide +kernel
theorem d_H_amount_4 : decode b_H_amount 4 = .ok (.aload_n 0, 1) := by decide +kernel
theorem d_H_amount_5 : decode b_H_amount 5 = .ok (.iload_n 1, 1) := by decide +kernel
theorem d_H_amount_6 : decode b_H_amount 6 = .ok (.invokevirtual 202, 3) := by decide +kernel
theorem d_H_amount_9 : decode b_H_amount 9 = .ok (.iload_n 2, 1) := by decide +kernel
theorem d_H_amount_10 : decode b_H_amount 10 = .ok (.iconst 0, 1) := by decide +kernel
theorem d_H_amount_11 : decode b_H_amount 11 = .ok (.iconst 3, 1) := by decide +kernel
theorem d_H_amount_12 : decode b_H_amount 12 = .ok (.invokestatic 75, 3) := by decide +kernel
theorem d_H_amount_15 : decode b_H_amount 15 = .ok (.ifCond .eq 13, 3) := by decide +kernel
theorem d_H_amount_18 : decode b_H_amount 18 = .ok (.new 102, 3) := by decide +kernel
theorem d_H_amount_21 : decode b_H_amount 21 = .ok (.dup, 1) := by decide +kernel
theorem d_H_amount_22 : decode b_H_amount 22 = .ok (.ldc 205, 2) := by decide +kernel
theorem d_H_amount_24 : decode b_H_amount 24 = .ok (.invokespecial 106, 3) := by decide +kernel
theorem d_H_amount_27 : decode b_H_amount 27 = .ok (.athrow, 1) := by decide +kernel
theorem d_H_amount_28 : decode b_H_amount 28 = .ok (.iload_n 2, 1) := by decide +kernel
theorem d_H_amount_29 : decode b_H_amount 29 = .ok (.iconst 3, 1) := by decide +kernel
theorem d_H_amount_30 : decode b_H_amount 30 = .ok (.if_icmp .ne 12, 3) := by decide +kernel
theorem d_H_amount_33 : decode b_H_amount 33 = .ok (.aload_n 0, 1) := by decide +kernel
theorem d_H_amount_34 : decode b_H_amount 34 = .ok (.getfield 47, 3) := by decide +kernel
theorem d_H_amount_37 : decode b_H_amount 37 = .ok (.iload_n 1, 1) := by decide +kernel
theorem d_H_amount_38 : decode b_H_amount 38 = .ok (.invokevirtual 207, 3) := by decide +kernel
theorem d_H_amount_41 : decode b_H_amount 41 = .ok (.ireturn, 1) := by decide +kernel
theorem d_H_amount_42 : decode b_H_amount 42 = .ok (.aload_n 0, 1) := by decide +kernel
theorem d_H_amount_43 : decode b_H_amount 43 = .ok (.getfield 47, 3) := by decide +kernel
theorem d_H_amount_46 : decode b_H_amount 46 = .ok (.getfield 211, 3) := by decide +kernel
theorem d_H_amount_49 : decode b_H_amount 49 = .ok (.iload_n 2, 1) := by decide +kernel
theorem d_H_amount_50 : decode b_H_amount 50 = .ok (.aaload, 1) := by decide +kernel
theorem d_H_amount_51 : decode b_H_amount 51 = .ok (.iload_n 1, 1) := by decide +kernel
theorem d_H_amount_52 : decode b_H_amount 52 = .ok (.iconst 1, 1) := by decide +kernel
theorem d_H_amount_53 : decode b_H_amount 53 = .ok (.iadd, 1) := by decide +kernel
theorem d_H_amount_54 : decode b_H_amount 54 = .ok (.iaload, 1) := by decide +kernel
theorem d_H_amount_55 : decode b_H_amount 55 = .ok (.ireturn, 1) := by decide +kernel
theorem d_H_paid_0 : decode b_H_paid 0 = .ok (.aload_n 0, 1) := by decide +kernel
theorem d_H_paid_1 : decode b_H_paid 1 = .ok (.iload_n 1, 1) := by decide +kernel
theorem d_H_paid_2 : decode b_H_paid 2 = .ok (.invokevirtual 163, 3) := by decide +kernel
theorem d_H_paid_5 : decode b_H_paid 5 = .ok (.aload_n 0, 1) := by decide +kernel
theorem d_H_paid_6 : decode b_H_paid 6 = .ok (.getfield 47, 3) := by decide +kernel
theorem d_H_paid_9 : decode b_H_paid 9 = .ok (.getfield 166, 3) := by decide +kernel
theorem d_H_paid_12 : decode b_H_paid 12 = .ok (.iload_n 1, 1) := by decide +kernel
theorem d_H_paid_13 : decode b_H_paid 13 = .ok (.iaload, 1) := by decide +kernel
theorem d_H_paid_14 : decode b_H_paid 14 = .ok (.ireturn, 1) := by decide +kernel
theorem d_H_part_0 : decode b_H_part 0 = .ok (.aload_n 0, 1) := by decide +kernel
theorem d_H_part_1 : decode b_H_part 1 = .ok (.invokevirtual 199, 3) := by decide +kernel
theorem d_H_part_4 : decode b_H_part 4 = .ok (.iload_n 1, 1) := by decide +kernel
theorem d_H_part_5 : decode b_H_part 5 = .ok (.iconst 0, 1) := by decide +kernel
theorem d_H_part_6 : decode b_H_part 6 = .ok (.iconst 4, 1) := by decide +kernel
theorem d_H_part_7 : decode b_H_part 7 = .ok (.invokestatic 75, 3) := by decide +kernel
theorem d_H_part_10 : decode b_H_part 10 = .ok (.ifCond .eq 13, 3) := by decide +kernel
theorem d_H_part_13 : decode b_H_part 13 = .ok (.new 102, 3) := by decide +kernel
theorem d_H_part_16 : decode b_H_part 16 = .ok (.dup, 1) := by decide +kernel
theorem d_H_part_17 : decode b_H_part 17 = .ok (.ldc 205, 2) := by decide +kernel
theorem d_H_part_19 : decode b_H_part 19 = .ok (.invokespecial 106, 3) := by decide +kernel
theorem d_H_part_22 : decode b_H_part 22 = .ok (.athrow, 1) := by decide +kernel
theorem d_H_part_23 : decode b_H_part 23 = .ok (.aload_n 0, 1) := by decide +kernel
theorem d_H_part_24 : decode b_H_part 24 = .ok (.getfield 55, 3) := by decide +kernel
theorem d_H_part_27 : decode b_H_part 27 = .ok (.iload_n 1, 1) := by decide +kernel
theorem d_H_part_28 : decode b_H_part 28 = .ok (.iaload, 1) := by decide +kernel
theorem d_H_part_29 : decode b_H_part 29 = .ok (.ireturn, 1) := by decide +kernel
theorem d_H_replaced_0 : decode b_H_replaced 0 = .ok (.aload_n 0, 1) := by decide +kernel
theorem d_H_replaced_1 : decode b_H_replaced 1 = .ok (.iload_n 1, 1) := by decide +kernel
theorem d_H_replaced_2 : decode b_H_replaced 2 = .ok (.invokevirtual 98, 3) := by decide +kernel
theorem d_H_replaced_5 : decode b_H_replaced 5 = .ok (.aload_n 0, 1) := by decide +kernel
theorem d_H_replaced_6 : decode b_H_replaced 6 = .ok (.getfield 26, 3) := by decide +kernel
theorem d_H_replaced_9 : decode b_H_replaced 9 = .ok (.aload_n 0, 1) := by decide +kernel
theorem d_H_replaced_10 : decode b_H_replaced 10 = .ok (.getfield 12, 3) := by decide +kernel
theorem d_H_replaced_13 : decode b_H_replaced 13 = .ok (.invokevirtual 174, 3) := by decide +kernel
theorem d_H_replaced_16 : decode b_H_replaced 16 = .ok (.aload_n 0, 1) := by decide +kernel
theorem d_H_replaced_17 : decode b_H_replaced 17 = .ok (.getfield 26, 3) := by decide +kernel
theorem d_H_replaced_20 : decode b_H_replaced 20 = .ok (.getfield 215, 3) := by decide +kernel
theorem d_H_replaced_23 : decode b_H_replaced 23 = .ok (.iload_n 1, 1) := by decide +kernel
theorem d_H_replaced_24 : decode b_H_replaced 24 = .ok (.iaload, 1) := by decide +kernel
theorem d_H_replaced_25 : decode b_H_replaced 25 = .ok (.ireturn, 1) := by decide +kernel
theorem d_H_send_0 : decode b_H_send 0 = .ok (.aload_n 0, 1) := by decide +kernel
theorem d_H_send_1 : decode b_H_send 1 = .ok (.invokevirtual 199, 3) := by decide +kernel
theorem d_H_send_4 : decode b_H_send 4 = .ok (.aload_n 0, 1) := by decide +kernel
theorem d_H_send_5 : decode b_H_send 5 = .ok (.getfield 47, 3) := by decide +kernel
theorem d_H_send_8 : decode b_H_send 8 = .ok (.invokevirtual 218, 3) := by decide +kernel
theorem d_H_send_11 : decode b_H_send 11 = .ok (.ireturn, 1) := by decide +kernel
theorem d_H_sent_0 : decode b_H_sent 0 = .ok (.aload_n 0, 1) := by decide +kernel
theorem d_H_sent_1 : decode b_H_sent 1 = .ok (.iload_n 1, 1) := by decide +kernel
theorem d_H_sent_2 : decode b_H_sent 2 = .ok (.invokevirtual 202, 3) := by decide +kernel
theorem d_H_sent_5 : decode b_H_sent 5 = .ok (.aload_n 0, 1) := by decide +kernel
theorem d_H_sent_6 : decode b_H_sent 6 = .ok (.getfield 47, 3) := by decide +kernel
theorem d_H_sent_9 : decode b_H_sent 9 = .ok (.getfield 221, 3) := by decide +kernel
theorem d_H_sent_12 : decode b_H_sent 12 = .ok (.iload_n 1, 1) := by decide +kernel
theorem d_H_sent_13 : decode b_H_sent 13 = .ok (.iconst 1, 1) := by decide +kernel
theorem d_H_sent_14 : decode b_H_sent 14 = .ok (.iadd, 1) := by decide +kernel
theorem d_H_sent_15 : decode b_H_sent 15 = .ok (.iaload, 1) := by decide +kernel
theorem d_H_sent_16 : decode b_H_sent 16 = .ok (.ireturn, 1) := by decide +kernel
theorem d_H_closeYear_0 : decode b_H_closeYear 0 = .ok (.aload_n 0, 1) := by decide +kernel
theorem d_H_closeYear_1 : decode b_H_closeYear 1 = .ok (.invokevirtual 199, 3) := by decide +kernel
theorem d_H_closeYear_4 : decode b_H_closeYear 4 = .ok (.aload_n 0, 1) := by decide +kernel
theorem d_H_closeYear_5 : decode b_H_closeYear 5 = .ok (.getfield 47, 3) := by decide +kernel
theorem d_H_closeYear_8 : decode b_H_closeYear 8 = .ok (.invokevirtual 218, 3) := by decide +kernel
theorem d_H_closeYear_11 : decode b_H_closeYear 11 = .ok (.pop, 1) := by decide +kernel
theorem d_H_closeYear_12 : decode b_H_closeYear 12 = .ok (.aload_n 0, 1) := by decide +kernel
theorem d_H_closeYear_13 : decode b_H_closeYear 13 = .ok (.getfield 47, 3) := by decide +kernel
theorem d_H_closeYear_16 : decode b_H_closeYear 16 = .ok (.invokevirtual 224, 3) := by decide +kernel
theorem d_H_closeYear_19 : decode b_H_closeYear 19 = .ok (.aload_n 0, 1) := by decide +kernel
theorem d_H_closeYear_20 : decode b_H_closeYear 20 = .ok (.getfield 26, 3) := by decide +kernel
theorem d_H_closeYear_23 : decode b_H_closeYear 23 = .ok (.aload_n 0, 1) := by decide +kernel
theorem d_H_closeYear_24 : decode b_H_closeYear 24 = .ok (.getfield 12, 3) := by decide +kernel
theorem d_H_closeYear_27 : decode b_H_closeYear 27 = .ok (.invokevirtual 174, 3) := by decide +kernel
theorem d_H_closeYear_30 : decode b_H_closeYear 30 = .ok (.iconst 0, 1) := by decide +kernel
theorem d_H_closeYear_31 : decode b_H_closeYear 31 = .ok (.istore_n 1, 1) := by decide +kernel
theorem d_H_closeYear_32 : decode b_H_closeYear 32 = .ok (.iload_n 1, 1) := by decide +kernel
theorem d_H_closeYear_33 : decode b_H_closeYear 33 = .ok (.aload_n 0, 1) := by decide +kernel
theorem d_H_closeYear_34 : decode b_H_closeYear 34 = .ok (.getfield 12, 3) := by decide +kernel
theorem d_H_closeYear_37 : decode b_H_closeYear 37 = .ok (.getfield 86, 3) := by decide +kernel
theorem d_H_closeYear_40 : decode b_H_closeYear 40 = .ok (.if_icmp .ge 29, 3) := by decide +kernel
theorem d_H_closeYear_43 : decode b_H_closeYear 43 = .ok (.aload_n 0, 1) := by decide +kernel
theorem d_H_closeYear_44 : decode b_H_closeYear 44 = .ok (.getfield 12, 3) := by decide +kernel
theorem d_H_closeYear_47 : decode b_H_closeYear 47 = .ok (.getfield 109, 3) := by decide +kernel
theorem d_H_closeYear_50 : decode b_H_closeYear 50 = .ok (.iload_n 1, 1) := by decide +kernel
theorem d_H_closeYear_51 : decode b_H_closeYear 51 = .ok (.aaload, 1) := by decide +kernel
theorem d_H_closeYear_52 : decode b_H_closeYear 52 = .ok (.aload_n 0, 1) := by decide +kernel
theorem d_H_closeYear_53 : decode b_H_closeYear 53 = .ok (.getfield 26, 3) := by decide +kernel
theorem d_H_closeYear_56 : decode b_H_closeYear 56 = .ok (.iload_n 1, 1) := by decide +kernel
theorem d_H_closeYear_57 : decode b_H_closeYear 57 = .ok (.invokevirtual 227, 3) := by decide +kernel
theorem d_H_closeYear_60 : decode b_H_closeYear 60 = .ok (.invokevirtual 230, 3) := by decide +kernel
theorem d_H_closeYear_63 : decode b_H_closeYear 63 = .ok (.iinc 1 1, 3) := by decide +kernel
theorem d_H_closeYear_66 : decode b_H_closeYear 66 = .ok (.goto (-34), 3) := by decide +kernel
theorem d_H_closeYear_69 : decode b_H_closeYear 69 = .ok (.aload_n 0, 1) := by decide +kernel
theorem d_H_closeYear_70 : decode b_H_closeYear 70 = .ok (.getfield 19, 3) := by decide +kernel
theorem d_H_closeYear_73 : decode b_H_closeYear 73 = .ok (.invokevirtual 232, 3) := by decide +kernel
theorem d_H_closeYear_76 : decode b_H_closeYear 76 = .ok (.aload_n 0, 1) := by decide +kernel
theorem d_H_closeYear_77 : decode b_H_closeYear 77 = .ok (.iconst (-1), 1) := by decide +kernel
theorem d_H_closeYear_78 : decode b_H_closeYear 78 = .ok (.putfield 62, 3) := by decide +kernel
theorem d_H_closeYear_81 : decode b_H_closeYear 81 = .ok (.aload_n 0, 1) := by decide +kernel
theorem d_H_closeYear_82 : decode b_H_closeYear 82 = .ok (.iconst 0, 1) := by decide +kernel
theorem d_H_closeYear_83 : decode b_H_closeYear 83 = .ok (.putfield 58, 3) := by decide +kernel
theorem d_H_closeYear_86 : decode b_H_closeYear 86 = .ok (.aload_n 0, 1) := by decide +kernel
theorem d_H_closeYear_87 : decode b_H_closeYear 87 = .ok (.iconst 0, 1) := by decide +kernel
theorem d_H_closeYear_88 : decode b_H_closeYear 88 = .ok (.putfield 71, 3) := by decide +kernel
theorem d_H_closeYear_91 : decode b_H_closeYear 91 = .ok (.aload_n 0, 1) := by decide +kernel
theorem d_H_closeYear_92 : decode b_H_closeYear 92 = .ok (.getfield 19, 3) := by decide +kernel
theorem d_H_closeYear_95 : decode b_H_closeYear 95 = .ok (.invokevirtual 144, 3) := by decide +kernel
theorem d_H_closeYear_98 : decode b_H_closeYear 98 = .ok (.ireturn, 1) := by decide +kernel
theorem d_H_known_0 : decode b_H_known 0 = .ok (.aload_n 0, 1) := by decide +kernel
theorem d_H_known_1 : decode b_H_known 1 = .ok (.iload_n 1, 1) := by decide +kernel
theorem d_H_known_2 : decode b_H_known 2 = .ok (.invokevirtual 98, 3) := by decide +kernel
theorem d_H_known_5 : decode b_H_known 5 = .ok (.aload_n 0, 1) := by decide +kernel
theorem d_H_known_6 : decode b_H_known 6 = .ok (.getfield 12, 3) := by decide +kernel
theorem d_H_known_9 : decode b_H_known 9 = .ok (.getfield 109, 3) := by decide +kernel
theorem d_H_known_12 : decode b_H_known 12 = .ok (.iload_n 1, 1) := by decide +kernel
theorem d_H_known_13 : decode b_H_known 13 = .ok (.aaload, 1) := by decide +kernel
theorem d_H_known_14 : decode b_H_known 14 = .ok (.getfield 235, 3) := by decide +kernel
theorem d_H_known_17 : decode b_H_known 17 = .ok (.ireturn, 1) := by decide +kernel
theorem d_H_isOutside_0 : decode b_H_isOutside 0 = .ok (.iload_n 0, 1) := by decide +kernel
theorem d_H_isOutside_1 : decode b_H_isOutside 1 = .ok (.iload_n 1, 1) := by decide +kernel
theorem d_H_isOutside_2 : decode b_H_isOutside 2 = .ok (.if_icmp .lt 8, 3) := by decide +kernel
theorem d_H_isOutside_5 : decode b_H_isOutside 5 = .ok (.iload_n 0, 1) := by decide +kernel
theorem d_H_isOutside_6 : decode b_H_isOutside 6 = .ok (.iload_n 2, 1) := by decide +kernel
theorem d_H_isOutside_7 : decode b_H_isOutside 7 = .ok (.if_icmp .le 7, 3) := by decide +kernel
theorem d_H_isOutside_10 : decode b_H_isOutside 10 = .ok (.iconst 1, 1) := by decide +kernel
theorem d_H_isOutside_11 : decode b_H_isOutside 11 = .ok (.goto 4, 3) := by decide +kernel
theorem d_H_isOutside_14 : decode b_H_isOutside 14 = .ok (.iconst 0, 1) := by decide +kernel
theorem d_H_isOutside_15 : decode b_H_isOutside 15 = .ok (.ireturn, 1) := by decide +kernel
theorem d_H_needFlat_0 : decode b_H_needFlat 0 = .ok (.iload_n 1, 1) := by decide +kernel
theorem d_H_needFlat_1 : decode b_H_needFlat 1 = .ok (.iconst 0, 1) := by decide +kernel
theorem d_H_needFlat_2 : decode b_H_needFlat 2 = .ok (.aload_n 0, 1) := by decide +kernel
theorem d_H_needFlat_3 : decode b_H_needFlat 3 = .ok (.getfield 12, 3) := by decide +kernel
theorem d_H_needFlat_6 : decode b_H_needFlat 6 = .ok (.getfield 86, 3) := by decide +kernel
theorem d_H_needFlat_9 : decode b_H_needFlat 9 = .ok (.iconst 1, 1) := by decide +kernel
theorem d_H_needFlat_10 : decode b_H_needFlat 10 = .ok (.isub, 1) := by decide +kernel
theorem d_H_needFlat_11 : decode b_H_needFlat 11 = .ok (.invokestatic 75, 3) := by decide +kernel
theorem d_H_needFlat_14 : decode b_H_needFlat 14 = .ok (.ifCond .eq 13, 3) := by decide +kernel
theorem d_H_needFlat_17 : decode b_H_needFlat 17 = .ok (.new 102, 3) := by decide +kernel
theorem d_H_needFlat_20 : decode b_H_needFlat 20 = .ok (.dup, 1) := by decide +kernel
theorem d_H_needFlat_21 : decode b_H_needFlat 21 = .ok (.ldc 238, 2) := by decide +kernel
theorem d_H_needFlat_23 : decode b_H_needFlat 23 = .ok (.invokespecial 106, 3) := by decide +kernel
theorem d_H_needFlat_26 : decode b_H_needFlat 26 = .ok (.athrow, 1) := by decide +kernel
theorem d_H_needFlat_27 : decode b_H_needFlat 27 = .ok (.return_, 1) := by decide +kernel
theorem d_H_needRoomForChange_0 : decode b_H_needRoomForChange 0 = .ok (.aload_n 0, 1) := by decide +kernel
theorem d_H_needRoomForChange_1 : decode b_H_needRoomForChange 1 = .ok (.iload_n 1, 1) := by decide +kernel
theorem d_H_needRoomForChange_2 : decode b_H_needRoomForChange 2 = .ok (.invokevirtual 98, 3) := by decide +kernel
theorem d_H_needRoomForChange_5 : decode b_H_needRoomForChange 5 = .ok (.iload_n 2, 1) := by decide +kernel
theorem d_H_needRoomForChange_6 : decode b_H_needRoomForChange 6 = .ok (.iconst 0, 1) := by decide +kernel
theorem d_H_needRoomForChange_7 : decode b_H_needRoomForChange 7 = .ok (.bipush 11, 2) := by decide +kernel
theorem d_H_needRoomForChange_9 : decode b_H_needRoomForChange 9 = .ok (.invokestatic 75, 3) := by decide +kernel
theorem d_H_needRoomForChange_12 : decode b_H_needRoomForChange 12 = .ok (.ifCond .eq 13, 3) := by decide +kernel
theorem d_H_needRoomForChange_15 : decode b_H_needRoomForChange 15 = .ok (.new 102, 3) := by decide +kernel
theorem d_H_needRoomForChange_18 : decode b_H_needRoomForChange 18 = .ok (.dup, 1) := by decide +kernel
theorem d_H_needRoomForChange_19 : decode b_H_needRoomForChange 19 = .ok (.ldc 104, 2) := by decide +kernel
theorem d_H_needRoomForChange_21 : decode b_H_needRoomForChange 21 = .ok (.invokespecial 106, 3) := by decide +kernel
theorem d_H_needRoomForChange_24 : decode b_H_needRoomForChange 24 = .ok (.athrow, 1) := by decide +kernel
theorem d_H_needRoomForChange_25 : decode b_H_needRoomForChange 25 = .ok (.aload_n 0, 1) := by decide +kernel
theorem d_H_needRoomForChange_26 : decode b_H_needRoomForChange 26 = .ok (.getfield 12, 3) := by decide +kernel
theorem d_H_needRoomForChange_29 : decode b_H_needRoomForChange 29 = .ok (.getfield 109, 3) := by decide +kernel
theorem d_H_needRoomForChange_32 : decode b_H_needRoomForChange 32 = .ok (.iload_n 1, 1) := by decide +kernel
theorem d_H_needRoomForChange_33 : decode b_H_needRoomForChange 33 = .ok (.aaload, 1) := by decide +kernel
theorem d_H_needRoomForChange_34 : decode b_H_needRoomForChange 34 = .ok (.iload_n 2, 1) := by decide +kernel
theorem d_H_needRoomForChange_35 : decode b_H_needRoomForChange 35 = .ok (.invokevirtual 240, 3) := by decide +kernel
theorem d_H_needRoomForChange_38 : decode b_H_needRoomForChange 38 = .ok (.ifCond .eq 13, 3) := by decide +kernel
theorem d_H_needRoomForChange_41 : decode b_H_needRoomForChange 41 = .ok (.new 244, 3) := by decide +kernel
theorem d_H_needRoomForChange_44 : decode b_H_needRoomForChange 44 = .ok (.dup, 1) := by decide +kernel
theorem d_H_needRoomForChange_45 : decode b_H_needRoomForChange 45 = .ok (.ldc 246, 2) := by decide +kernel
theorem d_H_needRoomForChange_47 : decode b_H_needRoomForChange 47 = .ok (.invokespecial 248, 3) := by decide +kernel
theorem d_H_needRoomForChange_50 : decode b_H_needRoomForChange 50 = .ok (.athrow, 1) := by decide +kernel
theorem d_H_needRoomForChange_51 : decode b_H_needRoomForChange 51 = .ok (.return_, 1) := by decide +kernel
theorem d_H_needTenant_0 : decode b_H_needTenant 0 = .ok (.iload_n 1, 1) := by decide +kernel
theorem d_H_needTenant_1 : decode b_H_needTenant 1 = .ok (.iconst 0, 1) := by decide +kernel
theorem d_H_needTenant_2 : decode b_H_needTenant 2 = .ok (.aload_n 0, 1) := by decide +kernel
theorem d_H_needTenant_3 : decode b_H_needTenant 3 = .ok (.getfield 47, 3) := by decide +kernel
theorem d_H_needTenant_6 : decode b_H_needTenant 6 = .ok (.getfield 122, 3) := by decide +kernel
theorem d_H_needTenant_9 : decode b_H_needTenant 9 = .ok (.iconst 1, 1) := by decide +kernel
theorem d_H_needTenant_10 : decode b_H_needTenant 10 = .ok (.isub, 1) := by decide +kernel
theorem d_H_needTenant_11 : decode b_H_needTenant 11 = .ok (.invokestatic 75, 3) := by decide +kernel
theorem d_H_needTenant_14 : decode b_H_needTenant 14 = .ok (.ifCond .eq 13, 3) := by decide +kernel
theorem d_H_needTenant_17 : decode b_H_needTenant 17 = .ok (.new 102, 3) := by decide +kernel
theorem d_H_needTenant_20 : decode b_H_needTenant 20 = .ok (.dup, 1) := by decide +kernel
theorem d_H_needTenant_21 : decode b_H_needTenant 21 = .ok (.ldc 249, 2) := by decide +kernel
theorem d_H_needTenant_23 : decode b_H_needTenant 23 = .ok (.invokespecial 106, 3) := by decide +kernel
theorem d_H_needTenant_26 : decode b_H_needTenant 26 = .ok (.athrow, 1) := by decide +kernel
theorem d_H_needTenant_27 : decode b_H_needTenant 27 = .ok (.return_, 1) := by decide +kernel
theorem d_H_needTenantOrLandlord_0 : decode b_H_needTenantOrLandlord 0 = .ok (.iload_n 1, 1) := by decide +kernel
theorem d_H_needTenantOrLandlord_1 : decode b_H_needTenantOrLandlord 1 = .ok (.iconst (-1), 1) := by decide +kernel
theorem d_H_needTenantOrLandlord_2 : decode b_H_needTenantOrLandlord 2 = .ok (.aload_n 0, 1) := by decide +kernel
theorem d_H_needTenantOrLandlord_3 : decode b_H_needTenantOrLandlord 3 = .ok (.getfield 47, 3) := by decide +kernel
theorem d_H_needTenantOrLandlord_6 : decode b_H_needTenantOrLandlord 6 = .ok (.getfield 122, 3) := by decide +kernel
theorem d_H_needTenantOrLandlord_9 : decode b_H_needTenantOrLandlord 9 = .ok (.iconst 1, 1) := by decide +kernel
theorem d_H_needTenantOrLandlord_10 : decode b_H_needTenantOrLandlord 10 = .ok (.isub, 1) := by decide +kernel
theorem d_H_needTenantOrLandlord_11 : decode b_H_needTenantOrLandlord 11 = .ok (.invokestatic 75, 3) := by decide +kernel
theorem d_H_needTenantOrLandlord_14 : decode b_H_needTenantOrLandlord 14 = .ok (.ifCond .eq 13, 3) := by decide +kernel
theorem d_H_needTenantOrLandlord_17 : decode b_H_needTenantOrLandlord 17 = .ok (.new 102, 3) := by decide +kernel
theorem d_H_needTenantOrLandlord_20 : decode b_H_needTenantOrLandlord 20 = .ok (.dup, 1) := by decide +kernel
theorem d_H_needTenantOrLandlord_21 : decode b_H_needTenantOrLandlord 21 = .ok (.ldc 249, 2) := by decide +kernel
theorem d_H_needTenantOrLandlord_23 : decode b_H_needTenantOrLandlord 23 = .ok (.invokespecial 106, 3) := by decide +kernel
theorem d_H_needTenantOrLandlord_26 : decode b_H_needTenantOrLandlord 26 = .ok (.athrow, 1) := by decide +kernel
theorem d_H_needTenantOrLandlord_27 : decode b_H_needTenantOrLandlord 27 = .ok (.return_, 1) := by decide +kernel
theorem d_H_needBill_0 : decode b_H_needBill 0 = .ok (.aload_n 0, 1) := by decide +kernel
theorem d_H_needBill_1 : decode b_H_needBill 1 = .ok (.getfield 71, 3) := by decide +kernel
theorem d_H_needBill_4 : decode b_H_needBill 4 = .ok (.ifCond .ne 13, 3) := by decide +kernel
theorem d_H_needBill_7 : decode b_H_needBill 7 = .ok (.new 244, 3) := by decide +kernel
theorem d_H_needBill_10 : decode b_H_needBill 10 = .ok (.dup, 1) := by decide +kernel
theorem d_H_needBill_11 : decode b_H_needBill 11 = .ok (.ldc 251, 2) := by decide +kernel
theorem d_H_needBill_13 : decode b_H_needBill 13 = .ok (.invokespecial 248, 3) := by decide +kernel
theorem d_H_needBill_16 : decode b_H_needBill 16 = .ok (.athrow, 1) := by decide +kernel
theorem d_H_needBill_17 : decode b_H_needBill 17 = .ok (.return_, 1) := by decide +kernel
theorem d_H_hasDegreesOfYear_0 : decode b_H_hasDegreesOfYear 0 = .ok (.iconst 0, 1) := by decide +kernel
theorem d_H_hasDegreesOfYear_1 : decode b_H_hasDegreesOfYear 1 = .ok (.istore_n 1, 1) := by decide +kernel
theorem d_H_hasDegreesOfYear_2 : decode b_H_hasDegreesOfYear 2 = .ok (.iconst 0, 1) := by decide +kernel
theorem d_H_hasDegreesOfYear_3 : decode b_H_hasDegreesOfYear 3 = .ok (.istore_n 2, 1) := by decide +kernel
theorem d_H_hasDegreesOfYear_4 : decode b_H_hasDegreesOfYear 4 = .ok (.iload_n 2, 1) := by decide +kernel
theorem d_H_hasDegreesOfYear_5 : decode b_H_hasDegreesOfYear 5 = .ok (.bipush 12, 2) := by decide +kernel
theorem d_H_hasDegreesOfYear_7 : decode b_H_hasDegreesOfYear 7 = .ok (.if_icmp .ge 18, 3) := by decide +kernel
theorem d_H_hasDegreesOfYear_10 : decode b_H_hasDegreesOfYear 10 = .ok (.iload_n 1, 1) := by decide +kernel
theorem d_H_hasDegreesOfYear_11 : decode b_H_hasDegreesOfYear 11 = .ok (.aload_n 0, 1) := by decide +kernel
theorem d_H_hasDegreesOfYear_12 : decode b_H_hasDegreesOfYear 12 = .ok (.getfield 51, 3) := by decide +kernel
theorem d_H_hasDegreesOfYear_15 : decode b_H_hasDegreesOfYear 15 = .ok (.iload_n 2, 1) := by decide +kernel
theorem d_H_hasDegreesOfYear_16 : decode b_H_hasDegreesOfYear 16 = .ok (.iaload, 1) := by decide +kernel
theorem d_H_hasDegreesOfYear_17 : decode b_H_hasDegreesOfYear 17 = .ok (.iadd, 1) := by decide +kernel
theorem d_H_hasDegreesOfYear_18 : decode b_H_hasDegreesOfYear 18 = .ok (.istore_n 1, 1) := by decide +kernel
theorem d_H_hasDegreesOfYear_19 : decode b_H_hasDegreesOfYear 19 = .ok (.iinc 2 1, 3) := by decide +kernel
theorem d_H_hasDegreesOfYear_22 : decode b_H_hasDegreesOfYear 22 = .ok (.goto (-18), 3) := by decide +kernel
theorem d_H_hasDegreesOfYear_25 : decode b_H_hasDegreesOfYear 25 = .ok (.iload_n 1, 1) := by decide +kernel
theorem d_H_hasDegreesOfYear_26 : decode b_H_hasDegreesOfYear 26 = .ok (.bipush 100, 2) := by decide +kernel
theorem d_H_hasDegreesOfYear_28 : decode b_H_hasDegreesOfYear 28 = .ok (.if_icmp .ne 7, 3) := by decide +kernel
theorem d_H_hasDegreesOfYear_31 : decode b_H_hasDegreesOfYear 31 = .ok (.iconst 1, 1) := by decide +kernel
theorem d_H_hasDegreesOfYear_32 : decode b_H_hasDegreesOfYear 32 = .ok (.goto 4, 3) := by decide +kernel
theorem d_H_hasDegreesOfYear_35 : decode b_H_hasDegreesOfYear 35 = .ok (.iconst 0, 1) := by decide +kernel
theorem d_H_hasDegreesOfYear_36 : decode b_H_hasDegreesOfYear 36 = .ok (.ireturn, 1) := by decide +kernel
theorem d_H_setBillParts_0 : decode b_H_setBillParts 0 = .ok (.aload_n 0, 1) := by decide +kernel
theorem d_H_setBillParts_1 : decode b_H_setBillParts 1 = .ok (.getfield 19, 3) := by decide +kernel
theorem d_H_setBillParts_4 : decode b_H_setBillParts 4 = .ok (.invokevirtual 253, 3) := by decide +kernel
theorem d_H_setBillParts_7 : decode b_H_setBillParts 7 = .ok (.istore_n 1, 1) := by decide +kernel
theorem d_H_setBillParts_8 : decode b_H_setBillParts 8 = .ok (.aload_n 0, 1) := by decide +kernel
theorem d_H_setBillParts_9 : decode b_H_setBillParts 9 = .ok (.getfield 19, 3) := by decide +kernel
theorem d_H_setBillParts_12 : decode b_H_setBillParts 12 = .ok (.invokevirtual 256, 3) := by decide +kernel
theorem d_H_setBillParts_15 : decode b_H_setBillParts 15 = .ok (.aload_n 0, 1) := by decide +kernel
theorem d_H_setBillParts_16 : decode b_H_setBillParts 16 = .ok (.getfield 58, 3) := by decide +kernel
theorem d_H_setBillParts_19 : decode b_H_setBillParts 19 = .ok (.iadd, 1) := by decide +kernel
theorem d_H_setBillParts_20 : decode b_H_setBillParts 20 = .ok (.istore_n 2, 1) := by decide +kernel
theorem d_H_setBillParts_21 : decode b_H_setBillParts 21 = .ok (.iload_n 1, 1) := by decide +kernel
theorem d_H_setBillParts_22 : decode b_H_setBillParts 22 = .ok (.ifCond .le 19, 3) := by decide +kernel
theorem d_H_setBillParts_25 : decode b_H_setBillParts 25 = .ok (.iload_n 2, 1) := by decide +kernel
theorem d_H_setBillParts_26 : decode b_H_setBillParts 26 = .ok (.i2l, 1) := by decide +kernel
theorem d_H_setBillParts_27 : decode b_H_setBillParts 27 = .ok (.aload_n 0, 1) := by decide +kernel
theorem d_H_setBillParts_28 : decode b_H_setBillParts 28 = .ok (.iload_n 1, 1) := by decide +kernel
theorem d_H_setBillParts_29 : decode b_H_setBillParts 29 = .ok (.invokevirtual 259, 3) := by decide +kernel
theorem d_H_setBillParts_32 : decode b_H_setBillParts 32 = .ok (.i2l, 1) := by decide +kernel
theorem d_H_setBillParts_33 : decode b_H_setBillParts 33 = .ok (.lmul, 1) := by decide +kernel
theorem d_H_setBillParts_34 : decode b_H_setBillParts 34 = .ok (.iload_n 1, 1) := by decide +kernel
theorem d_H_setBillParts_35 : decode b_H_setBillParts 35 = .ok (.i2l, 1) := by decide +kernel
theorem d_H_setBillParts_36 : decode b_H_setBillParts 36 = .ok (.ldiv, 1) := by decide +kernel
theorem d_H_setBillParts_37 : decode b_H_setBillParts 37 = .ok (.l2i, 1) := by decide +kernel
theorem d_H_setBillParts_38 : decode b_H_setBillParts 38 = .ok (.goto 4, 3) := by decide +kernel
theorem d_H_setBillParts_41 : decode b_H_setBillParts 41 = .ok (.iconst 0, 1) := by decide +kernel
theorem d_H_setBillParts_42 : decode b_H_setBillParts 42 = .ok (.istore_n 3, 1) := by decide +kernel
theorem d_H_setBillParts_43 : decode b_H_setBillParts 43 = .ok (.iload_n 2, 1) := by decide +kernel
theorem d_H_setBillParts_44 : decode b_H_setBillParts 44 = .ok (.iload_n 3, 1) := by decide +kernel
theorem d_H_setBillParts_45 : decode b_H_setBillParts 45 = .ok (.isub, 1) := by decide +kernel
theorem d_H_setBillParts_46 : decode b_H_setBillParts 46 = .ok (.i2l, 1) := by decide +kernel
theorem d_H_setBillParts_47 : decode b_H_setBillParts 47 = .ok (.aload_n 0, 1) := by decide +kernel
theorem d_H_setBillParts_48 : decode b_H_setBillParts 48 = .ok (.getfield 68, 3) := by decide +kernel
theorem d_H_setBillParts_51 : decode b_H_setBillParts 51 = .ok (.i2l, 1) := by decide +kernel
theorem d_H_setBillParts_52 : decode b_H_setBillParts 52 = .ok (.lmul, 1) := by decide +kernel
theorem d_H_setBillParts_53 : decode b_H_setBillParts 53 = .ok (.ldc2_w 262, 3) := by decide +kernel
theorem d_H_setBillParts_56 : decode b_H_setBillParts 56 = .ok (.ldiv, 1) := by decide +kernel
theorem d_H_setBillParts_57 : decode b_H_setBillParts 57 = .ok (.l2i, 1) := by decide +kernel
theorem d_H_setBillParts_58 : decode b_H_setBillParts 58 = .ok (.istore 4, 2) := by decide +kernel
theorem d_H_setBillParts_60 : decode b_H_setBillParts 60 = .ok (.aload_n 0, 1) := by decide +kernel
theorem d_H_setBillParts_61 : decode b_H_setBillParts 61 = .ok (.getfield 55, 3) := by decide +kernel
theorem d_H_setBillParts_64 : decode b_H_setBillParts 64 = .ok (.iconst 0, 1) := by decide +kernel
theorem d_H_setBillParts_65 : decode b_H_setBillParts 65 = .ok (.iload_n 1, 1) := by decide +kernel
theorem d_H_setBillParts_66 : decode b_H_setBillParts 66 = .ok (.iastore, 1) := by decide +kernel
theorem d_H_setBillParts_67 : decode b_H_setBillParts 67 = .ok (.aload_n 0, 1) := by decide +kernel
theorem d_H_setBillParts_68 : decode b_H_setBillParts 68 = .ok (.getfield 55, 3) := by decide +kernel
theorem d_H_setBillParts_71 : decode b_H_setBillParts 71 = .ok (.iconst 1, 1) := by decide +kernel
theorem d_H_setBillParts_72 : decode b_H_setBillParts 72 = .ok (.iload_n 2, 1) := by decide +kernel
theorem d_H_setBillParts_73 : decode b_H_setBillParts 73 = .ok (.iastore, 1) := by decide +kernel
theorem d_H_setBillParts_74 : decode b_H_setBillParts 74 = .ok (.aload_n 0, 1) := by decide +kernel
theorem d_H_setBillParts_75 : decode b_H_setBillParts 75 = .ok (.getfield 55, 3) := by decide +kernel
theorem d_H_setBillParts_78 : decode b_H_setBillParts 78 = .ok (.iconst 2, 1) := by decide +kernel
theorem d_H_setBillParts_79 : decode b_H_setBillParts 79 = .ok (.iload_n 3, 1) := by decide +kernel
theorem d_H_setBillParts_80 : decode b_H_setBillParts 80 = .ok (.iastore, 1) := by decide +kernel
theorem d_H_setBillParts_81 : decode b_H_setBillParts 81 = .ok (.aload_n 0, 1) := by decide +kernel
theorem d_H_setBillParts_82 : decode b_H_setBillParts 82 = .ok (.getfield 55, 3) := by decide +kernel
theorem d_H_setBillParts_85 : decode b_H_setBillParts 85 = .ok (.iconst 3, 1) := by decide +kernel
theorem d_H_setBillParts_86 : decode b_H_setBillParts 86 = .ok (.iload 4, 2) := by decide +kernel
theorem d_H_setBillParts_88 : decode b_H_setBillParts 88 = .ok (.iastore, 1) := by decide +kernel
theorem d_H_setBillParts_89 : decode b_H_setBillParts 89 = .ok (.aload_n 0, 1) := by decide +kernel
theorem d_H_setBillParts_90 : decode b_H_setBillParts 90 = .ok (.getfield 55, 3) := by decide +kernel
theorem d_H_setBillParts_93 : decode b_H_setBillParts 93 = .ok (.iconst 4, 1) := by decide +kernel
theorem d_H_setBillParts_94 : decode b_H_setBillParts 94 = .ok (.iload_n 2, 1) := by decide +kernel
theorem d_H_setBillParts_95 : decode b_H_setBillParts 95 = .ok (.iload_n 3, 1) := by decide +kernel
theorem d_H_setBillParts_96 : decode b_H_setBillParts 96 = .ok (.isub, 1) := by decide +kernel
theorem d_H_setBillParts_97 : decode b_H_setBillParts 97 = .ok (.iload 4, 2) := by decide +kernel
theorem d_H_setBillParts_99 : decode b_H_setBillParts 99 = .ok (.isub, 1) := by decide +kernel
theorem d_H_setBillParts_100 : decode b_H_setBillParts 100 = .ok (.iastore, 1) := by decide +kernel
theorem d_H_setBillParts_101 : decode b_H_setBillParts 101 = .ok (.return_, 1) := by decide +kernel
theorem d_H_waterUnits_0 : decode b_H_waterUnits 0 = .ok (.aload_n 0, 1) := by decide +kernel
theorem d_H_waterUnits_1 : decode b_H_waterUnits 1 = .ok (.getfield 62, 3) := by decide +kernel
theorem d_H_waterUnits_4 : decode b_H_waterUnits 4 = .ok (.iconst (-1), 1) := by decide +kernel
theorem d_H_waterUnits_5 : decode b_H_waterUnits 5 = .ok (.if_icmp .ne 13, 3) := by decide +kernel
theorem d_H_waterUnits_8 : decode b_H_waterUnits 8 = .ok (.sipush 180, 3) := by decide +kernel
theorem d_H_waterUnits_11 : decode b_H_waterUnits 11 = .ok (.iload_n 1, 1) := by decide +kernel
theorem d_H_waterUnits_12 : decode b_H_waterUnits 12 = .ok (.imul, 1) := by decide +kernel
theorem d_H_waterUnits_13 : decode b_H_waterUnits 13 = .ok (.sipush 1000, 3) := by decide +kernel
theorem d_H_waterUnits_16 : decode b_H_waterUnits 16 = .ok (.idiv, 1) := by decide +kernel
theorem d_H_waterUnits_17 : decode b_H_waterUnits 17 = .ok (.ireturn, 1) := by decide +kernel
theorem d_H_waterUnits_18 : decode b_H_waterUnits 18 = .ok (.aload_n 0, 1) := by decide +kernel
theorem d_H_waterUnits_19 : decode b_H_waterUnits 19 = .ok (.getfield 62, 3) := by decide +kernel
theorem d_H_waterUnits_22 : decode b_H_waterUnits 22 = .ok (.i2l, 1) := by decide +kernel
theorem d_H_waterUnits_23 : decode b_H_waterUnits 23 = .ok (.aload_n 0, 1) := by decide +kernel
theorem d_H_waterUnits_24 : decode b_H_waterUnits 24 = .ok (.getfield 65, 3) := by decide +kernel
theorem d_H_waterUnits_27 : decode b_H_waterUnits 27 = .ok (.i2l, 1) := by decide +kernel
theorem d_H_waterUnits_28 : decode b_H_waterUnits 28 = .ok (.lmul, 1) := by decide +kernel
theorem d_H_waterUnits_29 : decode b_H_waterUnits 29 = .ok (.ldc2_w 264, 3) := by decide +kernel
theorem d_H_waterUnits_32 : decode b_H_waterUnits 32 = .ok (.lmul, 1) := by decide +kernel
theorem d_H_waterUnits_33 : decode b_H_waterUnits 33 = .ok (.ldc2_w 266, 3) := by decide +kernel
theorem d_H_waterUnits_36 : decode b_H_waterUnits 36 = .ok (.ldiv, 1) := by decide +kernel
theorem d_H_waterUnits_37 : decode b_H_waterUnits 37 = .ok (.lstore_n 2, 1) := by decide +kernel
theorem d_H_waterUnits_38 : decode b_H_waterUnits 38 = .ok (.lload_n 2, 1) := by decide +kernel
theorem d_H_waterUnits_39 : decode b_H_waterUnits 39 = .ok (.sipush 400, 3) := by decide +kernel
theorem d_H_waterUnits_42 : decode b_H_waterUnits 42 = .ok (.iload_n 1, 1) := by decide +kernel
theorem d_H_waterUnits_43 : decode b_H_waterUnits 43 = .ok (.imul, 1) := by decide +kernel
theorem d_H_waterUnits_44 : decode b_H_waterUnits 44 = .ok (.sipush 1000, 3) := by decide +kernel
theorem d_H_waterUnits_47 : decode b_H_waterUnits 47 = .ok (.idiv, 1) := by decide +kernel
theorem d_H_waterUnits_48 : decode b_H_waterUnits 48 = .ok (.i2l, 1) := by decide +kernel
theorem d_H_waterUnits_49 : decode b_H_waterUnits 49 = .ok (.invokestatic 268, 3) := by decide +kernel
theorem d_H_waterUnits_52 : decode b_H_waterUnits 52 = .ok (.l2i, 1) := by decide +kernel
theorem d_H_waterUnits_53 : decode b_H_waterUnits 53 = .ok (.ireturn, 1) := by decide +kernel
theorem d_H_shareParts_0 : decode b_H_shareParts 0 = .ok (.aload_n 0, 1) := by decide +kernel
theorem d_H_shareParts_1 : decode b_H_shareParts 1 = .ok (.getfield 47, 3) := by decide +kernel
theorem d_H_shareParts_4 : decode b_H_shareParts 4 = .ok (.invokevirtual 274, 3) := by decide +kernel
theorem d_H_shareParts_7 : decode b_H_shareParts 7 = .ok (.aload_n 0, 1) := by decide +kernel
theorem d_H_shareParts_8 : decode b_H_shareParts 8 = .ok (.getfield 40, 3) := by decide +kernel
theorem d_H_shareParts_11 : decode b_H_shareParts 11 = .ok (.aload_n 0, 1) := by decide +kernel
theorem d_H_shareParts_12 : decode b_H_shareParts 12 = .ok (.getfield 12, 3) := by decide +kernel
theorem d_H_shareParts_15 : decode b_H_shareParts 15 = .ok (.aload_n 0, 1) := by decide +kernel
theorem d_H_shareParts_16 : decode b_H_shareParts 16 = .ok (.getfield 33, 3) := by decide +kernel
theorem d_H_shareParts_19 : decode b_H_shareParts 19 = .ok (.invokevirtual 277, 3) := by decide +kernel
theorem d_H_shareParts_22 : decode b_H_shareParts 22 = .ok (.aload_n 0, 1) := by decide +kernel
theorem d_H_shareParts_23 : decode b_H_shareParts 23 = .ok (.aload_n 0, 1) := by decide +kernel
theorem d_H_shareParts_24 : decode b_H_shareParts 24 = .ok (.getfield 55, 3) := by decide +kernel
theorem d_H_shareParts_27 : decode b_H_shareParts 27 = .ok (.iconst 3, 1) := by decide +kernel
theorem d_H_shareParts_28 : decode b_H_shareParts 28 = .ok (.iaload, 1) := by decide +kernel
theorem d_H_shareParts_29 : decode b_H_shareParts 29 = .ok (.iconst 0, 1) := by decide +kernel
theorem d_H_shareParts_30 : decode b_H_shareParts 30 = .ok (.invokevirtual 281, 3) := by decide +kernel
theorem d_H_shareParts_33 : decode b_H_shareParts 33 = .ok (.iload_n 1, 1) := by decide +kernel
theorem d_H_shareParts_34 : decode b_H_shareParts 34 = .ok (.ifCond .ne 14, 3) := by decide +kernel
theorem d_H_shareParts_37 : decode b_H_shareParts 37 = .ok (.aload_n 0, 1) := by decide +kernel
theorem d_H_shareParts_38 : decode b_H_shareParts 38 = .ok (.aload_n 0, 1) := by decide +kernel
theorem d_H_shareParts_39 : decode b_H_shareParts 39 = .ok (.getfield 55, 3) := by decide +kernel
theorem d_H_shareParts_42 : decode b_H_shareParts 42 = .ok (.iconst 4, 1) := by decide +kernel
theorem d_H_shareParts_43 : decode b_H_shareParts 43 = .ok (.iaload, 1) := by decide +kernel
theorem d_H_shareParts_44 : decode b_H_shareParts 44 = .ok (.iconst 1, 1) := by decide +kernel
theorem d_H_shareParts_45 : decode b_H_shareParts 45 = .ok (.invokevirtual 281, 3) := by decide +kernel
theorem d_H_shareParts_48 : decode b_H_shareParts 48 = .ok (.aload_n 0, 1) := by decide +kernel
theorem d_H_shareParts_49 : decode b_H_shareParts 49 = .ok (.getfield 12, 3) := by decide +kernel
theorem d_H_shareParts_52 : decode b_H_shareParts 52 = .ok (.invokevirtual 284, 3) := by decide +kernel
theorem d_H_shareParts_55 : decode b_H_shareParts 55 = .ok (.ifCond .eq 18, 3) := by decide +kernel
theorem d_H_shareParts_58 : decode b_H_shareParts 58 = .ok (.aload_n 0, 1) := by decide +kernel
theorem d_H_shareParts_59 : decode b_H_shareParts 59 = .ok (.getfield 40, 3) := by decide +kernel
theorem d_H_shareParts_62 : decode b_H_shareParts 62 = .ok (.aload_n 0, 1) := by decide +kernel
theorem d_H_shareParts_63 : decode b_H_shareParts 63 = .ok (.getfield 12, 3) := by decide +kernel
theorem d_H_shareParts_66 : decode b_H_shareParts 66 = .ok (.aload_n 0, 1) := by decide +kernel
theorem d_H_shareParts_67 : decode b_H_shareParts 67 = .ok (.getfield 33, 3) := by decide +kernel
theorem d_H_shareParts_70 : decode b_H_shareParts 70 = .ok (.invokevirtual 287, 3) := by decide +kernel
theorem d_H_shareParts_73 : decode b_H_shareParts 73 = .ok (.aload_n 0, 1) := by decide +kernel
theorem d_H_shareParts_74 : decode b_H_shareParts 74 = .ok (.aload_n 0, 1) := by decide +kernel
theorem d_H_shareParts_75 : decode b_H_shareParts 75 = .ok (.getfield 55, 3) := by decide +kernel
theorem d_H_shareParts_78 : decode b_H_shareParts 78 = .ok (.iconst 2, 1) := by decide +kernel
theorem d_H_shareParts_79 : decode b_H_shareParts 79 = .ok (.iaload, 1) := by decide +kernel
theorem d_H_shareParts_80 : decode b_H_shareParts 80 = .ok (.iconst 2, 1) := by decide +kernel
theorem d_H_shareParts_81 : decode b_H_shareParts 81 = .ok (.invokevirtual 281, 3) := by decide +kernel
theorem d_H_shareParts_84 : decode b_H_shareParts 84 = .ok (.iload_n 1, 1) := by decide +kernel
theorem d_H_shareParts_85 : decode b_H_shareParts 85 = .ok (.ifCond .eq 37, 3) := by decide +kernel
theorem d_H_shareParts_88 : decode b_H_shareParts 88 = .ok (.aload_n 0, 1) := by decide +kernel
theorem d_H_shareParts_89 : decode b_H_shareParts 89 = .ok (.getfield 40, 3) := by decide +kernel
theorem d_H_shareParts_92 : decode b_H_shareParts 92 = .ok (.aload_n 0, 1) := by decide +kernel
theorem d_H_shareParts_93 : decode b_H_shareParts 93 = .ok (.getfield 12, 3) := by decide +kernel
theorem d_H_shareParts_96 : decode b_H_shareParts 96 = .ok (.aload_n 0, 1) := by decide +kernel
theorem d_H_shareParts_97 : decode b_H_shareParts 97 = .ok (.getfield 33, 3) := by decide +kernel
theorem d_H_shareParts_100 : decode b_H_shareParts 100 = .ok (.aload_n 0, 1) := by decide +kernel
theorem d_H_shareParts_101 : decode b_H_shareParts 101 = .ok (.getfield 26, 3) := by decide +kernel
theorem d_H_shareParts_104 : decode b_H_shareParts 104 = .ok (.aload_n 0, 1) := by decide +kernel
theorem d_H_shareParts_105 : decode b_H_shareParts 105 = .ok (.getfield 51, 3) := by decide +kernel
theorem d_H_shareParts_108 : decode b_H_shareParts 108 = .ok (.invokevirtual 290, 3) := by decide +kernel
theorem d_H_shareParts_111 : decode b_H_shareParts 111 = .ok (.aload_n 0, 1) := by decide +kernel
theorem d_H_shareParts_112 : decode b_H_shareParts 112 = .ok (.aload_n 0, 1) := by decide +kernel
theorem d_H_shareParts_113 : decode b_H_shareParts 113 = .ok (.getfield 55, 3) := by decide +kernel
theorem d_H_shareParts_116 : decode b_H_shareParts 116 = .ok (.iconst 4, 1) := by decide +kernel
theorem d_H_shareParts_117 : decode b_H_shareParts 117 = .ok (.iaload, 1) := by decide +kernel
theorem d_H_shareParts_118 : decode b_H_shareParts 118 = .ok (.iconst 1, 1) := by decide +kernel
theorem d_H_shareParts_119 : decode b_H_shareParts 119 = .ok (.invokevirtual 281, 3) := by decide +kernel
theorem d_H_shareParts_122 : decode b_H_shareParts 122 = .ok (.return_, 1) := by decide +kernel
theorem d_H_sharePart_0 : decode b_H_sharePart 0 = .ok (.aload_n 0, 1) := by decide +kernel
theorem d_H_sharePart_1 : decode b_H_sharePart 1 = .ok (.getfield 40, 3) := by decide +kernel
theorem d_H_sharePart_4 : decode b_H_sharePart 4 = .ok (.iload_n 1, 1) := by decide +kernel
theorem d_H_sharePart_5 : decode b_H_sharePart 5 = .ok (.aload_n 0, 1) := by decide +kernel
theorem d_H_sharePart_6 : decode b_H_sharePart 6 = .ok (.getfield 33, 3) := by decide +kernel
theorem d_H_sharePart_9 : decode b_H_sharePart 9 = .ok (.getfield 294, 3) := by decide +kernel
theorem d_H_sharePart_12 : decode b_H_sharePart 12 = .ok (.invokevirtual 295, 3) := by decide +kernel
theorem d_H_sharePart_15 : decode b_H_sharePart 15 = .ok (.iconst 0, 1) := by decide +kernel
theorem d_H_sharePart_16 : decode b_H_sharePart 16 = .ok (.istore_n 3, 1) := by decide +kernel
theorem d_H_sharePart_17 : decode b_H_sharePart 17 = .ok (.iload_n 3, 1) := by decide +kernel
theorem d_H_sharePart_18 : decode b_H_sharePart 18 = .ok (.aload_n 0, 1) := by decide +kernel
theorem d_H_sharePart_19 : decode b_H_sharePart 19 = .ok (.getfield 33, 3) := by decide +kernel
theorem d_H_sharePart_22 : decode b_H_sharePart 22 = .ok (.getfield 294, 3) := by decide +kernel
theorem d_H_sharePart_25 : decode b_H_sharePart 25 = .ok (.if_icmp .ge 42, 3) := by decide +kernel
theorem d_H_sharePart_28 : decode b_H_sharePart 28 = .ok (.aload_n 0, 1) := by decide +kernel
theorem d_H_sharePart_29 : decode b_H_sharePart 29 = .ok (.getfield 47, 3) := by decide +kernel
theorem d_H_sharePart_32 : decode b_H_sharePart 32 = .ok (.getfield 211, 3) := by decide +kernel
theorem d_H_sharePart_35 : decode b_H_sharePart 35 = .ok (.iload_n 2, 1) := by decide +kernel
theorem d_H_sharePart_36 : decode b_H_sharePart 36 = .ok (.aaload, 1) := by decide +kernel
theorem d_H_sharePart_37 : decode b_H_sharePart 37 = .ok (.aload_n 0, 1) := by decide +kernel
theorem d_H_sharePart_38 : decode b_H_sharePart 38 = .ok (.getfield 33, 3) := by decide +kernel
theorem d_H_sharePart_41 : decode b_H_sharePart 41 = .ok (.getfield 298, 3) := by decide +kernel
theorem d_H_sharePart_44 : decode b_H_sharePart 44 = .ok (.iload_n 3, 1) := by decide +kernel
theorem d_H_sharePart_45 : decode b_H_sharePart 45 = .ok (.iaload, 1) := by decide +kernel
theorem d_H_sharePart_46 : decode b_H_sharePart 46 = .ok (.iconst 1, 1) := by decide +kernel
theorem d_H_sharePart_47 : decode b_H_sharePart 47 = .ok (.iadd, 1) := by decide +kernel
theorem d_H_sharePart_48 : decode b_H_sharePart 48 = .ok (.dup2, 1) := by decide +kernel
theorem d_H_sharePart_49 : decode b_H_sharePart 49 = .ok (.iaload, 1) := by decide +kernel
theorem d_H_sharePart_50 : decode b_H_sharePart 50 = .ok (.aload_n 0, 1) := by decide +kernel
theorem d_H_sharePart_51 : decode b_H_sharePart 51 = .ok (.getfield 40, 3) := by decide +kernel
theorem d_H_sharePart_54 : decode b_H_sharePart 54 = .ok (.getfield 301, 3) := by decide +kernel
theorem d_H_sharePart_57 : decode b_H_sharePart 57 = .ok (.iload_n 3, 1) := by decide +kernel
theorem d_H_sharePart_58 : decode b_H_sharePart 58 = .ok (.iaload, 1) := by decide +kernel
theorem d_H_sharePart_59 : decode b_H_sharePart 59 = .ok (.iadd, 1) := by decide +kernel
theorem d_H_sharePart_60 : decode b_H_sharePart 60 = .ok (.iastore, 1) := by decide +kernel
theorem d_H_sharePart_61 : decode b_H_sharePart 61 = .ok (.iinc 3 1, 3) := by decide +kernel
theorem d_H_sharePart_64 : decode b_H_sharePart 64 = .ok (.goto (-47), 3) := by decide +kernel
theorem d_H_sharePart_67 : decode b_H_sharePart 67 = .ok (.return_, 1) := by decide +kernel
end
section
/-! Decode rows. -/
theorem d_R_init_0 : decode b_R_init 0 = .ok (.aload_n 0, 1) := by decide +kernel
theorem d_R_init_1 : decode b_R_init 1 = .ok (.invokespecial 1, 3) := by decide +kernel
theorem d_R_init_4 : decode b_R_init 4 = .ok (.aload_n 0, 1) := by decide +kernel
theorem d_R_init_5 : decode b_R_init 5 = .ok (.bipush 6, 2) := by decide +kernel
theorem d_R_init_7 : decode b_R_init 7 = .ok (.newarray .int, 2) := by decide +kernel
theorem d_R_init_9 : decode b_R_init 9 = .ok (.putfield 7, 3) := by decide +kernel
theorem d_R_init_12 : decode b_R_init 12 = .ok (.aload_n 0, 1) := by decide +kernel
theorem d_R_init_13 : decode b_R_init 13 = .ok (.bipush 6, 2) := by decide +kernel
theorem d_R_init_15 : decode b_R_init 15 = .ok (.newarray .int, 2) := by decide +kernel
theorem d_R_init_17 : decode b_R_init 17 = .ok (.putfield 13, 3) := by decide +kernel
theorem d_R_init_20 : decode b_R_init 20 = .ok (.aload_n 0, 1) := by decide +kernel
theorem d_R_init_21 : decode b_R_init 21 = .ok (.bipush 6, 2) := by decide +kernel
theorem d_R_init_23 : decode b_R_init 23 = .ok (.newarray .int, 2) := by decide +kernel
theorem d_R_init_25 : decode b_R_init 25 = .ok (.putfield 16, 3) := by decide +kernel
theorem d_R_init_28 : decode b_R_init 28 = .ok (.aload_n 0, 1) := by decide +kernel
theorem d_R_init_29 : decode b_R_init 29 = .ok (.bipush 78, 2) := by decide +kernel
theorem d_R_init_31 : decode b_R_init 31 = .ok (.newarray .int, 2) := by decide +kernel
theorem d_R_init_33 : decode b_R_init 33 = .ok (.putfield 19, 3) := by decide +kernel
theorem d_R_init_36 : decode b_R_init 36 = .ok (.aload_n 0, 1) := by decide +kernel
theorem d_R_init_37 : decode b_R_init 37 = .ok (.bipush 72, 2) := by decide +kernel
theorem d_R_init_39 : decode b_R_init 39 = .ok (.newarray .int, 2) := by decide +kernel
theorem d_R_init_41 : decode b_R_init 41 = .ok (.putfield 22, 3) := by decide +kernel
theorem d_R_init_44 : decode b_R_init 44 = .ok (.aload_n 0, 1) := by decide +kernel
theorem d_R_init_45 : decode b_R_init 45 = .ok (.bipush 6, 2) := by decide +kernel
theorem d_R_init_47 : decode b_R_init 47 = .ok (.newarray .int, 2) := by decide +kernel
theorem d_R_init_49 : decode b_R_init 49 = .ok (.putfield 25, 3) := by decide +kernel
theorem d_R_init_52 : decode b_R_init 52 = .ok (.aload_n 0, 1) := by decide +kernel
theorem d_R_init_53 : decode b_R_init 53 = .ok (.bipush 6, 2) := by decide +kernel
theorem d_R_init_55 : decode b_R_init 55 = .ok (.newarray .int, 2) := by decide +kernel
theorem d_R_init_57 : decode b_R_init 57 = .ok (.putfield 28, 3) := by decide +kernel
theorem d_R_init_60 : decode b_R_init 60 = .ok (.aload_n 0, 1) := by decide +kernel
theorem d_R_init_61 : decode b_R_init 61 = .ok (.bipush 12, 2) := by decide +kernel
theorem d_R_init_63 : decode b_R_init 63 = .ok (.newarray .int, 2) := by decide +kernel
theorem d_R_init_65 : decode b_R_init 65 = .ok (.putfield 31, 3) := by decide +kernel
theorem d_R_init_68 : decode b_R_init 68 = .ok (.aload_n 0, 1) := by decide +kernel
theorem d_R_init_69 : decode b_R_init 69 = .ok (.bipush 12, 2) := by decide +kernel
theorem d_R_init_71 : decode b_R_init 71 = .ok (.newarray .int, 2) := by decide +kernel
theorem d_R_init_73 : decode b_R_init 73 = .ok (.putfield 34, 3) := by decide +kernel
theorem d_R_init_76 : decode b_R_init 76 = .ok (.aload_n 0, 1) := by decide +kernel
theorem d_R_init_77 : decode b_R_init 77 = .ok (.iconst (-1), 1) := by decide +kernel
theorem d_R_init_78 : decode b_R_init 78 = .ok (.putfield 37, 3) := by decide +kernel
theorem d_R_init_81 : decode b_R_init 81 = .ok (.aload_n 0, 1) := by decide +kernel
theorem d_R_init_82 : decode b_R_init 82 = .ok (.iconst (-1), 1) := by decide +kernel
theorem d_R_init_83 : decode b_R_init 83 = .ok (.putfield 41, 3) := by decide +kernel
theorem d_R_init_86 : decode b_R_init 86 = .ok (.aload_n 0, 1) := by decide +kernel
theorem d_R_init_87 : decode b_R_init 87 = .ok (.sipush 500, 3) := by decide +kernel
theorem d_R_init_90 : decode b_R_init 90 = .ok (.putfield 44, 3) := by decide +kernel
theorem d_R_init_93 : decode b_R_init 93 = .ok (.aload_n 0, 1) := by decide +kernel
theorem d_R_init_94 : decode b_R_init 94 = .ok (.bipush 12, 2) := by decide +kernel
theorem d_R_init_96 : decode b_R_init 96 = .ok (.newarray .int, 2) := by decide +kernel
theorem d_R_init_98 : decode b_R_init 98 = .ok (.putfield 47, 3) := by decide +kernel
theorem d_R_init_101 : decode b_R_init 101 = .ok (.aload_n 0, 1) := by decide +kernel
theorem d_R_init_102 : decode b_R_init 102 = .ok (.iconst 5, 1) := by decide +kernel
theorem d_R_init_103 : decode b_R_init 103 = .ok (.newarray .int, 2) := by decide +kernel
theorem d_R_init_105 : decode b_R_init 105 = .ok (.putfield 50, 3) := by decide +kernel
theorem d_R_init_108 : decode b_R_init 108 = .ok (.aload_n 0, 1) := by decide +kernel
theorem d_R_init_109 : decode b_R_init 109 = .ok (.bipush 63, 2) := by decide +kernel
theorem d_R_init_111 : decode b_R_init 111 = .ok (.newarray .int, 2) := by decide +kernel
theorem d_R_init_113 : decode b_R_init 113 = .ok (.putfield 53, 3) := by decide +kernel
theorem d_R_init_116 : decode b_R_init 116 = .ok (.aload_n 0, 1) := by decide +kernel
theorem d_R_init_117 : decode b_R_init 117 = .ok (.bipush 20, 2) := by decide +kernel
theorem d_R_init_119 : decode b_R_init 119 = .ok (.newarray .int, 2) := by decide +kernel
theorem d_R_init_121 : decode b_R_init 121 = .ok (.putfield 56, 3) := by decide +kernel
theorem d_R_init_124 : decode b_R_init 124 = .ok (.aload_n 0, 1) := by decide +kernel
theorem d_R_init_125 : decode b_R_init 125 = .ok (.bipush 21, 2) := by decide +kernel
theorem d_R_init_127 : decode b_R_init 127 = .ok (.newarray .int, 2) := by decide +kernel
theorem d_R_init_129 : decode b_R_init 129 = .ok (.putfield 59, 3) := by decide +kernel
theorem d_R_init_132 : decode b_R_init 132 = .ok (.aload_n 0, 1) := by decide +kernel
theorem d_R_init_133 : decode b_R_init 133 = .ok (.bipush 21, 2) := by decide +kernel
theorem d_R_init_135 : decode b_R_init 135 = .ok (.newarray .int, 2) := by decide +kernel
theorem d_R_init_137 : decode b_R_init 137 = .ok (.putfield 62, 3) := by decide +kernel
theorem d_R_init_140 : decode b_R_init 140 = .ok (.aload_n 0, 1) := by decide +kernel
theorem d_R_init_141 : decode b_R_init 141 = .ok (.bipush 6, 2) := by decide +kernel
theorem d_R_init_143 : decode b_R_init 143 = .ok (.newarray .long, 2) := by decide +kernel
theorem d_R_init_145 : decode b_R_init 145 = .ok (.putfield 65, 3) := by decide +kernel
theorem d_R_init_148 : decode b_R_init 148 = .ok (.aload_n 0, 1) := by decide +kernel
theorem d_R_init_149 : decode b_R_init 149 = .ok (.bipush 72, 2) := by decide +kernel
theorem d_R_init_151 : decode b_R_init 151 = .ok (.newarray .int, 2) := by decide +kernel
theorem d_R_init_153 : decode b_R_init 153 = .ok (.putfield 69, 3) := by decide +kernel
theorem d_R_init_156 : decode b_R_init 156 = .ok (.aload_n 0, 1) := by decide +kernel
theorem d_R_init_157 : decode b_R_init 157 = .ok (.bipush 72, 2) := by decide +kernel
theorem d_R_init_159 : decode b_R_init 159 = .ok (.newarray .long, 2) := by decide +kernel
theorem d_R_init_161 : decode b_R_init 161 = .ok (.putfield 72, 3) := by decide +kernel
theorem d_R_init_164 : decode b_R_init 164 = .ok (.aload_n 0, 1) := by decide +kernel
theorem d_R_init_165 : decode b_R_init 165 = .ok (.bipush 72, 2) := by decide +kernel
theorem d_R_init_167 : decode b_R_init 167 = .ok (.newarray .long, 2) := by decide +kernel
theorem d_R_init_169 : decode b_R_init 169 = .ok (.putfield 75, 3) := by decide +kernel
theorem d_R_init_172 : decode b_R_init 172 = .ok (.aload_n 0, 1) := by decide +kernel
theorem d_R_init_173 : decode b_R_init 173 = .ok (.bipush 72, 2) := by decide +kernel
theorem d_R_init_175 : decode b_R_init 175 = .ok (.newarray .int, 2) := by decide +kernel
theorem d_R_init_177 : decode b_R_init 177 = .ok (.putfield 78, 3) := by decide +kernel
theorem d_R_init_180 : decode b_R_init 180 = .ok (.aload_n 0, 1) := by decide +kernel
theorem d_R_init_181 : decode b_R_init 181 = .ok (.bipush 72, 2) := by decide +kernel
theorem d_R_init_183 : decode b_R_init 183 = .ok (.newarray .boolean, 2) := by decide +kernel
theorem d_R_init_185 : decode b_R_init 185 = .ok (.putfield 81, 3) := by decide +kernel
theorem d_R_init_188 : decode b_R_init 188 = .ok (.return_, 1) := by decide +kernel
theorem d_R_thrown_0 : decode b_R_thrown 0 = .ok (.aload_n 0, 1) := by decide +kernel
theorem d_R_thrown_1 : decode b_R_thrown 1 = .ok (.getfield 85, 3) := by decide +kernel
theorem d_R_thrown_4 : decode b_R_thrown 4 = .ok (.ireturn, 1) := by decide +kernel
theorem d_R_within_0 : decode b_R_within 0 = .ok (.iload_n 0, 1) := by decide +kernel
theorem d_R_within_1 : decode b_R_within 1 = .ok (.iload_n 1, 1) := by decide +kernel
theorem d_R_within_2 : decode b_R_within 2 = .ok (.if_icmp .lt 12, 3) := by decide +kernel
theorem d_R_within_5 : decode b_R_within 5 = .ok (.iload_n 0, 1) := by decide +kernel
theorem d_R_within_6 : decode b_R_within 6 = .ok (.iload_n 2, 1) := by decide +kernel
theorem d_R_within_7 : decode b_R_within 7 = .ok (.if_icmp .gt 7, 3) := by decide +kernel
theorem d_R_within_10 : decode b_R_within 10 = .ok (.iconst 1, 1) := by decide +kernel
theorem d_R_within_11 : decode b_R_within 11 = .ok (.goto 4, 3) := by decide +kernel
theorem d_R_within_14 : decode b_R_within 14 = .ok (.iconst 0, 1) := by decide +kernel
theorem d_R_within_15 : decode b_R_within 15 = .ok (.ireturn, 1) := by decide +kernel
theorem d_R_isFlat_0 : decode b_R_isFlat 0 = .ok (.iload_n 1, 1) := by decide +kernel
theorem d_R_isFlat_1 : decode b_R_isFlat 1 = .ok (.ifCond .lt 15, 3) := by decide +kernel
theorem d_R_isFlat_4 : decode b_R_isFlat 4 = .ok (.iload_n 1, 1) := by decide +kernel
theorem d_R_isFlat_5 : decode b_R_isFlat 5 = .ok (.aload_n 0, 1) := by decide +kernel
theorem d_R_isFlat_6 : decode b_R_isFlat 6 = .ok (.getfield 88, 3) := by decide +kernel
theorem d_R_isFlat_9 : decode b_R_isFlat 9 = .ok (.if_icmp .ge 7, 3) := by decide +kernel
theorem d_R_isFlat_12 : decode b_R_isFlat 12 = .ok (.iconst 1, 1) := by decide +kernel
theorem d_R_isFlat_13 : decode b_R_isFlat 13 = .ok (.goto 4, 3) := by decide +kernel
theorem d_R_isFlat_16 : decode b_R_isFlat 16 = .ok (.iconst 0, 1) := by decide +kernel
theorem d_R_isFlat_17 : decode b_R_isFlat 17 = .ok (.ireturn, 1) := by decide +kernel
theorem d_R_isTenant_0 : decode b_R_isTenant 0 = .ok (.iload_n 1, 1) := by decide +kernel
theorem d_R_isTenant_1 : decode b_R_isTenant 1 = .ok (.ifCond .lt 15, 3) := by decide +kernel
theorem d_R_isTenant_4 : decode b_R_isTenant 4 = .ok (.iload_n 1, 1) := by decide +kernel
theorem d_R_isTenant_5 : decode b_R_isTenant 5 = .ok (.aload_n 0, 1) := by decide +kernel
theorem d_R_isTenant_6 : decode b_R_isTenant 6 = .ok (.getfield 91, 3) := by decide +kernel
theorem d_R_isTenant_9 : decode b_R_isTenant 9 = .ok (.if_icmp .ge 7, 3) := by decide +kernel
theorem d_R_isTenant_12 : decode b_R_isTenant 12 = .ok (.iconst 1, 1) := by decide +kernel
theorem d_R_isTenant_13 : decode b_R_isTenant 13 = .ok (.goto 4, 3) := by decide +kernel
theorem d_R_isTenant_16 : decode b_R_isTenant 16 = .ok (.iconst 0, 1) := by decide +kernel
theorem d_R_isTenant_17 : decode b_R_isTenant 17 = .ok (.ireturn, 1) := by decide +kernel
theorem d_R_flat_0 : decode b_R_flat 0 = .ok (.aload_n 0, 1) := by decide +kernel
theorem d_R_flat_1 : decode b_R_flat 1 = .ok (.iload_n 1, 1) := by decide +kernel
theorem d_R_flat_2 : decode b_R_flat 2 = .ok (.iconst 1, 1) := by decide +kernel
theorem d_R_flat_3 : decode b_R_flat 3 = .ok (.bipush 50, 2) := by decide +kernel
theorem d_R_flat_5 : decode b_R_flat 5 = .ok (.invokestatic 94, 3) := by decide +kernel
theorem d_R_flat_8 : decode b_R_flat 8 = .ok (.ifCond .eq 22, 3) := by decide +kernel
theorem d_R_flat_11 : decode b_R_flat 11 = .ok (.iload_n 2, 1) := by decide +kernel
theorem d_R_flat_12 : decode b_R_flat 12 = .ok (.iconst 0, 1) := by decide +kernel
theorem d_R_flat_13 : decode b_R_flat 13 = .ok (.bipush 50, 2) := by decide +kernel
theorem d_R_flat_15 : decode b_R_flat 15 = .ok (.invokestatic 94, 3) := by decide +kernel
theorem d_R_flat_18 : decode b_R_flat 18 = .ok (.ifCond .eq 12, 3) := by decide +kernel
theorem d_R_flat_21 : decode b_R_flat 21 = .ok (.iload_n 3, 1) := by decide +kernel
theorem d_R_flat_22 : decode b_R_flat 22 = .ok (.iconst 1, 1) := by decide +kernel
theorem d_R_flat_23 : decode b_R_flat 23 = .ok (.iconst 2, 1) := by decide +kernel
theorem d_R_flat_24 : decode b_R_flat 24 = .ok (.invokestatic 94, 3) := by decide +kernel
theorem d_R_flat_27 : decode b_R_flat 27 = .ok (.ifCond .ne 7, 3) := by decide +kernel
theorem d_R_flat_30 : decode b_R_flat 30 = .ok (.iconst 1, 1) := by decide +kernel
theorem d_R_flat_31 : decode b_R_flat 31 = .ok (.goto 17, 3) := by decide +kernel
theorem d_R_flat_34 : decode b_R_flat 34 = .ok (.aload_n 0, 1) := by decide +kernel
theorem d_R_flat_35 : decode b_R_flat 35 = .ok (.getfield 88, 3) := by decide +kernel
theorem d_R_flat_38 : decode b_R_flat 38 = .ok (.bipush 6, 2) := by decide +kernel
theorem d_R_flat_40 : decode b_R_flat 40 = .ok (.if_icmp .ne 7, 3) := by decide +kernel
theorem d_R_flat_43 : decode b_R_flat 43 = .ok (.iconst 2, 1) := by decide +kernel
theorem d_R_flat_44 : decode b_R_flat 44 = .ok (.goto 4, 3) := by decide +kernel
theorem d_R_flat_47 : decode b_R_flat 47 = .ok (.iconst 0, 1) := by decide +kernel
theorem d_R_flat_48 : decode b_R_flat 48 = .ok (.putfield 85, 3) := by decide +kernel
theorem d_R_flat_51 : decode b_R_flat 51 = .ok (.aload_n 0, 1) := by decide +kernel
theorem d_R_flat_52 : decode b_R_flat 52 = .ok (.getfield 85, 3) := by decide +kernel
theorem d_R_flat_55 : decode b_R_flat 55 = .ok (.ifCond .le 5, 3) := by decide +kernel
theorem d_R_flat_58 : decode b_R_flat 58 = .ok (.iconst 0, 1) := by decide +kernel
theorem d_R_flat_59 : decode b_R_flat 59 = .ok (.ireturn, 1) := by decide +kernel
theorem d_R_flat_60 : decode b_R_flat 60 = .ok (.aload_n 0, 1) := by decide +kernel
theorem d_R_flat_61 : decode b_R_flat 61 = .ok (.getfield 7, 3) := by decide +kernel
theorem d_R_flat_64 : decode b_R_flat 64 = .ok (.aload_n 0, 1) := by decide +kernel
theorem d_R_flat_65 : decode b_R_flat 65 = .ok (.getfield 88, 3) := by decide +kernel
theorem d_R_flat_68 : decode b_R_flat 68 = .ok (.iload_n 1, 1) := by decide +kernel
theorem d_R_flat_69 : decode b_R_flat 69 = .ok (.iastore, 1) := by decide +kernel
theorem d_R_flat_70 : decode b_R_flat 70 = .ok (.aload_n 0, 1) := by decide +kernel
theorem d_R_flat_71 : decode b_R_flat 71 = .ok (.getfield 13, 3) := by decide +kernel
theorem d_R_flat_74 : decode b_R_flat 74 = .ok (.aload_n 0, 1) := by decide +kernel
theorem d_R_flat_75 : decode b_R_flat 75 = .ok (.getfield 88, 3) := by decide +kernel
theorem d_R_flat_78 : decode b_R_flat 78 = .ok (.iload_n 2, 1) := by decide +kernel
theorem d_R_flat_79 : decode b_R_flat 79 = .ok (.iastore, 1) := by decide +kernel
theorem d_R_flat_80 : decode b_R_flat 80 = .ok (.aload_n 0, 1) := by decide +kernel
theorem d_R_flat_81 : decode b_R_flat 81 = .ok (.getfield 16, 3) := by decide +kernel
theorem d_R_flat_84 : decode b_R_flat 84 = .ok (.aload_n 0, 1) := by decide +kernel
theorem d_R_flat_85 : decode b_R_flat 85 = .ok (.getfield 88, 3) := by decide +kernel
theorem d_R_flat_88 : decode b_R_flat 88 = .ok (.iload_n 3, 1) := by decide +kernel
theorem d_R_flat_89 : decode b_R_flat 89 = .ok (.iastore, 1) := by decide +kernel
theorem d_R_flat_90 : decode b_R_flat 90 = .ok (.aload_n 0, 1) := by decide +kernel
theorem d_R_flat_91 : decode b_R_flat 91 = .ok (.getfield 25, 3) := by decide +kernel
theorem d_R_flat_94 : decode b_R_flat 94 = .ok (.aload_n 0, 1) := by decide +kernel
theorem d_R_flat_95 : decode b_R_flat 95 = .ok (.getfield 88, 3) := by decide +kernel
theorem d_R_flat_98 : decode b_R_flat 98 = .ok (.iconst (-1), 1) := by decide +kernel
theorem d_R_flat_99 : decode b_R_flat 99 = .ok (.iastore, 1) := by decide +kernel
theorem d_R_flat_100 : decode b_R_flat 100 = .ok (.aload_n 0, 1) := by decide +kernel
theorem d_R_flat_101 : decode b_R_flat 101 = .ok (.getfield 28, 3) := by decide +kernel
theorem d_R_flat_104 : decode b_R_flat 104 = .ok (.aload_n 0, 1) := by decide +kernel
theorem d_R_flat_105 : decode b_R_flat 105 = .ok (.getfield 88, 3) := by decide +kernel
theorem d_R_flat_108 : decode b_R_flat 108 = .ok (.iconst (-1), 1) := by decide +kernel
theorem d_R_flat_109 : decode b_R_flat 109 = .ok (.iastore, 1) := by decide +kernel
theorem d_R_flat_110 : decode b_R_flat 110 = .ok (.iconst 0, 1) := by decide +kernel
theorem d_R_flat_111 : decode b_R_flat 111 = .ok (.istore 4, 2) := by decide +kernel
theorem d_R_flat_113 : decode b_R_flat 113 = .ok (.iload 4, 2) := by decide +kernel
theorem d_R_flat_115 : decode b_R_flat 115 = .ok (.bipush 13, 2) := by decide +kernel
theorem d_R_flat_117 : decode b_R_flat 117 = .ok (.if_icmp .ge 25, 3) := by decide +kernel
theorem d_R_flat_120 : decode b_R_flat 120 = .ok (.aload_n 0, 1) := by decide +kernel
theorem d_R_flat_121 : decode b_R_flat 121 = .ok (.getfield 19, 3) := by decide +kernel
theorem d_R_flat_124 : decode b_R_flat 124 = .ok (.bipush 13, 2) := by decide +kernel
theorem d_R_flat_126 : decode b_R_flat 126 = .ok (.aload_n 0, 1) := by decide +kernel
theorem d_R_flat_127 : decode b_R_flat 127 = .ok (.getfield 88, 3) := by decide +kernel
theorem d_R_flat_130 : decode b_R_flat 130 = .ok (.imul, 1) := by decide +kernel
theorem d_R_flat_131 : decode b_R_flat 131 = .ok (.iload 4, 2) := by decide +kernel
theorem d_R_flat_133 : decode b_R_flat 133 = .ok (.iadd, 1) := by decide +kernel
theorem d_R_flat_134 : decode b_R_flat 134 = .ok (.iconst (-1), 1) := by decide +kernel
theorem d_R_flat_135 : decode b_R_flat 135 = .ok (.iastore, 1) := by decide +kernel
theorem d_R_flat_136 : decode b_R_flat 136 = .ok (.iinc 4 1, 3) := by decide +kernel
theorem d_R_flat_139 : decode b_R_flat 139 = .ok (.goto (-26), 3) := by decide +kernel
theorem d_R_flat_142 : decode b_R_flat 142 = .ok (.iconst 0, 1) := by decide +kernel
theorem d_R_flat_143 : decode b_R_flat 143 = .ok (.istore 4, 2) := by decide +kernel
theorem d_R_flat_145 : decode b_R_flat 145 = .ok (.iload 4, 2) := by decide +kernel
theorem d_R_flat_147 : decode b_R_flat 147 = .ok (.bipush 12, 2) := by decide +kernel
theorem d_R_flat_149 : decode b_R_flat 149 = .ok (.if_icmp .ge 26, 3) := by decide +kernel
theorem d_R_flat_152 : decode b_R_flat 152 = .ok (.aload_n 0, 1) := by decide +kernel
theorem d_R_flat_153 : decode b_R_flat 153 = .ok (.getfield 22, 3) := by decide +kernel
theorem d_R_flat_156 : decode b_R_flat 156 = .ok (.bipush 12, 2) := by decide +kernel
theorem d_R_flat_158 : decode b_R_flat 158 = .ok (.aload_n 0, 1) := by decide +kernel
theorem d_R_flat_159 : decode b_R_flat 159 = .ok (.getfield 88, 3) := by decide +kernel
theorem d_R_flat_162 : decode b_R_flat 162 = .ok (.imul, 1) := by decide +kernel
theorem d_R_flat_163 : decode b_R_flat 163 = .ok (.iload 4, 2) := by decide +kernel
theorem d_R_flat_165 : decode b_R_flat 165 = .ok (.iadd, 1) := by decide +kernel
theorem d_R_flat_166 : decode b_R_flat 166 = .ok (.bipush (-5), 2) := by decide +kernel
theorem d_R_flat_168 : decode b_R_flat 168 = .ok (.iastore, 1) := by decide +kernel
theorem d_R_flat_169 : decode b_R_flat 169 = .ok (.iinc 4 1, 3) := by decide +kernel
theorem d_R_flat_172 : decode b_R_flat 172 = .ok (.goto (-27), 3) := by decide +kernel
theorem d_R_flat_175 : decode b_R_flat 175 = .ok (.aload_n 0, 1) := by decide +kernel
theorem d_R_flat_176 : decode b_R_flat 176 = .ok (.dup, 1) := by decide +kernel
theorem d_R_flat_177 : decode b_R_flat 177 = .ok (.getfield 88, 3) := by decide +kernel
theorem d_R_flat_180 : decode b_R_flat 180 = .ok (.iconst 1, 1) := by decide +kernel
theorem d_R_flat_181 : decode b_R_flat 181 = .ok (.iadd, 1) := by decide +kernel
theorem d_R_flat_182 : decode b_R_flat 182 = .ok (.putfield 88, 3) := by decide +kernel
theorem d_R_flat_185 : decode b_R_flat 185 = .ok (.aload_n 0, 1) := by decide +kernel
theorem d_R_flat_186 : decode b_R_flat 186 = .ok (.iconst 0, 1) := by decide +kernel
theorem d_R_flat_187 : decode b_R_flat 187 = .ok (.putfield 98, 3) := by decide +kernel
theorem d_R_flat_190 : decode b_R_flat 190 = .ok (.aload_n 0, 1) := by decide +kernel
theorem d_R_flat_191 : decode b_R_flat 191 = .ok (.getfield 88, 3) := by decide +kernel
theorem d_R_flat_194 : decode b_R_flat 194 = .ok (.iconst 1, 1) := by decide +kernel
theorem d_R_flat_195 : decode b_R_flat 195 = .ok (.isub, 1) := by decide +kernel
theorem d_R_flat_196 : decode b_R_flat 196 = .ok (.ireturn, 1) := by decide +kernel
theorem d_R_reading_0 : decode b_R_reading 0 = .ok (.aload_n 0, 1) := by decide +kernel
theorem d_R_reading_1 : decode b_R_reading 1 = .ok (.aload_n 0, 1) := by decide +kernel
theorem d_R_reading_2 : decode b_R_reading 2 = .ok (.iload_n 1, 1) := by decide +kernel
theorem d_R_reading_3 : decode b_R_reading 3 = .ok (.invokevirtual 102, 3) := by decide +kernel
theorem d_R_reading_6 : decode b_R_reading 6 = .ok (.ifCond .eq 13, 3) := by decide +kernel
theorem d_R_reading_9 : decode b_R_reading 9 = .ok (.iload_n 2, 1) := by decide +kernel
theorem d_R_reading_10 : decode b_R_reading 10 = .ok (.iconst 0, 1) := by decide +kernel
theorem d_R_reading_11 : decode b_R_reading 11 = .ok (.bipush 12, 2) := by decide +kernel
theorem d_R_reading_13 : decode b_R_reading 13 = .ok (.invokestatic 94, 3) := by decide +kernel
theorem d_R_reading_16 : decode b_R_reading 16 = .ok (.ifCond .ne 7, 3) := by decide +kernel
theorem d_R_reading_19 : decode b_R_reading 19 = .ok (.iconst 1, 1) := by decide +kernel
theorem d_R_reading_20 : decode b_R_reading 20 = .ok (.goto 18, 3) := by decide +kernel
theorem d_R_reading_23 : decode b_R_reading 23 = .ok (.iload_n 3, 1) := by decide +kernel
theorem d_R_reading_24 : decode b_R_reading 24 = .ok (.iconst (-1), 1) := by decide +kernel
theorem d_R_reading_25 : decode b_R_reading 25 = .ok (.bipush 99, 2) := by decide +kernel
theorem d_R_reading_27 : decode b_R_reading 27 = .ok (.invokestatic 94, 3) := by decide +kernel
theorem d_R_reading_30 : decode b_R_reading 30 = .ok (.ifCond .ne 7, 3) := by decide +kernel
theorem d_R_reading_33 : decode b_R_reading 33 = .ok (.iconst 2, 1) := by decide +kernel
theorem d_R_reading_34 : decode b_R_reading 34 = .ok (.goto 4, 3) := by decide +kernel
theorem d_R_reading_37 : decode b_R_reading 37 = .ok (.iconst 0, 1) := by decide +kernel
theorem d_R_reading_38 : decode b_R_reading 38 = .ok (.putfield 85, 3) := by decide +kernel
theorem d_R_reading_41 : decode b_R_reading 41 = .ok (.aload_n 0, 1) := by decide +kernel
theorem d_R_reading_42 : decode b_R_reading 42 = .ok (.getfield 85, 3) := by decide +kernel
theorem d_R_reading_45 : decode b_R_reading 45 = .ok (.ifCond .ne 20, 3) := by decide +kernel
theorem d_R_reading_48 : decode b_R_reading 48 = .ok (.aload_n 0, 1) := by decide +kernel
theorem d_R_reading_49 : decode b_R_reading 49 = .ok (.getfield 19, 3) := by decide +kernel
theorem d_R_reading_52 : decode b_R_reading 52 = .ok (.bipush 13, 2) := by decide +kernel
theorem d_R_reading_54 : decode b_R_reading 54 = .ok (.iload_n 1, 1) := by decide +kernel
theorem d_R_reading_55 : decode b_R_reading 55 = .ok (.imul, 1) := by decide +kernel
theorem d_R_reading_56 : decode b_R_reading 56 = .ok (.iload_n 2, 1) := by decide +kernel
theorem d_R_reading_57 : decode b_R_reading 57 = .ok (.iadd, 1) := by decide +kernel
theorem d_R_reading_58 : decode b_R_reading 58 = .ok (.iload_n 3, 1) := by decide +kernel
theorem d_R_reading_59 : decode b_R_reading 59 = .ok (.iastore, 1) := by decide +kernel
theorem d_R_reading_60 : decode b_R_reading 60 = .ok (.aload_n 0, 1) := by decide +kernel
theorem d_R_reading_61 : decode b_R_reading 61 = .ok (.iconst 0, 1) := by decide +kernel
theorem d_R_reading_62 : decode b_R_reading 62 = .ok (.putfield 98, 3) := by decide +kernel
theorem d_R_reading_65 : decode b_R_reading 65 = .ok (.return_, 1) := by decide +kernel
theorem d_R_wrongChange_0 : decode b_R_wrongChange 0 = .ok (.aload_n 0, 1) := by decide +kernel
theorem d_R_wrongChange_1 : decode b_R_wrongChange 1 = .ok (.iload_n 1, 1) := by decide +kernel
theorem d_R_wrongChange_2 : decode b_R_wrongChange 2 = .ok (.invokevirtual 102, 3) := by decide +kernel
theorem d_R_wrongChange_5 : decode b_R_wrongChange 5 = .ok (.ifCond .eq 13, 3) := by decide +kernel
theorem d_R_wrongChange_8 : decode b_R_wrongChange 8 = .ok (.iload_n 2, 1) := by decide +kernel
theorem d_R_wrongChange_9 : decode b_R_wrongChange 9 = .ok (.iconst 0, 1) := by decide +kernel
theorem d_R_wrongChange_10 : decode b_R_wrongChange 10 = .ok (.bipush 11, 2) := by decide +kernel
theorem d_R_wrongChange_12 : decode b_R_wrongChange 12 = .ok (.invokestatic 94, 3) := by decide +kernel
theorem d_R_wrongChange_15 : decode b_R_wrongChange 15 = .ok (.ifCond .ne 7, 3) := by decide +kernel
theorem d_R_wrongChange_18 : decode b_R_wrongChange 18 = .ok (.iconst 1, 1) := by decide +kernel
theorem d_R_wrongChange_19 : decode b_R_wrongChange 19 = .ok (.goto 24, 3) := by decide +kernel
theorem d_R_wrongChange_22 : decode b_R_wrongChange 22 = .ok (.aload_n 0, 1) := by decide +kernel
theorem d_R_wrongChange_23 : decode b_R_wrongChange 23 = .ok (.getfield 22, 3) := by decide +kernel
theorem d_R_wrongChange_26 : decode b_R_wrongChange 26 = .ok (.bipush 12, 2) := by decide +kernel
theorem d_R_wrongChange_28 : decode b_R_wrongChange 28 = .ok (.iload_n 1, 1) := by decide +kernel
theorem d_R_wrongChange_29 : decode b_R_wrongChange 29 = .ok (.imul, 1) := by decide +kernel
theorem d_R_wrongChange_30 : decode b_R_wrongChange 30 = .ok (.iload_n 2, 1) := by decide +kernel
theorem d_R_wrongChange_31 : decode b_R_wrongChange 31 = .ok (.iadd, 1) := by decide +kernel
theorem d_R_wrongChange_32 : decode b_R_wrongChange 32 = .ok (.iaload, 1) := by decide +kernel
theorem d_R_wrongChange_33 : decode b_R_wrongChange 33 = .ok (.bipush (-5), 2) := by decide +kernel
theorem d_R_wrongChange_35 : decode b_R_wrongChange 35 = .ok (.if_icmp .eq 7, 3) := by decide +kernel
theorem d_R_wrongChange_38 : decode b_R_wrongChange 38 = .ok (.iconst 2, 1) := by decide +kernel
theorem d_R_wrongChange_39 : decode b_R_wrongChange 39 = .ok (.goto 4, 3) := by decide +kernel
theorem d_R_wrongChange_42 : decode b_R_wrongChange 42 = .ok (.iconst 0, 1) := by decide +kernel
theorem d_R_wrongChange_43 : decode b_R_wrongChange 43 = .ok (.ireturn, 1) := by decide +kernel
theorem d_R_enter_0 : decode b_R_enter 0 = .ok (.aload_n 0, 1) := by decide +kernel
theorem d_R_enter_1 : decode b_R_enter 1 = .ok (.aload_n 0, 1) := by decide +kernel
theorem d_R_enter_2 : decode b_R_enter 2 = .ok (.iload_n 1, 1) := by decide +kernel
theorem d_R_enter_3 : decode b_R_enter 3 = .ok (.iload_n 2, 1) := by decide +kernel
theorem d_R_enter_4 : decode b_R_enter 4 = .ok (.invokevirtual 106, 3) := by decide +kernel
theorem d_R_enter_7 : decode b_R_enter 7 = .ok (.putfield 85, 3) := by decide +kernel
theorem d_R_enter_10 : decode b_R_enter 10 = .ok (.aload_n 0, 1) := by decide +kernel
theorem d_R_enter_11 : decode b_R_enter 11 = .ok (.aload_n 0, 1) := by decide +kernel
theorem d_R_enter_12 : decode b_R_enter 12 = .ok (.getfield 85, 3) := by decide +kernel
theorem d_R_enter_15 : decode b_R_enter 15 = .ok (.ifCond .ne 16, 3) := by decide +kernel
theorem d_R_enter_18 : decode b_R_enter 18 = .ok (.aload_n 0, 1) := by decide +kernel
theorem d_R_enter_19 : decode b_R_enter 19 = .ok (.getfield 91, 3) := by decide +kernel
theorem d_R_enter_22 : decode b_R_enter 22 = .ok (.bipush 20, 2) := by decide +kernel
theorem d_R_enter_24 : decode b_R_enter 24 = .ok (.if_icmp .ne 7, 3) := by decide +kernel
theorem d_R_enter_27 : decode b_R_enter 27 = .ok (.iconst 3, 1) := by decide +kernel
theorem d_R_enter_28 : decode b_R_enter 28 = .ok (.goto 7, 3) := by decide +kernel
theorem d_R_enter_31 : decode b_R_enter 31 = .ok (.aload_n 0, 1) := by decide +kernel
theorem d_R_enter_32 : decode b_R_enter 32 = .ok (.getfield 85, 3) := by decide +kernel
theorem d_R_enter_35 : decode b_R_enter 35 = .ok (.putfield 85, 3) := by decide +kernel
theorem d_R_enter_38 : decode b_R_enter 38 = .ok (.aload_n 0, 1) := by decide +kernel
theorem d_R_enter_39 : decode b_R_enter 39 = .ok (.getfield 85, 3) := by decide +kernel
theorem d_R_enter_42 : decode b_R_enter 42 = .ok (.ifCond .le 5, 3) := by decide +kernel
theorem d_R_enter_45 : decode b_R_enter 45 = .ok (.iconst 0, 1) := by decide +kernel
theorem d_R_enter_46 : decode b_R_enter 46 = .ok (.ireturn, 1) := by decide +kernel
theorem d_R_enter_47 : decode b_R_enter 47 = .ok (.aload_n 0, 1) := by decide +kernel
theorem d_R_enter_48 : decode b_R_enter 48 = .ok (.getfield 22, 3) := by decide +kernel
theorem d_R_enter_51 : decode b_R_enter 51 = .ok (.bipush 12, 2) := by decide +kernel
theorem d_R_enter_53 : decode b_R_enter 53 = .ok (.iload_n 1, 1) := by decide +kernel
theorem d_R_enter_54 : decode b_R_enter 54 = .ok (.imul, 1) := by decide +kernel
theorem d_R_enter_55 : decode b_R_enter 55 = .ok (.iload_n 2, 1) := by decide +kernel
theorem d_R_enter_56 : decode b_R_enter 56 = .ok (.iadd, 1) := by decide +kernel
theorem d_R_enter_57 : decode b_R_enter 57 = .ok (.aload_n 0, 1) := by decide +kernel
theorem d_R_enter_58 : decode b_R_enter 58 = .ok (.getfield 91, 3) := by decide +kernel
theorem d_R_enter_61 : decode b_R_enter 61 = .ok (.iastore, 1) := by decide +kernel
theorem d_R_enter_62 : decode b_R_enter 62 = .ok (.aload_n 0, 1) := by decide +kernel
theorem d_R_enter_63 : decode b_R_enter 63 = .ok (.dup, 1) := by decide +kernel
theorem d_R_enter_64 : decode b_R_enter 64 = .ok (.getfield 91, 3) := by decide +kernel
theorem d_R_enter_67 : decode b_R_enter 67 = .ok (.iconst 1, 1) := by decide +kernel
theorem d_R_enter_68 : decode b_R_enter 68 = .ok (.iadd, 1) := by decide +kernel
theorem d_R_enter_69 : decode b_R_enter 69 = .ok (.putfield 91, 3) := by decide +kernel
theorem d_R_enter_72 : decode b_R_enter 72 = .ok (.aload_n 0, 1) := by decide +kernel
theorem d_R_enter_73 : decode b_R_enter 73 = .ok (.iconst 0, 1) := by decide +kernel
theorem d_R_enter_74 : decode b_R_enter 74 = .ok (.putfield 98, 3) := by decide +kernel
theorem d_R_enter_77 : decode b_R_enter 77 = .ok (.aload_n 0, 1) := by decide +kernel
theorem d_R_enter_78 : decode b_R_enter 78 = .ok (.getfield 91, 3) := by decide +kernel
theorem d_R_enter_81 : decode b_R_enter 81 = .ok (.iconst 1, 1) := by decide +kernel
theorem d_R_enter_82 : decode b_R_enter 82 = .ok (.isub, 1) := by decide +kernel
theorem d_R_enter_83 : decode b_R_enter 83 = .ok (.ireturn, 1) := by decide +kernel
theorem d_R_leave_0 : decode b_R_leave 0 = .ok (.aload_n 0, 1) := by decide +kernel
theorem d_R_leave_1 : decode b_R_leave 1 = .ok (.aload_n 0, 1) := by decide +kernel
theorem d_R_leave_2 : decode b_R_leave 2 = .ok (.iload_n 1, 1) := by decide +kernel
theorem d_R_leave_3 : decode b_R_leave 3 = .ok (.iload_n 2, 1) := by decide +kernel
theorem d_R_leave_4 : decode b_R_leave 4 = .ok (.invokevirtual 106, 3) := by decide +kernel
theorem d_R_leave_7 : decode b_R_leave 7 = .ok (.putfield 85, 3) := by decide +kernel
theorem d_R_leave_10 : decode b_R_leave 10 = .ok (.aload_n 0, 1) := by decide +kernel
theorem d_R_leave_11 : decode b_R_leave 11 = .ok (.getfield 85, 3) := by decide +kernel
theorem d_R_leave_14 : decode b_R_leave 14 = .ok (.ifCond .ne 20, 3) := by decide +kernel
theorem d_R_leave_17 : decode b_R_leave 17 = .ok (.aload_n 0, 1) := by decide +kernel
theorem d_R_leave_18 : decode b_R_leave 18 = .ok (.getfield 22, 3) := by decide +kernel
theorem d_R_leave_21 : decode b_R_leave 21 = .ok (.bipush 12, 2) := by decide +kernel
theorem d_R_leave_23 : decode b_R_leave 23 = .ok (.iload_n 1, 1) := by decide +kernel
theorem d_R_leave_24 : decode b_R_leave 24 = .ok (.imul, 1) := by decide +kernel
theorem d_R_leave_25 : decode b_R_leave 25 = .ok (.iload_n 2, 1) := by decide +kernel
theorem d_R_leave_26 : decode b_R_leave 26 = .ok (.iadd, 1) := by decide +kernel
theorem d_R_leave_27 : decode b_R_leave 27 = .ok (.iconst (-1), 1) := by decide +kernel
theorem d_R_leave_28 : decode b_R_leave 28 = .ok (.iastore, 1) := by decide +kernel
theorem d_R_leave_29 : decode b_R_leave 29 = .ok (.aload_n 0, 1) := by decide +kernel
theorem d_R_leave_30 : decode b_R_leave 30 = .ok (.iconst 0, 1) := by decide +kernel
theorem d_R_leave_31 : decode b_R_leave 31 = .ok (.putfield 98, 3) := by decide +kernel
theorem d_R_leave_34 : decode b_R_leave 34 = .ok (.return_, 1) := by decide +kernel
theorem d_R_deliver_0 : decode b_R_deliver 0 = .ok (.aload_n 0, 1) := by decide +kernel
theorem d_R_deliver_1 : decode b_R_deliver 1 = .ok (.iload_n 1, 1) := by decide +kernel
theorem d_R_deliver_2 : decode b_R_deliver 2 = .ok (.iconst 1, 1) := by decide +kernel
theorem d_R_deliver_3 : decode b_R_deliver 3 = .ok (.sipush 1000, 3) := by decide +kernel
theorem d_R_deliver_6 : decode b_R_deliver 6 = .ok (.invokestatic 94, 3) := by decide +kernel
theorem d_R_deliver_9 : decode b_R_deliver 9 = .ok (.ifCond .eq 14, 3) := by decide +kernel
theorem d_R_deliver_12 : decode b_R_deliver 12 = .ok (.iload_n 2, 1) := by decide +kernel
theorem d_R_deliver_13 : decode b_R_deliver 13 = .ok (.iconst 0, 1) := by decide +kernel
theorem d_R_deliver_14 : decode b_R_deliver 14 = .ok (.sipush 20000, 3) := by decide +kernel
theorem d_R_deliver_17 : decode b_R_deliver 17 = .ok (.invokestatic 94, 3) := by decide +kernel
theorem d_R_deliver_20 : decode b_R_deliver 20 = .ok (.ifCond .ne 7, 3) := by decide +kernel
theorem d_R_deliver_23 : decode b_R_deliver 23 = .ok (.iconst 1, 1) := by decide +kernel
theorem d_R_deliver_24 : decode b_R_deliver 24 = .ok (.goto 17, 3) := by decide +kernel
theorem d_R_deliver_27 : decode b_R_deliver 27 = .ok (.aload_n 0, 1) := by decide +kernel
theorem d_R_deliver_28 : decode b_R_deliver 28 = .ok (.getfield 110, 3) := by decide +kernel
theorem d_R_deliver_31 : decode b_R_deliver 31 = .ok (.bipush 12, 2) := by decide +kernel
theorem d_R_deliver_33 : decode b_R_deliver 33 = .ok (.if_icmp .ne 7, 3) := by decide +kernel
theorem d_R_deliver_36 : decode b_R_deliver 36 = .ok (.iconst 2, 1) := by decide +kernel
theorem d_R_deliver_37 : decode b_R_deliver 37 = .ok (.goto 4, 3) := by decide +kernel
theorem d_R_deliver_40 : decode b_R_deliver 40 = .ok (.iconst 0, 1) := by decide +kernel
theorem d_R_deliver_41 : decode b_R_deliver 41 = .ok (.putfield 85, 3) := by decide +kernel
theorem d_R_deliver_44 : decode b_R_deliver 44 = .ok (.aload_n 0, 1) := by decide +kernel
theorem d_R_deliver_45 : decode b_R_deliver 45 = .ok (.getfield 85, 3) := by decide +kernel
theorem d_R_deliver_48 : decode b_R_deliver 48 = .ok (.ifCond .ne 38, 3) := by decide +kernel
theorem d_R_deliver_51 : decode b_R_deliver 51 = .ok (.aload_n 0, 1) := by decide +kernel
theorem d_R_deliver_52 : decode b_R_deliver 52 = .ok (.getfield 31, 3) := by decide +kernel
theorem d_R_deliver_55 : decode b_R_deliver 55 = .ok (.aload_n 0, 1) := by decide +kernel
theorem d_R_deliver_56 : decode b_R_deliver 56 = .ok (.getfield 110, 3) := by decide +kernel
theorem d_R_deliver_59 : decode b_R_deliver 59 = .ok (.iload_n 1, 1) := by decide +kernel
theorem d_R_deliver_60 : decode b_R_deliver 60 = .ok (.iastore, 1) := by decide +kernel
theorem d_R_deliver_61 : decode b_R_deliver 61 = .ok (.aload_n 0, 1) := by decide +kernel
theorem d_R_deliver_62 : decode b_R_deliver 62 = .ok (.getfield 34, 3) := by decide +kernel
theorem d_R_deliver_65 : decode b_R_deliver 65 = .ok (.aload_n 0, 1) := by decide +kernel
theorem d_R_deliver_66 : decode b_R_deliver 66 = .ok (.getfield 110, 3) := by decide +kernel
theorem d_R_deliver_69 : decode b_R_deliver 69 = .ok (.iload_n 2, 1) := by decide +kernel
theorem d_R_deliver_70 : decode b_R_deliver 70 = .ok (.iastore, 1) := by decide +kernel
theorem d_R_deliver_71 : decode b_R_deliver 71 = .ok (.aload_n 0, 1) := by decide +kernel
theorem d_R_deliver_72 : decode b_R_deliver 72 = .ok (.dup, 1) := by decide +kernel
theorem d_R_deliver_73 : decode b_R_deliver 73 = .ok (.getfield 110, 3) := by decide +kernel
theorem d_R_deliver_76 : decode b_R_deliver 76 = .ok (.iconst 1, 1) := by decide +kernel
theorem d_R_deliver_77 : decode b_R_deliver 77 = .ok (.iadd, 1) := by decide +kernel
theorem d_R_deliver_78 : decode b_R_deliver 78 = .ok (.putfield 110, 3) := by decide +kernel
theorem d_R_deliver_81 : decode b_R_deliver 81 = .ok (.aload_n 0, 1) := by decide +kernel
theorem d_R_deliver_82 : decode b_R_deliver 82 = .ok (.iconst 0, 1) := by decide +kernel
theorem d_R_deliver_83 : decode b_R_deliver 83 = .ok (.putfield 98, 3) := by decide +kernel
theorem d_R_deliver_86 : decode b_R_deliver 86 = .ok (.return_, 1) := by decide +kernel
theorem d_R_allUnits_0 : decode b_R_allUnits 0 = .ok (.iconst 0, 1) := by decide +kernel
theorem d_R_allUnits_1 : decode b_R_allUnits 1 = .ok (.istore_n 1, 1) := by decide +kernel
theorem d_R_allUnits_2 : decode b_R_allUnits 2 = .ok (.iconst 0, 1) := by decide +kernel
theorem d_R_allUnits_3 : decode b_R_allUnits 3 = .ok (.istore_n 2, 1) := by decide +kernel
theorem d_R_allUnits_4 : decode b_R_allUnits 4 = .ok (.iload_n 2, 1) := by decide +kernel
theorem d_R_allUnits_5 : decode b_R_allUnits 5 = .ok (.aload_n 0, 1) := by decide +kernel
theorem d_R_allUnits_6 : decode b_R_allUnits 6 = .ok (.getfield 110, 3) := by decide +kernel
theorem d_R_allUnits_9 : decode b_R_allUnits 9 = .ok (.if_icmp .ge 18, 3) := by decide +kernel
theorem d_R_allUnits_12 : decode b_R_allUnits 12 = .ok (.iload_n 1, 1) := by decide +kernel
theorem d_R_allUnits_13 : decode b_R_allUnits 13 = .ok (.aload_n 0, 1) := by decide +kernel
theorem d_R_allUnits_14 : decode b_R_allUnits 14 = .ok (.getfield 31, 3) := by decide +kernel
theorem d_R_allUnits_17 : decode b_R_allUnits 17 = .ok (.iload_n 2, 1) := by decide +kernel
theorem d_R_allUnits_18 : decode b_R_allUnits 18 = .ok (.iaload, 1) := by decide +kernel
theorem d_R_allUnits_19 : decode b_R_allUnits 19 = .ok (.iadd, 1) := by decide +kernel
theorem d_R_allUnits_20 : decode b_R_allUnits 20 = .ok (.istore_n 1, 1) := by decide +kernel
theorem d_R_allUnits_21 : decode b_R_allUnits 21 = .ok (.iinc 2 1, 3) := by decide +kernel
theorem d_R_allUnits_24 : decode b_R_allUnits 24 = .ok (.goto (-20), 3) := by decide +kernel
theorem d_R_allUnits_27 : decode b_R_allUnits 27 = .ok (.iload_n 1, 1) := by decide +kernel
theorem d_R_allUnits_28 : decode b_R_allUnits 28 = .ok (.ireturn, 1) := by decide +kernel
theorem d_R_endStock_0 : decode b_R_endStock 0 = .ok (.aload_n 0, 1) := by decide +kernel
theorem d_R_endStock_1 : decode b_R_endStock 1 = .ok (.iload_n 1, 1) := by decide +kernel
theorem d_R_endStock_2 : decode b_R_endStock 2 = .ok (.iconst (-1), 1) := by decide +kernel
theorem d_R_endStock_3 : decode b_R_endStock 3 = .ok (.aload_n 0, 1) := by decide +kernel
theorem d_R_endStock_4 : decode b_R_endStock 4 = .ok (.invokevirtual 113, 3) := by decide +kernel
theorem d_R_endStock_7 : decode b_R_endStock 7 = .ok (.invokestatic 94, 3) := by decide +kernel
theorem d_R_endStock_10 : decode b_R_endStock 10 = .ok (.ifCond .eq 7, 3) := by decide +kernel
theorem d_R_endStock_13 : decode b_R_endStock 13 = .ok (.iconst 0, 1) := by decide +kernel
theorem d_R_endStock_14 : decode b_R_endStock 14 = .ok (.goto 4, 3) := by decide +kernel
theorem d_R_endStock_17 : decode b_R_endStock 17 = .ok (.iconst 1, 1) := by decide +kernel
theorem d_R_endStock_18 : decode b_R_endStock 18 = .ok (.putfield 85, 3) := by decide +kernel
theorem d_R_endStock_21 : decode b_R_endStock 21 = .ok (.aload_n 0, 1) := by decide +kernel
theorem d_R_endStock_22 : decode b_R_endStock 22 = .ok (.getfield 85, 3) := by decide +kernel
theorem d_R_endStock_25 : decode b_R_endStock 25 = .ok (.ifCond .ne 13, 3) := by decide +kernel
theorem d_R_endStock_28 : decode b_R_endStock 28 = .ok (.aload_n 0, 1) := by decide +kernel
theorem d_R_endStock_29 : decode b_R_endStock 29 = .ok (.iload_n 1, 1) := by decide +kernel
theorem d_R_endStock_30 : decode b_R_endStock 30 = .ok (.putfield 37, 3) := by decide +kernel
theorem d_R_endStock_33 : decode b_R_endStock 33 = .ok (.aload_n 0, 1) := by decide +kernel
theorem d_R_endStock_34 : decode b_R_endStock 34 = .ok (.iconst 0, 1) := by decide +kernel
theorem d_R_endStock_35 : decode b_R_endStock 35 = .ok (.putfield 98, 3) := by decide +kernel
theorem d_R_endStock_38 : decode b_R_endStock 38 = .ok (.return_, 1) := by decide +kernel
theorem d_R_sideCosts_0 : decode b_R_sideCosts 0 = .ok (.aload_n 0, 1) := by decide +kernel
theorem d_R_sideCosts_1 : decode b_R_sideCosts 1 = .ok (.iload_n 1, 1) := by decide +kernel
theorem d_R_sideCosts_2 : decode b_R_sideCosts 2 = .ok (.iconst 0, 1) := by decide +kernel
theorem d_R_sideCosts_3 : decode b_R_sideCosts 3 = .ok (.sipush 20000, 3) := by decide +kernel
theorem d_R_sideCosts_6 : decode b_R_sideCosts 6 = .ok (.invokestatic 94, 3) := by decide +kernel
theorem d_R_sideCosts_9 : decode b_R_sideCosts 9 = .ok (.ifCond .eq 7, 3) := by decide +kernel
theorem d_R_sideCosts_12 : decode b_R_sideCosts 12 = .ok (.iconst 0, 1) := by decide +kernel
theorem d_R_sideCosts_13 : decode b_R_sideCosts 13 = .ok (.goto 4, 3) := by decide +kernel
theorem d_R_sideCosts_16 : decode b_R_sideCosts 16 = .ok (.iconst 1, 1) := by decide +kernel
theorem d_R_sideCosts_17 : decode b_R_sideCosts 17 = .ok (.putfield 85, 3) := by decide +kernel
theorem d_R_sideCosts_20 : decode b_R_sideCosts 20 = .ok (.aload_n 0, 1) := by decide +kernel
theorem d_R_sideCosts_21 : decode b_R_sideCosts 21 = .ok (.getfield 85, 3) := by decide +kernel
theorem d_R_sideCosts_24 : decode b_R_sideCosts 24 = .ok (.ifCond .ne 13, 3) := by decide +kernel
theorem d_R_sideCosts_27 : decode b_R_sideCosts 27 = .ok (.aload_n 0, 1) := by decide +kernel
theorem d_R_sideCosts_28 : decode b_R_sideCosts 28 = .ok (.iload_n 1, 1) := by decide +kernel
theorem d_R_sideCosts_29 : decode b_R_sideCosts 29 = .ok (.putfield 117, 3) := by decide +kernel
theorem d_R_sideCosts_32 : decode b_R_sideCosts 32 = .ok (.aload_n 0, 1) := by decide +kernel
theorem d_R_sideCosts_33 : decode b_R_sideCosts 33 = .ok (.iconst 0, 1) := by decide +kernel
theorem d_R_sideCosts_34 : decode b_R_sideCosts 34 = .ok (.putfield 98, 3) := by decide +kernel
theorem d_R_sideCosts_37 : decode b_R_sideCosts 37 = .ok (.return_, 1) := by decide +kernel
theorem d_R_water_0 : decode b_R_water 0 = .ok (.aload_n 0, 1) := by decide +kernel
theorem d_R_water_1 : decode b_R_water 1 = .ok (.iload_n 1, 1) := by decide +kernel
theorem d_R_water_2 : decode b_R_water 2 = .ok (.iconst (-1), 1) := by decide +kernel
theorem d_R_water_3 : decode b_R_water 3 = .ok (.ldc 120, 2) := by decide +kernel
theorem d_R_water_5 : decode b_R_water 5 = .ok (.invokestatic 94, 3) := by decide +kernel
theorem d_R_water_8 : decode b_R_water 8 = .ok (.ifCond .eq 17, 3) := by decide +kernel
theorem d_R_water_11 : decode b_R_water 11 = .ok (.iload_n 2, 1) := by decide +kernel
theorem d_R_water_12 : decode b_R_water 12 = .ok (.iconst 0, 1) := by decide +kernel
theorem d_R_water_13 : decode b_R_water 13 = .ok (.bipush 100, 2) := by decide +kernel
theorem d_R_water_15 : decode b_R_water 15 = .ok (.invokestatic 94, 3) := by decide +kernel
theorem d_R_water_18 : decode b_R_water 18 = .ok (.ifCond .eq 7, 3) := by decide +kernel
theorem d_R_water_21 : decode b_R_water 21 = .ok (.iconst 0, 1) := by decide +kernel
theorem d_R_water_22 : decode b_R_water 22 = .ok (.goto 4, 3) := by decide +kernel
theorem d_R_water_25 : decode b_R_water 25 = .ok (.iconst 1, 1) := by decide +kernel
theorem d_R_water_26 : decode b_R_water 26 = .ok (.putfield 85, 3) := by decide +kernel
theorem d_R_water_29 : decode b_R_water 29 = .ok (.aload_n 0, 1) := by decide +kernel
theorem d_R_water_30 : decode b_R_water 30 = .ok (.getfield 85, 3) := by decide +kernel
theorem d_R_water_33 : decode b_R_water 33 = .ok (.ifCond .ne 18, 3) := by decide +kernel
theorem d_R_water_36 : decode b_R_water 36 = .ok (.aload_n 0, 1) := by decide +kernel
theorem d_R_water_37 : decode b_R_water 37 = .ok (.iload_n 1, 1) := by decide +kernel
theorem d_R_water_38 : decode b_R_water 38 = .ok (.putfield 41, 3) := by decide +kernel
theorem d_R_water_41 : decode b_R_water 41 = .ok (.aload_n 0, 1) := by decide +kernel
theorem d_R_water_42 : decode b_R_water 42 = .ok (.iload_n 2, 1) := by decide +kernel
theorem d_R_water_43 : decode b_R_water 43 = .ok (.putfield 121, 3) := by decide +kernel
theorem d_R_water_46 : decode b_R_water 46 = .ok (.aload_n 0, 1) := by decide +kernel
theorem d_R_water_47 : decode b_R_water 47 = .ok (.iconst 0, 1) := by decide +kernel
theorem d_R_water_48 : decode b_R_water 48 = .ok (.putfield 98, 3) := by decide +kernel
theorem d_R_water_51 : decode b_R_water 51 = .ok (.return_, 1) := by decide +kernel
theorem d_R_permille_0 : decode b_R_permille 0 = .ok (.aload_n 0, 1) := by decide +kernel
theorem d_R_permille_1 : decode b_R_permille 1 = .ok (.iload_n 1, 1) := by decide +kernel
theorem d_R_permille_2 : decode b_R_permille 2 = .ok (.sipush 300, 3) := by decide +kernel
theorem d_R_permille_5 : decode b_R_permille 5 = .ok (.sipush 700, 3) := by decide +kernel
theorem d_R_permille_8 : decode b_R_permille 8 = .ok (.invokestatic 94, 3) := by decide +kernel
theorem d_R_permille_11 : decode b_R_permille 11 = .ok (.ifCond .eq 7, 3) := by decide +kernel
theorem d_R_permille_14 : decode b_R_permille 14 = .ok (.iconst 0, 1) := by decide +kernel
theorem d_R_permille_15 : decode b_R_permille 15 = .ok (.goto 4, 3) := by decide +kernel
theorem d_R_permille_18 : decode b_R_permille 18 = .ok (.iconst 1, 1) := by decide +kernel
theorem d_R_permille_19 : decode b_R_permille 19 = .ok (.putfield 85, 3) := by decide +kernel
theorem d_R_permille_22 : decode b_R_permille 22 = .ok (.aload_n 0, 1) := by decide +kernel
theorem d_R_permille_23 : decode b_R_permille 23 = .ok (.getfield 85, 3) := by decide +kernel
theorem d_R_permille_26 : decode b_R_permille 26 = .ok (.ifCond .ne 13, 3) := by decide +kernel
theorem d_R_permille_29 : decode b_R_permille 29 = .ok (.aload_n 0, 1) := by decide +kernel
theorem d_R_permille_30 : decode b_R_permille 30 = .ok (.iload_n 1, 1) := by decide +kernel
theorem d_R_permille_31 : decode b_R_permille 31 = .ok (.putfield 44, 3) := by decide +kernel
theorem d_R_permille_34 : decode b_R_permille 34 = .ok (.aload_n 0, 1) := by decide +kernel
theorem d_R_permille_35 : decode b_R_permille 35 = .ok (.iconst 0, 1) := by decide +kernel
theorem d_R_permille_36 : decode b_R_permille 36 = .ok (.putfield 98, 3) := by decide +kernel
theorem d_R_permille_39 : decode b_R_permille 39 = .ok (.return_, 1) := by decide +kernel
theorem d_R_degrees_0 : decode b_R_degrees 0 = .ok (.aload_n 0, 1) := by decide +kernel
theorem d_R_degrees_1 : decode b_R_degrees 1 = .ok (.iload_n 1, 1) := by decide +kernel
theorem d_R_degrees_2 : decode b_R_degrees 2 = .ok (.iconst 0, 1) := by decide +kernel
theorem d_R_degrees_3 : decode b_R_degrees 3 = .ok (.bipush 11, 2) := by decide +kernel
theorem d_R_degrees_5 : decode b_R_degrees 5 = .ok (.invokestatic 94, 3) := by decide +kernel
theorem d_R_degrees_8 : decode b_R_degrees 8 = .ok (.ifCond .ne 7, 3) := by decide +kernel
theorem d_R_degrees_11 : decode b_R_degrees 11 = .ok (.iconst 1, 1) := by decide +kernel
theorem d_R_degrees_12 : decode b_R_degrees 12 = .ok (.goto 18, 3) := by decide +kernel
theorem d_R_degrees_15 : decode b_R_degrees 15 = .ok (.iload_n 2, 1) := by decide +kernel
theorem d_R_degrees_16 : decode b_R_degrees 16 = .ok (.iconst 0, 1) := by decide +kernel
theorem d_R_degrees_17 : decode b_R_degrees 17 = .ok (.bipush 100, 2) := by decide +kernel
theorem d_R_degrees_19 : decode b_R_degrees 19 = .ok (.invokestatic 94, 3) := by decide +kernel
theorem d_R_degrees_22 : decode b_R_degrees 22 = .ok (.ifCond .ne 7, 3) := by decide +kernel
theorem d_R_degrees_25 : decode b_R_degrees 25 = .ok (.iconst 2, 1) := by decide +kernel
theorem d_R_degrees_26 : decode b_R_degrees 26 = .ok (.goto 4, 3) := by decide +kernel
theorem d_R_degrees_29 : decode b_R_degrees 29 = .ok (.iconst 0, 1) := by decide +kernel
theorem d_R_degrees_30 : decode b_R_degrees 30 = .ok (.putfield 85, 3) := by decide +kernel
theorem d_R_degrees_33 : decode b_R_degrees 33 = .ok (.aload_n 0, 1) := by decide +kernel
theorem d_R_degrees_34 : decode b_R_degrees 34 = .ok (.getfield 85, 3) := by decide +kernel
theorem d_R_degrees_37 : decode b_R_degrees 37 = .ok (.ifCond .ne 15, 3) := by decide +kernel
theorem d_R_degrees_40 : decode b_R_degrees 40 = .ok (.aload_n 0, 1) := by decide +kernel
theorem d_R_degrees_41 : decode b_R_degrees 41 = .ok (.getfield 47, 3) := by decide +kernel
theorem d_R_degrees_44 : decode b_R_degrees 44 = .ok (.iload_n 1, 1) := by decide +kernel
theorem d_R_degrees_45 : decode b_R_degrees 45 = .ok (.iload_n 2, 1) := by decide +kernel
theorem d_R_degrees_46 : decode b_R_degrees 46 = .ok (.iastore, 1) := by decide +kernel
theorem d_R_degrees_47 : decode b_R_degrees 47 = .ok (.aload_n 0, 1) := by decide +kernel
theorem d_R_degrees_48 : decode b_R_degrees 48 = .ok (.iconst 0, 1) := by decide +kernel
theorem d_R_degrees_49 : decode b_R_degrees 49 = .ok (.putfield 98, 3) := by decide +kernel
theorem d_R_degrees_52 : decode b_R_degrees 52 = .ok (.return_, 1) := by decide +kernel
theorem d_R_prepay_0 : decode b_R_prepay 0 = .ok (.aload_n 0, 1) := by decide +kernel
theorem d_R_prepay_1 : decode b_R_prepay 1 = .ok (.aload_n 0, 1) := by decide +kernel
theorem d_R_prepay_2 : decode b_R_prepay 2 = .ok (.iload_n 1, 1) := by decide +kernel
theorem d_R_prepay_3 : decode b_R_prepay 3 = .ok (.invokevirtual 124, 3) := by decide +kernel
theorem d_R_prepay_6 : decode b_R_prepay 6 = .ok (.ifCond .ne 7, 3) := by decide +kernel
theorem d_R_prepay_9 : decode b_R_prepay 9 = .ok (.iconst 1, 1) := by decide +kernel
theorem d_R_prepay_10 : decode b_R_prepay 10 = .ok (.goto 32, 3) := by decide +kernel
theorem d_R_prepay_13 : decode b_R_prepay 13 = .ok (.iload_n 2, 1) := by decide +kernel
theorem d_R_prepay_14 : decode b_R_prepay 14 = .ok (.iconst 0, 1) := by decide +kernel
theorem d_R_prepay_15 : decode b_R_prepay 15 = .ok (.sipush 20000, 3) := by decide +kernel
theorem d_R_prepay_18 : decode b_R_prepay 18 = .ok (.invokestatic 94, 3) := by decide +kernel
theorem d_R_prepay_21 : decode b_R_prepay 21 = .ok (.ifCond .eq 16, 3) := by decide +kernel
theorem d_R_prepay_24 : decode b_R_prepay 24 = .ok (.aload_n 0, 1) := by decide +kernel
theorem d_R_prepay_25 : decode b_R_prepay 25 = .ok (.getfield 56, 3) := by decide +kernel
theorem d_R_prepay_28 : decode b_R_prepay 28 = .ok (.iload_n 1, 1) := by decide +kernel
theorem d_R_prepay_29 : decode b_R_prepay 29 = .ok (.iaload, 1) := by decide +kernel
theorem d_R_prepay_30 : decode b_R_prepay 30 = .ok (.iload_n 2, 1) := by decide +kernel
theorem d_R_prepay_31 : decode b_R_prepay 31 = .ok (.iadd, 1) := by decide +kernel
theorem d_R_prepay_32 : decode b_R_prepay 32 = .ok (.ldc 127, 2) := by decide +kernel
theorem d_R_prepay_34 : decode b_R_prepay 34 = .ok (.if_icmp .le 7, 3) := by decide +kernel
theorem d_R_prepay_37 : decode b_R_prepay 37 = .ok (.iconst 2, 1) := by decide +kernel
theorem d_R_prepay_38 : decode b_R_prepay 38 = .ok (.goto 4, 3) := by decide +kernel
theorem d_R_prepay_41 : decode b_R_prepay 41 = .ok (.iconst 0, 1) := by decide +kernel
theorem d_R_prepay_42 : decode b_R_prepay 42 = .ok (.putfield 85, 3) := by decide +kernel
theorem d_R_prepay_45 : decode b_R_prepay 45 = .ok (.aload_n 0, 1) := by decide +kernel
theorem d_R_prepay_46 : decode b_R_prepay 46 = .ok (.getfield 85, 3) := by decide +kernel
theorem d_R_prepay_49 : decode b_R_prepay 49 = .ok (.ifCond .ne 17, 3) := by decide +kernel
theorem d_R_prepay_52 : decode b_R_prepay 52 = .ok (.aload_n 0, 1) := by decide +kernel
theorem d_R_prepay_53 : decode b_R_prepay 53 = .ok (.getfield 56, 3) := by decide +kernel
theorem d_R_prepay_56 : decode b_R_prepay 56 = .ok (.iload_n 1, 1) := by decide +kernel
theorem d_R_prepay_57 : decode b_R_prepay 57 = .ok (.aload_n 0, 1) := by decide +kernel
theorem d_R_prepay_58 : decode b_R_prepay 58 = .ok (.getfield 56, 3) := by decide +kernel
theorem d_R_prepay_61 : decode b_R_prepay 61 = .ok (.iload_n 1, 1) := by decide +kernel
theorem d_R_prepay_62 : decode b_R_prepay 62 = .ok (.iaload, 1) := by decide +kernel
theorem d_R_prepay_63 : decode b_R_prepay 63 = .ok (.iload_n 2, 1) := by decide +kernel
theorem d_R_prepay_64 : decode b_R_prepay 64 = .ok (.iadd, 1) := by decide +kernel
theorem d_R_prepay_65 : decode b_R_prepay 65 = .ok (.iastore, 1) := by decide +kernel
theorem d_R_prepay_66 : decode b_R_prepay 66 = .ok (.return_, 1) := by decide +kernel
theorem d_R_paid_0 : decode b_R_paid 0 = .ok (.aload_n 0, 1) := by decide +kernel
theorem d_R_paid_1 : decode b_R_paid 1 = .ok (.aload_n 0, 1) := by decide +kernel
theorem d_R_paid_2 : decode b_R_paid 2 = .ok (.iload_n 1, 1) := by decide +kernel
theorem d_R_paid_3 : decode b_R_paid 3 = .ok (.invokevirtual 124, 3) := by decide +kernel
theorem d_R_paid_6 : decode b_R_paid 6 = .ok (.ifCond .eq 7, 3) := by decide +kernel
theorem d_R_paid_9 : decode b_R_paid 9 = .ok (.iconst 0, 1) := by decide +kernel
theorem d_R_paid_10 : decode b_R_paid 10 = .ok (.goto 4, 3) := by decide +kernel
theorem d_R_paid_13 : decode b_R_paid 13 = .ok (.iconst 1, 1) := by decide +kernel
theorem d_R_paid_14 : decode b_R_paid 14 = .ok (.putfield 85, 3) := by decide +kernel
theorem d_R_paid_17 : decode b_R_paid 17 = .ok (.aload_n 0, 1) := by decide +kernel
theorem d_R_paid_18 : decode b_R_paid 18 = .ok (.getfield 85, 3) := by decide +kernel
theorem d_R_paid_21 : decode b_R_paid 21 = .ok (.ifCond .le 7, 3) := by decide +kernel
theorem d_R_paid_24 : decode b_R_paid 24 = .ok (.iconst 0, 1) := by decide +kernel
theorem d_R_paid_25 : decode b_R_paid 25 = .ok (.goto 9, 3) := by decide +kernel
theorem d_R_paid_28 : decode b_R_paid 28 = .ok (.aload_n 0, 1) := by decide +kernel
theorem d_R_paid_29 : decode b_R_paid 29 = .ok (.getfield 56, 3) := by decide +kernel
theorem d_R_paid_32 : decode b_R_paid 32 = .ok (.iload_n 1, 1) := by decide +kernel
theorem d_R_paid_33 : decode b_R_paid 33 = .ok (.iaload, 1) := by decide +kernel
theorem d_R_paid_34 : decode b_R_paid 34 = .ok (.ireturn, 1) := by decide +kernel
theorem d_R_isRead_0 : decode b_R_isRead 0 = .ok (.aload_n 0, 1) := by decide +kernel
theorem d_R_isRead_1 : decode b_R_isRead 1 = .ok (.getfield 19, 3) := by decide +kernel
theorem d_R_isRead_4 : decode b_R_isRead 4 = .ok (.bipush 13, 2) := by decide +kernel
theorem d_R_isRead_6 : decode b_R_isRead 6 = .ok (.iload_n 1, 1) := by decide +kernel
theorem d_R_isRead_7 : decode b_R_isRead 7 = .ok (.imul, 1) := by decide +kernel
theorem d_R_isRead_8 : decode b_R_isRead 8 = .ok (.iaload, 1) := by decide +kernel
theorem d_R_isRead_9 : decode b_R_isRead 9 = .ok (.istore_n 2, 1) := by decide +kernel
theorem d_R_isRead_10 : decode b_R_isRead 10 = .ok (.iload_n 2, 1) := by decide +kernel
theorem d_R_isRead_11 : decode b_R_isRead 11 = .ok (.ifCond .lt 22, 3) := by decide +kernel
theorem d_R_isRead_14 : decode b_R_isRead 14 = .ok (.aload_n 0, 1) := by decide +kernel
theorem d_R_isRead_15 : decode b_R_isRead 15 = .ok (.getfield 19, 3) := by decide +kernel
theorem d_R_isRead_18 : decode b_R_isRead 18 = .ok (.bipush 13, 2) := by decide +kernel
theorem d_R_isRead_20 : decode b_R_isRead 20 = .ok (.iload_n 1, 1) := by decide +kernel
theorem d_R_isRead_21 : decode b_R_isRead 21 = .ok (.imul, 1) := by decide +kernel
theorem d_R_isRead_22 : decode b_R_isRead 22 = .ok (.bipush 12, 2) := by decide +kernel
theorem d_R_isRead_24 : decode b_R_isRead 24 = .ok (.iadd, 1) := by decide +kernel
theorem d_R_isRead_25 : decode b_R_isRead 25 = .ok (.iaload, 1) := by decide +kernel
theorem d_R_isRead_26 : decode b_R_isRead 26 = .ok (.ifCond .lt 7, 3) := by decide +kernel
theorem d_R_isRead_29 : decode b_R_isRead 29 = .ok (.iconst 1, 1) := by decide +kernel
theorem d_R_isRead_30 : decode b_R_isRead 30 = .ok (.goto 4, 3) := by decide +kernel
theorem d_R_isRead_33 : decode b_R_isRead 33 = .ok (.iconst 0, 1) := by decide +kernel
theorem d_R_isRead_34 : decode b_R_isRead 34 = .ok (.istore_n 3, 1) := by decide +kernel
theorem d_R_isRead_35 : decode b_R_isRead 35 = .ok (.iconst 1, 1) := by decide +kernel
theorem d_R_isRead_36 : decode b_R_isRead 36 = .ok (.istore 4, 2) := by decide +kernel
theorem d_R_isRead_38 : decode b_R_isRead 38 = .ok (.iload 4, 2) := by decide +kernel
theorem d_R_isRead_40 : decode b_R_isRead 40 = .ok (.bipush 13, 2) := by decide +kernel
theorem d_R_isRead_42 : decode b_R_isRead 42 = .ok (.if_icmp .ge 56, 3) := by decide +kernel
theorem d_R_isRead_45 : decode b_R_isRead 45 = .ok (.aload_n 0, 1) := by decide +kernel
theorem d_R_isRead_46 : decode b_R_isRead 46 = .ok (.getfield 19, 3) := by decide +kernel
theorem d_R_isRead_49 : decode b_R_isRead 49 = .ok (.bipush 13, 2) := by decide +kernel
theorem d_R_isRead_51 : decode b_R_isRead 51 = .ok (.iload_n 1, 1) := by decide +kernel
theorem d_R_isRead_52 : decode b_R_isRead 52 = .ok (.imul, 1) := by decide +kernel
theorem d_R_isRead_53 : decode b_R_isRead 53 = .ok (.iload 4, 2) := by decide +kernel
theorem d_R_isRead_55 : decode b_R_isRead 55 = .ok (.iadd, 1) := by decide +kernel
theorem d_R_isRead_56 : decode b_R_isRead 56 = .ok (.iaload, 1) := by decide +kernel
theorem d_R_isRead_57 : decode b_R_isRead 57 = .ok (.istore 5, 2) := by decide +kernel
theorem d_R_isRead_59 : decode b_R_isRead 59 = .ok (.iload_n 3, 1) := by decide +kernel
theorem d_R_isRead_60 : decode b_R_isRead 60 = .ok (.ifCond .eq 18, 3) := by decide +kernel
theorem d_R_isRead_63 : decode b_R_isRead 63 = .ok (.iload 5, 2) := by decide +kernel
theorem d_R_isRead_65 : decode b_R_isRead 65 = .ok (.ifCond .lt 9, 3) := by decide +kernel
theorem d_R_isRead_68 : decode b_R_isRead 68 = .ok (.iload 5, 2) := by decide +kernel
theorem d_R_isRead_70 : decode b_R_isRead 70 = .ok (.iload_n 2, 1) := by decide +kernel
theorem d_R_isRead_71 : decode b_R_isRead 71 = .ok (.if_icmp .lt 7, 3) := by decide +kernel
theorem d_R_isRead_74 : decode b_R_isRead 74 = .ok (.iconst 1, 1) := by decide +kernel
theorem d_R_isRead_75 : decode b_R_isRead 75 = .ok (.goto 4, 3) := by decide +kernel
theorem d_R_isRead_78 : decode b_R_isRead 78 = .ok (.iconst 0, 1) := by decide +kernel
theorem d_R_isRead_79 : decode b_R_isRead 79 = .ok (.istore_n 3, 1) := by decide +kernel
theorem d_R_isRead_80 : decode b_R_isRead 80 = .ok (.iload 5, 2) := by decide +kernel
theorem d_R_isRead_82 : decode b_R_isRead 82 = .ok (.ifCond .ge 7, 3) := by decide +kernel
theorem d_R_isRead_85 : decode b_R_isRead 85 = .ok (.iload_n 2, 1) := by decide +kernel
theorem d_R_isRead_86 : decode b_R_isRead 86 = .ok (.goto 5, 3) := by decide +kernel
theorem d_R_isRead_89 : decode b_R_isRead 89 = .ok (.iload 5, 2) := by decide +kernel
theorem d_R_isRead_91 : decode b_R_isRead 91 = .ok (.istore_n 2, 1) := by decide +kernel
theorem d_R_isRead_92 : decode b_R_isRead 92 = .ok (.iinc 4 1, 3) := by decide +kernel
theorem d_R_isRead_95 : decode b_R_isRead 95 = .ok (.goto (-57), 3) := by decide +kernel
theorem d_R_isRead_98 : decode b_R_isRead 98 = .ok (.iload_n 3, 1) := by decide +kernel
theorem d_R_isRead_99 : decode b_R_isRead 99 = .ok (.ireturn, 1) := by decide +kernel
theorem d_R_measured_0 : decode b_R_measured 0 = .ok (.aload_n 0, 1) := by decide +kernel
theorem d_R_measured_1 : decode b_R_measured 1 = .ok (.getfield 16, 3) := by decide +kernel
theorem d_R_measured_4 : decode b_R_measured 4 = .ok (.iload_n 1, 1) := by decide +kernel
theorem d_R_measured_5 : decode b_R_measured 5 = .ok (.iaload, 1) := by decide +kernel
theorem d_R_measured_6 : decode b_R_measured 6 = .ok (.aload_n 0, 1) := by decide +kernel
theorem d_R_measured_7 : decode b_R_measured 7 = .ok (.getfield 19, 3) := by decide +kernel
theorem d_R_measured_10 : decode b_R_measured 10 = .ok (.bipush 13, 2) := by decide +kernel
theorem d_R_measured_12 : decode b_R_measured 12 = .ok (.iload_n 1, 1) := by decide +kernel
theorem d_R_measured_13 : decode b_R_measured 13 = .ok (.imul, 1) := by decide +kernel
theorem d_R_measured_14 : decode b_R_measured 14 = .ok (.bipush 12, 2) := by decide +kernel
theorem d_R_measured_16 : decode b_R_measured 16 = .ok (.iadd, 1) := by decide +kernel
theorem d_R_measured_17 : decode b_R_measured 17 = .ok (.iaload, 1) := by decide +kernel
theorem d_R_measured_18 : decode b_R_measured 18 = .ok (.aload_n 0, 1) := by decide +kernel
theorem d_R_measured_19 : decode b_R_measured 19 = .ok (.getfield 19, 3) := by decide +kernel
theorem d_R_measured_22 : decode b_R_measured 22 = .ok (.bipush 13, 2) := by decide +kernel
theorem d_R_measured_24 : decode b_R_measured 24 = .ok (.iload_n 1, 1) := by decide +kernel
theorem d_R_measured_25 : decode b_R_measured 25 = .ok (.imul, 1) := by decide +kernel
theorem d_R_measured_26 : decode b_R_measured 26 = .ok (.iaload, 1) := by decide +kernel
theorem d_R_measured_27 : decode b_R_measured 27 = .ok (.isub, 1) := by decide +kernel
theorem d_R_measured_28 : decode b_R_measured 28 = .ok (.imul, 1) := by decide +kernel
theorem d_R_measured_29 : decode b_R_measured 29 = .ok (.ireturn, 1) := by decide +kernel
theorem d_R_kindOf_0 : decode b_R_kindOf 0 = .ok (.aload_n 0, 1) := by decide +kernel
theorem d_R_kindOf_1 : decode b_R_kindOf 1 = .ok (.iload_n 1, 1) := by decide +kernel
theorem d_R_kindOf_2 : decode b_R_kindOf 2 = .ok (.invokevirtual 128, 3) := by decide +kernel
theorem d_R_kindOf_5 : decode b_R_kindOf 5 = .ok (.ifCond .eq 5, 3) := by decide +kernel
theorem d_R_kindOf_8 : decode b_R_kindOf 8 = .ok (.iconst 0, 1) := by decide +kernel
theorem d_R_kindOf_9 : decode b_R_kindOf 9 = .ok (.ireturn, 1) := by decide +kernel
theorem d_R_kindOf_10 : decode b_R_kindOf 10 = .ok (.aload_n 0, 1) := by decide +kernel
theorem d_R_kindOf_11 : decode b_R_kindOf 11 = .ok (.getfield 28, 3) := by decide +kernel
theorem d_R_kindOf_14 : decode b_R_kindOf 14 = .ok (.iload_n 1, 1) := by decide +kernel
theorem d_R_kindOf_15 : decode b_R_kindOf 15 = .ok (.iaload, 1) := by decide +kernel
theorem d_R_kindOf_16 : decode b_R_kindOf 16 = .ok (.ifCond .lt 21, 3) := by decide +kernel
theorem d_R_kindOf_19 : decode b_R_kindOf 19 = .ok (.aload_n 0, 1) := by decide +kernel
theorem d_R_kindOf_20 : decode b_R_kindOf 20 = .ok (.getfield 131, 3) := by decide +kernel
theorem d_R_kindOf_23 : decode b_R_kindOf 23 = .ok (.ifCond .le 14, 3) := by decide +kernel
theorem d_R_kindOf_26 : decode b_R_kindOf 26 = .ok (.aload_n 0, 1) := by decide +kernel
theorem d_R_kindOf_27 : decode b_R_kindOf 27 = .ok (.getfield 134, 3) := by decide +kernel
theorem d_R_kindOf_30 : decode b_R_kindOf 30 = .ok (.ifCond .le 7, 3) := by decide +kernel
theorem d_R_kindOf_33 : decode b_R_kindOf 33 = .ok (.iconst 1, 1) := by decide +kernel
theorem d_R_kindOf_34 : decode b_R_kindOf 34 = .ok (.goto 4, 3) := by decide +kernel
theorem d_R_kindOf_37 : decode b_R_kindOf 37 = .ok (.iconst 0, 1) := by decide +kernel
theorem d_R_kindOf_38 : decode b_R_kindOf 38 = .ok (.istore_n 2, 1) := by decide +kernel
theorem d_R_kindOf_39 : decode b_R_kindOf 39 = .ok (.iload_n 2, 1) := by decide +kernel
theorem d_R_kindOf_40 : decode b_R_kindOf 40 = .ok (.ifCond .eq 7, 3) := by decide +kernel
theorem d_R_kindOf_43 : decode b_R_kindOf 43 = .ok (.iconst 1, 1) := by decide +kernel
theorem d_R_kindOf_44 : decode b_R_kindOf 44 = .ok (.goto 15, 3) := by decide +kernel
theorem d_R_kindOf_47 : decode b_R_kindOf 47 = .ok (.aload_n 0, 1) := by decide +kernel
theorem d_R_kindOf_48 : decode b_R_kindOf 48 = .ok (.getfield 137, 3) := by decide +kernel
theorem d_R_kindOf_51 : decode b_R_kindOf 51 = .ok (.ifCond .le 7, 3) := by decide +kernel
theorem d_R_kindOf_54 : decode b_R_kindOf 54 = .ok (.iconst 2, 1) := by decide +kernel
theorem d_R_kindOf_55 : decode b_R_kindOf 55 = .ok (.goto 4, 3) := by decide +kernel
theorem d_R_kindOf_58 : decode b_R_kindOf 58 = .ok (.iconst 3, 1) := by decide +kernel
theorem d_R_kindOf_59 : decode b_R_kindOf 59 = .ok (.ireturn, 1) := by decide +kernel
theorem d_R_look_0 : decode b_R_look 0 = .ok (.aload_n 0, 1) := by decide +kernel
theorem d_R_look_1 : decode b_R_look 1 = .ok (.iconst 0, 1) := by decide +kernel
theorem d_R_look_2 : decode b_R_look 2 = .ok (.putfield 140, 3) := by decide +kernel
theorem d_R_look_5 : decode b_R_look 5 = .ok (.aload_n 0, 1) := by decide +kernel
theorem d_R_look_6 : decode b_R_look 6 = .ok (.iconst 0, 1) := by decide +kernel
theorem d_R_look_7 : decode b_R_look 7 = .ok (.putfield 143, 3) := by decide +kernel
theorem d_R_look_10 : decode b_R_look 10 = .ok (.aload_n 0, 1) := by decide +kernel
theorem d_R_look_11 : decode b_R_look 11 = .ok (.iconst 0, 1) := by decide +kernel
theorem d_R_look_12 : decode b_R_look 12 = .ok (.putfield 137, 3) := by decide +kernel
theorem d_R_look_15 : decode b_R_look 15 = .ok (.aload_n 0, 1) := by decide +kernel
theorem d_R_look_16 : decode b_R_look 16 = .ok (.iconst 0, 1) := by decide +kernel
theorem d_R_look_17 : decode b_R_look 17 = .ok (.putfield 131, 3) := by decide +kernel
theorem d_R_look_20 : decode b_R_look 20 = .ok (.aload_n 0, 1) := by decide +kernel
theorem d_R_look_21 : decode b_R_look 21 = .ok (.iconst 0, 1) := by decide +kernel
theorem d_R_look_22 : decode b_R_look 22 = .ok (.putfield 134, 3) := by decide +kernel
theorem d_R_look_25 : decode b_R_look 25 = .ok (.iconst 0, 1) := by decide +kernel
theorem d_R_look_26 : decode b_R_look 26 = .ok (.istore_n 1, 1) := by decide +kernel
theorem d_R_look_27 : decode b_R_look 27 = .ok (.iload_n 1, 1) := by decide +kernel
theorem d_R_look_28 : decode b_R_look 28 = .ok (.aload_n 0, 1) := by decide +kernel
theorem d_R_look_29 : decode b_R_look 29 = .ok (.getfield 88, 3) := by decide +kernel
theorem d_R_look_32 : decode b_R_look 32 = .ok (.if_icmp .ge 117, 3) := by decide +kernel
theorem d_R_look_35 : decode b_R_look 35 = .ok (.aload_n 0, 1) := by decide +kernel
theorem d_R_look_36 : decode b_R_look 36 = .ok (.iload_n 1, 1) := by decide +kernel
theorem d_R_look_37 : decode b_R_look 37 = .ok (.invokevirtual 128, 3) := by decide +kernel
theorem d_R_look_40 : decode b_R_look 40 = .ok (.ifCond .eq 103, 3) := by decide +kernel
theorem d_R_look_43 : decode b_R_look 43 = .ok (.aload_n 0, 1) := by decide +kernel
theorem d_R_look_44 : decode b_R_look 44 = .ok (.dup, 1) := by decide +kernel
theorem d_R_look_45 : decode b_R_look 45 = .ok (.getfield 137, 3) := by decide +kernel
theorem d_R_look_48 : decode b_R_look 48 = .ok (.iconst 1, 1) := by decide +kernel
theorem d_R_look_49 : decode b_R_look 49 = .ok (.iadd, 1) := by decide +kernel
theorem d_R_look_50 : decode b_R_look 50 = .ok (.putfield 137, 3) := by decide +kernel
theorem d_R_look_53 : decode b_R_look 53 = .ok (.aload_n 0, 1) := by decide +kernel
theorem d_R_look_54 : decode b_R_look 54 = .ok (.aload_n 0, 1) := by decide +kernel
theorem d_R_look_55 : decode b_R_look 55 = .ok (.getfield 143, 3) := by decide +kernel
theorem d_R_look_58 : decode b_R_look 58 = .ok (.aload_n 0, 1) := by decide +kernel
theorem d_R_look_59 : decode b_R_look 59 = .ok (.getfield 7, 3) := by decide +kernel
theorem d_R_look_62 : decode b_R_look 62 = .ok (.iload_n 1, 1) := by decide +kernel
theorem d_R_look_63 : decode b_R_look 63 = .ok (.iaload, 1) := by decide +kernel
theorem d_R_look_64 : decode b_R_look 64 = .ok (.iadd, 1) := by decide +kernel
theorem d_R_look_65 : decode b_R_look 65 = .ok (.putfield 143, 3) := by decide +kernel
theorem d_R_look_68 : decode b_R_look 68 = .ok (.aload_n 0, 1) := by decide +kernel
theorem d_R_look_69 : decode b_R_look 69 = .ok (.aload_n 0, 1) := by decide +kernel
theorem d_R_look_70 : decode b_R_look 70 = .ok (.getfield 140, 3) := by decide +kernel
theorem d_R_look_73 : decode b_R_look 73 = .ok (.aload_n 0, 1) := by decide +kernel
theorem d_R_look_74 : decode b_R_look 74 = .ok (.iload_n 1, 1) := by decide +kernel
theorem d_R_look_75 : decode b_R_look 75 = .ok (.invokevirtual 146, 3) := by decide +kernel
theorem d_R_look_78 : decode b_R_look 78 = .ok (.iadd, 1) := by decide +kernel
theorem d_R_look_79 : decode b_R_look 79 = .ok (.putfield 140, 3) := by decide +kernel
theorem d_R_look_82 : decode b_R_look 82 = .ok (.aload_n 0, 1) := by decide +kernel
theorem d_R_look_83 : decode b_R_look 83 = .ok (.aload_n 0, 1) := by decide +kernel
theorem d_R_look_84 : decode b_R_look 84 = .ok (.getfield 28, 3) := by decide +kernel
theorem d_R_look_87 : decode b_R_look 87 = .ok (.iload_n 1, 1) := by decide +kernel
theorem d_R_look_88 : decode b_R_look 88 = .ok (.iaload, 1) := by decide +kernel
theorem d_R_look_89 : decode b_R_look 89 = .ok (.ifCond .ge 10, 3) := by decide +kernel
theorem d_R_look_92 : decode b_R_look 92 = .ok (.aload_n 0, 1) := by decide +kernel
theorem d_R_look_93 : decode b_R_look 93 = .ok (.getfield 131, 3) := by decide +kernel
theorem d_R_look_96 : decode b_R_look 96 = .ok (.goto 14, 3) := by decide +kernel
theorem d_R_look_99 : decode b_R_look 99 = .ok (.aload_n 0, 1) := by decide +kernel
theorem d_R_look_100 : decode b_R_look 100 = .ok (.getfield 131, 3) := by decide +kernel
theorem d_R_look_103 : decode b_R_look 103 = .ok (.aload_n 0, 1) := by decide +kernel
theorem d_R_look_104 : decode b_R_look 104 = .ok (.getfield 28, 3) := by decide +kernel
theorem d_R_look_107 : decode b_R_look 107 = .ok (.iload_n 1, 1) := by decide +kernel
theorem d_R_look_108 : decode b_R_look 108 = .ok (.iaload, 1) := by decide +kernel
theorem d_R_look_109 : decode b_R_look 109 = .ok (.iadd, 1) := by decide +kernel
theorem d_R_look_110 : decode b_R_look 110 = .ok (.putfield 131, 3) := by decide +kernel
theorem d_R_look_113 : decode b_R_look 113 = .ok (.aload_n 0, 1) := by decide +kernel
theorem d_R_look_114 : decode b_R_look 114 = .ok (.aload_n 0, 1) := by decide +kernel
theorem d_R_look_115 : decode b_R_look 115 = .ok (.getfield 28, 3) := by decide +kernel
theorem d_R_look_118 : decode b_R_look 118 = .ok (.iload_n 1, 1) := by decide +kernel
theorem d_R_look_119 : decode b_R_look 119 = .ok (.iaload, 1) := by decide +kernel
theorem d_R_look_120 : decode b_R_look 120 = .ok (.ifCond .ge 10, 3) := by decide +kernel
theorem d_R_look_123 : decode b_R_look 123 = .ok (.aload_n 0, 1) := by decide +kernel
theorem d_R_look_124 : decode b_R_look 124 = .ok (.getfield 134, 3) := by decide +kernel
theorem d_R_look_127 : decode b_R_look 127 = .ok (.goto 13, 3) := by decide +kernel
theorem d_R_look_130 : decode b_R_look 130 = .ok (.aload_n 0, 1) := by decide +kernel
theorem d_R_look_131 : decode b_R_look 131 = .ok (.getfield 134, 3) := by decide +kernel
theorem d_R_look_134 : decode b_R_look 134 = .ok (.aload_n 0, 1) := by decide +kernel
theorem d_R_look_135 : decode b_R_look 135 = .ok (.iload_n 1, 1) := by decide +kernel
theorem d_R_look_136 : decode b_R_look 136 = .ok (.invokevirtual 146, 3) := by decide +kernel
theorem d_R_look_139 : decode b_R_look 139 = .ok (.iadd, 1) := by decide +kernel
end
section
/-! Decode rows. -/
theorem d_R_look_140 : decode b_R_look 140 = .ok (.putfield 134, 3) := by decide +kernel
theorem d_R_look_143 : decode b_R_look 143 = .ok (.iinc 1 1, 3) := by decide +kernel
theorem d_R_look_146 : decode b_R_look 146 = .ok (.goto (-119), 3) := by decide +kernel
theorem d_R_look_149 : decode b_R_look 149 = .ok (.aload_n 0, 1) := by decide +kernel
theorem d_R_look_150 : decode b_R_look 150 = .ok (.getfield 131, 3) := by decide +kernel
theorem d_R_look_153 : decode b_R_look 153 = .ok (.ifCond .le 18, 3) := by decide +kernel
theorem d_R_look_156 : decode b_R_look 156 = .ok (.aload_n 0, 1) := by decide +kernel
theorem d_R_look_157 : decode b_R_look 157 = .ok (.getfield 134, 3) := by decide +kernel
theorem d_R_look_160 : decode b_R_look 160 = .ok (.ifCond .le 11, 3) := by decide +kernel
theorem d_R_look_163 : decode b_R_look 163 = .ok (.aload_n 0, 1) := by decide +kernel
theorem d_R_look_164 : decode b_R_look 164 = .ok (.getfield 131, 3) := by decide +kernel
theorem d_R_look_167 : decode b_R_look 167 = .ok (.i2l, 1) := by decide +kernel
theorem d_R_look_168 : decode b_R_look 168 = .ok (.goto 4, 3) := by decide +kernel
theorem d_R_look_171 : decode b_R_look 171 = .ok (.lconst 1, 1) := by decide +kernel
theorem d_R_look_172 : decode b_R_look 172 = .ok (.lstore_n 1, 1) := by decide +kernel
theorem d_R_look_173 : decode b_R_look 173 = .ok (.aload_n 0, 1) := by decide +kernel
theorem d_R_look_174 : decode b_R_look 174 = .ok (.getfield 137, 3) := by decide +kernel
theorem d_R_look_177 : decode b_R_look 177 = .ok (.ifCond .le 11, 3) := by decide +kernel
theorem d_R_look_180 : decode b_R_look 180 = .ok (.aload_n 0, 1) := by decide +kernel
theorem d_R_look_181 : decode b_R_look 181 = .ok (.getfield 143, 3) := by decide +kernel
theorem d_R_look_184 : decode b_R_look 184 = .ok (.i2l, 1) := by decide +kernel
theorem d_R_look_185 : decode b_R_look 185 = .ok (.goto 4, 3) := by decide +kernel
theorem d_R_look_188 : decode b_R_look 188 = .ok (.lconst 1, 1) := by decide +kernel
theorem d_R_look_189 : decode b_R_look 189 = .ok (.lstore_n 3, 1) := by decide +kernel
theorem d_R_look_190 : decode b_R_look 190 = .ok (.aload_n 0, 1) := by decide +kernel
theorem d_R_look_191 : decode b_R_look 191 = .ok (.lload_n 1, 1) := by decide +kernel
theorem d_R_look_192 : decode b_R_look 192 = .ok (.lload_n 3, 1) := by decide +kernel
theorem d_R_look_193 : decode b_R_look 193 = .ok (.lmul, 1) := by decide +kernel
theorem d_R_look_194 : decode b_R_look 194 = .ok (.putfield 150, 3) := by decide +kernel
theorem d_R_look_197 : decode b_R_look 197 = .ok (.iconst 0, 1) := by decide +kernel
theorem d_R_look_198 : decode b_R_look 198 = .ok (.istore 5, 2) := by decide +kernel
theorem d_R_look_200 : decode b_R_look 200 = .ok (.iload 5, 2) := by decide +kernel
theorem d_R_look_202 : decode b_R_look 202 = .ok (.aload_n 0, 1) := by decide +kernel
theorem d_R_look_203 : decode b_R_look 203 = .ok (.getfield 88, 3) := by decide +kernel
theorem d_R_look_206 : decode b_R_look 206 = .ok (.if_icmp .ge 132, 3) := by decide +kernel
theorem d_R_look_209 : decode b_R_look 209 = .ok (.aload_n 0, 1) := by decide +kernel
theorem d_R_look_210 : decode b_R_look 210 = .ok (.iload 5, 2) := by decide +kernel
theorem d_R_look_212 : decode b_R_look 212 = .ok (.invokevirtual 154, 3) := by decide +kernel
theorem d_R_look_215 : decode b_R_look 215 = .ok (.istore 6, 2) := by decide +kernel
theorem d_R_look_217 : decode b_R_look 217 = .ok (.lconst 0, 1) := by decide +kernel
theorem d_R_look_218 : decode b_R_look 218 = .ok (.lstore 7, 2) := by decide +kernel
theorem d_R_look_220 : decode b_R_look 220 = .ok (.iload 6, 2) := by decide +kernel
theorem d_R_look_222 : decode b_R_look 222 = .ok (.ifCond .ne 20, 3) := by decide +kernel
theorem d_R_look_225 : decode b_R_look 225 = .ok (.aload_n 0, 1) := by decide +kernel
theorem d_R_look_226 : decode b_R_look 226 = .ok (.iload 5, 2) := by decide +kernel
theorem d_R_look_228 : decode b_R_look 228 = .ok (.invokevirtual 146, 3) := by decide +kernel
theorem d_R_look_231 : decode b_R_look 231 = .ok (.i2l, 1) := by decide +kernel
theorem d_R_look_232 : decode b_R_look 232 = .ok (.aload_n 0, 1) := by decide +kernel
theorem d_R_look_233 : decode b_R_look 233 = .ok (.getfield 150, 3) := by decide +kernel
theorem d_R_look_236 : decode b_R_look 236 = .ok (.lmul, 1) := by decide +kernel
theorem d_R_look_237 : decode b_R_look 237 = .ok (.lstore 7, 2) := by decide +kernel
theorem d_R_look_239 : decode b_R_look 239 = .ok (.goto 54, 3) := by decide +kernel
theorem d_R_look_242 : decode b_R_look 242 = .ok (.iload 6, 2) := by decide +kernel
theorem d_R_look_244 : decode b_R_look 244 = .ok (.iconst 1, 1) := by decide +kernel
theorem d_R_look_245 : decode b_R_look 245 = .ok (.if_icmp .ne 24, 3) := by decide +kernel
theorem d_R_look_248 : decode b_R_look 248 = .ok (.lload_n 3, 1) := by decide +kernel
theorem d_R_look_249 : decode b_R_look 249 = .ok (.aload_n 0, 1) := by decide +kernel
theorem d_R_look_250 : decode b_R_look 250 = .ok (.getfield 28, 3) := by decide +kernel
theorem d_R_look_253 : decode b_R_look 253 = .ok (.iload 5, 2) := by decide +kernel
theorem d_R_look_255 : decode b_R_look 255 = .ok (.iaload, 1) := by decide +kernel
theorem d_R_look_256 : decode b_R_look 256 = .ok (.i2l, 1) := by decide +kernel
theorem d_R_look_257 : decode b_R_look 257 = .ok (.lmul, 1) := by decide +kernel
theorem d_R_look_258 : decode b_R_look 258 = .ok (.aload_n 0, 1) := by decide +kernel
theorem d_R_look_259 : decode b_R_look 259 = .ok (.getfield 134, 3) := by decide +kernel
theorem d_R_look_262 : decode b_R_look 262 = .ok (.i2l, 1) := by decide +kernel
theorem d_R_look_263 : decode b_R_look 263 = .ok (.lmul, 1) := by decide +kernel
theorem d_R_look_264 : decode b_R_look 264 = .ok (.lstore 7, 2) := by decide +kernel
theorem d_R_look_266 : decode b_R_look 266 = .ok (.goto 27, 3) := by decide +kernel
theorem d_R_look_269 : decode b_R_look 269 = .ok (.iload 6, 2) := by decide +kernel
theorem d_R_look_271 : decode b_R_look 271 = .ok (.iconst 2, 1) := by decide +kernel
theorem d_R_look_272 : decode b_R_look 272 = .ok (.if_icmp .ne 21, 3) := by decide +kernel
theorem d_R_look_275 : decode b_R_look 275 = .ok (.lload_n 1, 1) := by decide +kernel
theorem d_R_look_276 : decode b_R_look 276 = .ok (.aload_n 0, 1) := by decide +kernel
theorem d_R_look_277 : decode b_R_look 277 = .ok (.getfield 7, 3) := by decide +kernel
theorem d_R_look_280 : decode b_R_look 280 = .ok (.iload 5, 2) := by decide +kernel
theorem d_R_look_282 : decode b_R_look 282 = .ok (.iaload, 1) := by decide +kernel
theorem d_R_look_283 : decode b_R_look 283 = .ok (.i2l, 1) := by decide +kernel
theorem d_R_look_284 : decode b_R_look 284 = .ok (.lmul, 1) := by decide +kernel
theorem d_R_look_285 : decode b_R_look 285 = .ok (.aload_n 0, 1) := by decide +kernel
theorem d_R_look_286 : decode b_R_look 286 = .ok (.getfield 140, 3) := by decide +kernel
theorem d_R_look_289 : decode b_R_look 289 = .ok (.i2l, 1) := by decide +kernel
theorem d_R_look_290 : decode b_R_look 290 = .ok (.lmul, 1) := by decide +kernel
theorem d_R_look_291 : decode b_R_look 291 = .ok (.lstore 7, 2) := by decide +kernel
theorem d_R_look_293 : decode b_R_look 293 = .ok (.aload_n 0, 1) := by decide +kernel
theorem d_R_look_294 : decode b_R_look 294 = .ok (.getfield 65, 3) := by decide +kernel
theorem d_R_look_297 : decode b_R_look 297 = .ok (.iload 5, 2) := by decide +kernel
theorem d_R_look_299 : decode b_R_look 299 = .ok (.iload 6, 2) := by decide +kernel
theorem d_R_look_301 : decode b_R_look 301 = .ok (.ifCond .eq 28, 3) := by decide +kernel
theorem d_R_look_304 : decode b_R_look 304 = .ok (.lload 7, 2) := by decide +kernel
theorem d_R_look_306 : decode b_R_look 306 = .ok (.ldc2_w 157, 3) := by decide +kernel
theorem d_R_look_309 : decode b_R_look 309 = .ok (.aload_n 0, 1) := by decide +kernel
theorem d_R_look_310 : decode b_R_look 310 = .ok (.getfield 150, 3) := by decide +kernel
theorem d_R_look_313 : decode b_R_look 313 = .ok (.lmul, 1) := by decide +kernel
theorem d_R_look_314 : decode b_R_look 314 = .ok (.lcmp, 1) := by decide +kernel
theorem d_R_look_315 : decode b_R_look 315 = .ok (.ifCond .le 14, 3) := by decide +kernel
theorem d_R_look_318 : decode b_R_look 318 = .ok (.ldc2_w 157, 3) := by decide +kernel
theorem d_R_look_321 : decode b_R_look 321 = .ok (.aload_n 0, 1) := by decide +kernel
theorem d_R_look_322 : decode b_R_look 322 = .ok (.getfield 150, 3) := by decide +kernel
theorem d_R_look_325 : decode b_R_look 325 = .ok (.lmul, 1) := by decide +kernel
theorem d_R_look_326 : decode b_R_look 326 = .ok (.goto 5, 3) := by decide +kernel
theorem d_R_look_329 : decode b_R_look 329 = .ok (.lload 7, 2) := by decide +kernel
theorem d_R_look_331 : decode b_R_look 331 = .ok (.lastore, 1) := by decide +kernel
theorem d_R_look_332 : decode b_R_look 332 = .ok (.iinc 5 1, 3) := by decide +kernel
theorem d_R_look_335 : decode b_R_look 335 = .ok (.goto (-135), 3) := by decide +kernel
theorem d_R_look_338 : decode b_R_look 338 = .ok (.return_, 1) := by decide +kernel
theorem d_R_replaced_0 : decode b_R_replaced 0 = .ok (.aload_n 0, 1) := by decide +kernel
theorem d_R_replaced_1 : decode b_R_replaced 1 = .ok (.aload_n 0, 1) := by decide +kernel
theorem d_R_replaced_2 : decode b_R_replaced 2 = .ok (.iload_n 1, 1) := by decide +kernel
theorem d_R_replaced_3 : decode b_R_replaced 3 = .ok (.invokevirtual 102, 3) := by decide +kernel
theorem d_R_replaced_6 : decode b_R_replaced 6 = .ok (.ifCond .eq 7, 3) := by decide +kernel
theorem d_R_replaced_9 : decode b_R_replaced 9 = .ok (.iconst 0, 1) := by decide +kernel
theorem d_R_replaced_10 : decode b_R_replaced 10 = .ok (.goto 4, 3) := by decide +kernel
theorem d_R_replaced_13 : decode b_R_replaced 13 = .ok (.iconst 1, 1) := by decide +kernel
theorem d_R_replaced_14 : decode b_R_replaced 14 = .ok (.putfield 85, 3) := by decide +kernel
theorem d_R_replaced_17 : decode b_R_replaced 17 = .ok (.aload_n 0, 1) := by decide +kernel
theorem d_R_replaced_18 : decode b_R_replaced 18 = .ok (.getfield 85, 3) := by decide +kernel
theorem d_R_replaced_21 : decode b_R_replaced 21 = .ok (.ifCond .le 5, 3) := by decide +kernel
theorem d_R_replaced_24 : decode b_R_replaced 24 = .ok (.iconst 0, 1) := by decide +kernel
theorem d_R_replaced_25 : decode b_R_replaced 25 = .ok (.ireturn, 1) := by decide +kernel
theorem d_R_replaced_26 : decode b_R_replaced 26 = .ok (.aload_n 0, 1) := by decide +kernel
theorem d_R_replaced_27 : decode b_R_replaced 27 = .ok (.invokevirtual 159, 3) := by decide +kernel
theorem d_R_replaced_30 : decode b_R_replaced 30 = .ok (.aload_n 0, 1) := by decide +kernel
theorem d_R_replaced_31 : decode b_R_replaced 31 = .ok (.iload_n 1, 1) := by decide +kernel
theorem d_R_replaced_32 : decode b_R_replaced 32 = .ok (.invokevirtual 154, 3) := by decide +kernel
theorem d_R_replaced_35 : decode b_R_replaced 35 = .ok (.ireturn, 1) := by decide +kernel
theorem d_R_inStock_0 : decode b_R_inStock 0 = .ok (.aload_n 0, 1) := by decide +kernel
theorem d_R_inStock_1 : decode b_R_inStock 1 = .ok (.getfield 37, 3) := by decide +kernel
theorem d_R_inStock_4 : decode b_R_inStock 4 = .ok (.istore_n 2, 1) := by decide +kernel
theorem d_R_inStock_5 : decode b_R_inStock 5 = .ok (.aload_n 0, 1) := by decide +kernel
theorem d_R_inStock_6 : decode b_R_inStock 6 = .ok (.getfield 110, 3) := by decide +kernel
theorem d_R_inStock_9 : decode b_R_inStock 9 = .ok (.iconst 1, 1) := by decide +kernel
theorem d_R_inStock_10 : decode b_R_inStock 10 = .ok (.isub, 1) := by decide +kernel
theorem d_R_inStock_11 : decode b_R_inStock 11 = .ok (.istore_n 3, 1) := by decide +kernel
theorem d_R_inStock_12 : decode b_R_inStock 12 = .ok (.iload_n 3, 1) := by decide +kernel
theorem d_R_inStock_13 : decode b_R_inStock 13 = .ok (.iload_n 1, 1) := by decide +kernel
theorem d_R_inStock_14 : decode b_R_inStock 14 = .ok (.if_icmp .le 18, 3) := by decide +kernel
theorem d_R_inStock_17 : decode b_R_inStock 17 = .ok (.iload_n 2, 1) := by decide +kernel
theorem d_R_inStock_18 : decode b_R_inStock 18 = .ok (.aload_n 0, 1) := by decide +kernel
theorem d_R_inStock_19 : decode b_R_inStock 19 = .ok (.getfield 31, 3) := by decide +kernel
theorem d_R_inStock_22 : decode b_R_inStock 22 = .ok (.iload_n 3, 1) := by decide +kernel
theorem d_R_inStock_23 : decode b_R_inStock 23 = .ok (.iaload, 1) := by decide +kernel
theorem d_R_inStock_24 : decode b_R_inStock 24 = .ok (.isub, 1) := by decide +kernel
theorem d_R_inStock_25 : decode b_R_inStock 25 = .ok (.istore_n 2, 1) := by decide +kernel
theorem d_R_inStock_26 : decode b_R_inStock 26 = .ok (.iinc 3 (-1), 3) := by decide +kernel
theorem d_R_inStock_29 : decode b_R_inStock 29 = .ok (.goto (-17), 3) := by decide +kernel
theorem d_R_inStock_32 : decode b_R_inStock 32 = .ok (.iload_n 2, 1) := by decide +kernel
theorem d_R_inStock_33 : decode b_R_inStock 33 = .ok (.ifCond .ge 7, 3) := by decide +kernel
theorem d_R_inStock_36 : decode b_R_inStock 36 = .ok (.iconst 0, 1) := by decide +kernel
theorem d_R_inStock_37 : decode b_R_inStock 37 = .ok (.goto 23, 3) := by decide +kernel
theorem d_R_inStock_40 : decode b_R_inStock 40 = .ok (.iload_n 2, 1) := by decide +kernel
theorem d_R_inStock_41 : decode b_R_inStock 41 = .ok (.aload_n 0, 1) := by decide +kernel
theorem d_R_inStock_42 : decode b_R_inStock 42 = .ok (.getfield 31, 3) := by decide +kernel
theorem d_R_inStock_45 : decode b_R_inStock 45 = .ok (.iload_n 1, 1) := by decide +kernel
theorem d_R_inStock_46 : decode b_R_inStock 46 = .ok (.iaload, 1) := by decide +kernel
theorem d_R_inStock_47 : decode b_R_inStock 47 = .ok (.if_icmp .le 12, 3) := by decide +kernel
theorem d_R_inStock_50 : decode b_R_inStock 50 = .ok (.aload_n 0, 1) := by decide +kernel
theorem d_R_inStock_51 : decode b_R_inStock 51 = .ok (.getfield 31, 3) := by decide +kernel
theorem d_R_inStock_54 : decode b_R_inStock 54 = .ok (.iload_n 1, 1) := by decide +kernel
theorem d_R_inStock_55 : decode b_R_inStock 55 = .ok (.iaload, 1) := by decide +kernel
theorem d_R_inStock_56 : decode b_R_inStock 56 = .ok (.goto 4, 3) := by decide +kernel
theorem d_R_inStock_59 : decode b_R_inStock 59 = .ok (.iload_n 2, 1) := by decide +kernel
theorem d_R_inStock_60 : decode b_R_inStock 60 = .ok (.ireturn, 1) := by decide +kernel
theorem d_R_centsInStock_0 : decode b_R_centsInStock 0 = .ok (.aload_n 0, 1) := by decide +kernel
theorem d_R_centsInStock_1 : decode b_R_centsInStock 1 = .ok (.getfield 34, 3) := by decide +kernel
theorem d_R_centsInStock_4 : decode b_R_centsInStock 4 = .ok (.iload_n 1, 1) := by decide +kernel
theorem d_R_centsInStock_5 : decode b_R_centsInStock 5 = .ok (.iaload, 1) := by decide +kernel
theorem d_R_centsInStock_6 : decode b_R_centsInStock 6 = .ok (.aload_n 0, 1) := by decide +kernel
theorem d_R_centsInStock_7 : decode b_R_centsInStock 7 = .ok (.iload_n 1, 1) := by decide +kernel
theorem d_R_centsInStock_8 : decode b_R_centsInStock 8 = .ok (.invokevirtual 162, 3) := by decide +kernel
theorem d_R_centsInStock_11 : decode b_R_centsInStock 11 = .ok (.imul, 1) := by decide +kernel
theorem d_R_centsInStock_12 : decode b_R_centsInStock 12 = .ok (.aload_n 0, 1) := by decide +kernel
theorem d_R_centsInStock_13 : decode b_R_centsInStock 13 = .ok (.getfield 31, 3) := by decide +kernel
theorem d_R_centsInStock_16 : decode b_R_centsInStock 16 = .ok (.iload_n 1, 1) := by decide +kernel
theorem d_R_centsInStock_17 : decode b_R_centsInStock 17 = .ok (.iaload, 1) := by decide +kernel
theorem d_R_centsInStock_18 : decode b_R_centsInStock 18 = .ok (.idiv, 1) := by decide +kernel
theorem d_R_centsInStock_19 : decode b_R_centsInStock 19 = .ok (.ireturn, 1) := by decide +kernel
theorem d_R_findParts_0 : decode b_R_findParts 0 = .ok (.aload_n 0, 1) := by decide +kernel
theorem d_R_findParts_1 : decode b_R_findParts 1 = .ok (.invokevirtual 113, 3) := by decide +kernel
theorem d_R_findParts_4 : decode b_R_findParts 4 = .ok (.aload_n 0, 1) := by decide +kernel
theorem d_R_findParts_5 : decode b_R_findParts 5 = .ok (.getfield 37, 3) := by decide +kernel
theorem d_R_findParts_8 : decode b_R_findParts 8 = .ok (.isub, 1) := by decide +kernel
theorem d_R_findParts_9 : decode b_R_findParts 9 = .ok (.istore_n 1, 1) := by decide +kernel
theorem d_R_findParts_10 : decode b_R_findParts 10 = .ok (.aload_n 0, 1) := by decide +kernel
theorem d_R_findParts_11 : decode b_R_findParts 11 = .ok (.getfield 117, 3) := by decide +kernel
theorem d_R_findParts_14 : decode b_R_findParts 14 = .ok (.istore_n 2, 1) := by decide +kernel
theorem d_R_findParts_15 : decode b_R_findParts 15 = .ok (.iconst 0, 1) := by decide +kernel
theorem d_R_findParts_16 : decode b_R_findParts 16 = .ok (.istore_n 3, 1) := by decide +kernel
theorem d_R_findParts_17 : decode b_R_findParts 17 = .ok (.iload_n 3, 1) := by decide +kernel
theorem d_R_findParts_18 : decode b_R_findParts 18 = .ok (.aload_n 0, 1) := by decide +kernel
theorem d_R_findParts_19 : decode b_R_findParts 19 = .ok (.getfield 110, 3) := by decide +kernel
theorem d_R_findParts_22 : decode b_R_findParts 22 = .ok (.if_icmp .ge 24, 3) := by decide +kernel
theorem d_R_findParts_25 : decode b_R_findParts 25 = .ok (.iload_n 2, 1) := by decide +kernel
theorem d_R_findParts_26 : decode b_R_findParts 26 = .ok (.aload_n 0, 1) := by decide +kernel
theorem d_R_findParts_27 : decode b_R_findParts 27 = .ok (.getfield 34, 3) := by decide +kernel
theorem d_R_findParts_30 : decode b_R_findParts 30 = .ok (.iload_n 3, 1) := by decide +kernel
theorem d_R_findParts_31 : decode b_R_findParts 31 = .ok (.iaload, 1) := by decide +kernel
theorem d_R_findParts_32 : decode b_R_findParts 32 = .ok (.iadd, 1) := by decide +kernel
theorem d_R_findParts_33 : decode b_R_findParts 33 = .ok (.aload_n 0, 1) := by decide +kernel
theorem d_R_findParts_34 : decode b_R_findParts 34 = .ok (.iload_n 3, 1) := by decide +kernel
theorem d_R_findParts_35 : decode b_R_findParts 35 = .ok (.invokevirtual 165, 3) := by decide +kernel
theorem d_R_findParts_38 : decode b_R_findParts 38 = .ok (.isub, 1) := by decide +kernel
theorem d_R_findParts_39 : decode b_R_findParts 39 = .ok (.istore_n 2, 1) := by decide +kernel
theorem d_R_findParts_40 : decode b_R_findParts 40 = .ok (.iinc 3 1, 3) := by decide +kernel
theorem d_R_findParts_43 : decode b_R_findParts 43 = .ok (.goto (-26), 3) := by decide +kernel
theorem d_R_findParts_46 : decode b_R_findParts 46 = .ok (.iload_n 1, 1) := by decide +kernel
theorem d_R_findParts_47 : decode b_R_findParts 47 = .ok (.sipush 400, 3) := by decide +kernel
theorem d_R_findParts_50 : decode b_R_findParts 50 = .ok (.imul, 1) := by decide +kernel
theorem d_R_findParts_51 : decode b_R_findParts 51 = .ok (.sipush 1000, 3) := by decide +kernel
theorem d_R_findParts_54 : decode b_R_findParts 54 = .ok (.idiv, 1) := by decide +kernel
theorem d_R_findParts_55 : decode b_R_findParts 55 = .ok (.istore_n 3, 1) := by decide +kernel
theorem d_R_findParts_56 : decode b_R_findParts 56 = .ok (.ldc2_w 168, 3) := by decide +kernel
theorem d_R_findParts_59 : decode b_R_findParts 59 = .ok (.aload_n 0, 1) := by decide +kernel
theorem d_R_findParts_60 : decode b_R_findParts 60 = .ok (.getfield 41, 3) := by decide +kernel
theorem d_R_findParts_63 : decode b_R_findParts 63 = .ok (.i2l, 1) := by decide +kernel
theorem d_R_findParts_64 : decode b_R_findParts 64 = .ok (.lmul, 1) := by decide +kernel
theorem d_R_findParts_65 : decode b_R_findParts 65 = .ok (.aload_n 0, 1) := by decide +kernel
theorem d_R_findParts_66 : decode b_R_findParts 66 = .ok (.getfield 121, 3) := by decide +kernel
theorem d_R_findParts_69 : decode b_R_findParts 69 = .ok (.i2l, 1) := by decide +kernel
theorem d_R_findParts_70 : decode b_R_findParts 70 = .ok (.lmul, 1) := by decide +kernel
theorem d_R_findParts_71 : decode b_R_findParts 71 = .ok (.ldc2_w 170, 3) := by decide +kernel
theorem d_R_findParts_74 : decode b_R_findParts 74 = .ok (.ldiv, 1) := by decide +kernel
theorem d_R_findParts_75 : decode b_R_findParts 75 = .ok (.lstore 4, 2) := by decide +kernel
theorem d_R_findParts_77 : decode b_R_findParts 77 = .ok (.aload_n 0, 1) := by decide +kernel
theorem d_R_findParts_78 : decode b_R_findParts 78 = .ok (.getfield 41, 3) := by decide +kernel
theorem d_R_findParts_81 : decode b_R_findParts 81 = .ok (.ifCond .ge 16, 3) := by decide +kernel
theorem d_R_findParts_84 : decode b_R_findParts 84 = .ok (.iload_n 1, 1) := by decide +kernel
theorem d_R_findParts_85 : decode b_R_findParts 85 = .ok (.sipush 180, 3) := by decide +kernel
theorem d_R_findParts_88 : decode b_R_findParts 88 = .ok (.imul, 1) := by decide +kernel
theorem d_R_findParts_89 : decode b_R_findParts 89 = .ok (.sipush 1000, 3) := by decide +kernel
theorem d_R_findParts_92 : decode b_R_findParts 92 = .ok (.idiv, 1) := by decide +kernel
theorem d_R_findParts_93 : decode b_R_findParts 93 = .ok (.i2l, 1) := by decide +kernel
theorem d_R_findParts_94 : decode b_R_findParts 94 = .ok (.goto 18, 3) := by decide +kernel
theorem d_R_findParts_97 : decode b_R_findParts 97 = .ok (.lload 4, 2) := by decide +kernel
theorem d_R_findParts_99 : decode b_R_findParts 99 = .ok (.iload_n 3, 1) := by decide +kernel
theorem d_R_findParts_100 : decode b_R_findParts 100 = .ok (.i2l, 1) := by decide +kernel
theorem d_R_findParts_101 : decode b_R_findParts 101 = .ok (.lcmp, 1) := by decide +kernel
theorem d_R_findParts_102 : decode b_R_findParts 102 = .ok (.ifCond .ge 8, 3) := by decide +kernel
theorem d_R_findParts_105 : decode b_R_findParts 105 = .ok (.lload 4, 2) := by decide +kernel
theorem d_R_findParts_107 : decode b_R_findParts 107 = .ok (.goto 5, 3) := by decide +kernel
theorem d_R_findParts_110 : decode b_R_findParts 110 = .ok (.iload_n 3, 1) := by decide +kernel
theorem d_R_findParts_111 : decode b_R_findParts 111 = .ok (.i2l, 1) := by decide +kernel
theorem d_R_findParts_112 : decode b_R_findParts 112 = .ok (.lstore 6, 2) := by decide +kernel
theorem d_R_findParts_114 : decode b_R_findParts 114 = .ok (.aload_n 0, 1) := by decide +kernel
theorem d_R_findParts_115 : decode b_R_findParts 115 = .ok (.getfield 50, 3) := by decide +kernel
theorem d_R_findParts_118 : decode b_R_findParts 118 = .ok (.iconst 0, 1) := by decide +kernel
theorem d_R_findParts_119 : decode b_R_findParts 119 = .ok (.iload_n 1, 1) := by decide +kernel
theorem d_R_findParts_120 : decode b_R_findParts 120 = .ok (.iastore, 1) := by decide +kernel
theorem d_R_findParts_121 : decode b_R_findParts 121 = .ok (.aload_n 0, 1) := by decide +kernel
theorem d_R_findParts_122 : decode b_R_findParts 122 = .ok (.getfield 50, 3) := by decide +kernel
theorem d_R_findParts_125 : decode b_R_findParts 125 = .ok (.iconst 1, 1) := by decide +kernel
theorem d_R_findParts_126 : decode b_R_findParts 126 = .ok (.iload_n 2, 1) := by decide +kernel
theorem d_R_findParts_127 : decode b_R_findParts 127 = .ok (.iastore, 1) := by decide +kernel
theorem d_R_findParts_128 : decode b_R_findParts 128 = .ok (.aload_n 0, 1) := by decide +kernel
theorem d_R_findParts_129 : decode b_R_findParts 129 = .ok (.getfield 50, 3) := by decide +kernel
theorem d_R_findParts_132 : decode b_R_findParts 132 = .ok (.iconst 2, 1) := by decide +kernel
theorem d_R_findParts_133 : decode b_R_findParts 133 = .ok (.lload 6, 2) := by decide +kernel
theorem d_R_findParts_135 : decode b_R_findParts 135 = .ok (.iload_n 2, 1) := by decide +kernel
theorem d_R_findParts_136 : decode b_R_findParts 136 = .ok (.i2l, 1) := by decide +kernel
theorem d_R_findParts_137 : decode b_R_findParts 137 = .ok (.lmul, 1) := by decide +kernel
theorem d_R_findParts_138 : decode b_R_findParts 138 = .ok (.iload_n 1, 1) := by decide +kernel
theorem d_R_findParts_139 : decode b_R_findParts 139 = .ok (.i2l, 1) := by decide +kernel
theorem d_R_findParts_140 : decode b_R_findParts 140 = .ok (.ldiv, 1) := by decide +kernel
theorem d_R_findParts_141 : decode b_R_findParts 141 = .ok (.l2i, 1) := by decide +kernel
theorem d_R_findParts_142 : decode b_R_findParts 142 = .ok (.iastore, 1) := by decide +kernel
theorem d_R_findParts_143 : decode b_R_findParts 143 = .ok (.aload_n 0, 1) := by decide +kernel
theorem d_R_findParts_144 : decode b_R_findParts 144 = .ok (.getfield 50, 3) := by decide +kernel
theorem d_R_findParts_147 : decode b_R_findParts 147 = .ok (.iconst 3, 1) := by decide +kernel
theorem d_R_findParts_148 : decode b_R_findParts 148 = .ok (.iload_n 2, 1) := by decide +kernel
theorem d_R_findParts_149 : decode b_R_findParts 149 = .ok (.aload_n 0, 1) := by decide +kernel
theorem d_R_findParts_150 : decode b_R_findParts 150 = .ok (.getfield 50, 3) := by decide +kernel
theorem d_R_findParts_153 : decode b_R_findParts 153 = .ok (.iconst 2, 1) := by decide +kernel
theorem d_R_findParts_154 : decode b_R_findParts 154 = .ok (.iaload, 1) := by decide +kernel
theorem d_R_findParts_155 : decode b_R_findParts 155 = .ok (.isub, 1) := by decide +kernel
theorem d_R_findParts_156 : decode b_R_findParts 156 = .ok (.i2l, 1) := by decide +kernel
theorem d_R_findParts_157 : decode b_R_findParts 157 = .ok (.aload_n 0, 1) := by decide +kernel
theorem d_R_findParts_158 : decode b_R_findParts 158 = .ok (.getfield 44, 3) := by decide +kernel
theorem d_R_findParts_161 : decode b_R_findParts 161 = .ok (.i2l, 1) := by decide +kernel
theorem d_R_findParts_162 : decode b_R_findParts 162 = .ok (.lmul, 1) := by decide +kernel
theorem d_R_findParts_163 : decode b_R_findParts 163 = .ok (.ldc2_w 172, 3) := by decide +kernel
theorem d_R_findParts_166 : decode b_R_findParts 166 = .ok (.ldiv, 1) := by decide +kernel
theorem d_R_findParts_167 : decode b_R_findParts 167 = .ok (.l2i, 1) := by decide +kernel
theorem d_R_findParts_168 : decode b_R_findParts 168 = .ok (.iastore, 1) := by decide +kernel
theorem d_R_findParts_169 : decode b_R_findParts 169 = .ok (.aload_n 0, 1) := by decide +kernel
theorem d_R_findParts_170 : decode b_R_findParts 170 = .ok (.getfield 50, 3) := by decide +kernel
theorem d_R_findParts_173 : decode b_R_findParts 173 = .ok (.iconst 4, 1) := by decide +kernel
theorem d_R_findParts_174 : decode b_R_findParts 174 = .ok (.iload_n 2, 1) := by decide +kernel
theorem d_R_findParts_175 : decode b_R_findParts 175 = .ok (.aload_n 0, 1) := by decide +kernel
theorem d_R_findParts_176 : decode b_R_findParts 176 = .ok (.getfield 50, 3) := by decide +kernel
theorem d_R_findParts_179 : decode b_R_findParts 179 = .ok (.iconst 2, 1) := by decide +kernel
theorem d_R_findParts_180 : decode b_R_findParts 180 = .ok (.iaload, 1) := by decide +kernel
theorem d_R_findParts_181 : decode b_R_findParts 181 = .ok (.isub, 1) := by decide +kernel
theorem d_R_findParts_182 : decode b_R_findParts 182 = .ok (.aload_n 0, 1) := by decide +kernel
theorem d_R_findParts_183 : decode b_R_findParts 183 = .ok (.getfield 50, 3) := by decide +kernel
theorem d_R_findParts_186 : decode b_R_findParts 186 = .ok (.iconst 3, 1) := by decide +kernel
theorem d_R_findParts_187 : decode b_R_findParts 187 = .ok (.iaload, 1) := by decide +kernel
theorem d_R_findParts_188 : decode b_R_findParts 188 = .ok (.isub, 1) := by decide +kernel
theorem d_R_findParts_189 : decode b_R_findParts 189 = .ok (.iastore, 1) := by decide +kernel
theorem d_R_findParts_190 : decode b_R_findParts 190 = .ok (.return_, 1) := by decide +kernel
theorem d_R_changeAt_0 : decode b_R_changeAt 0 = .ok (.aload_n 0, 1) := by decide +kernel
theorem d_R_changeAt_1 : decode b_R_changeAt 1 = .ok (.getfield 22, 3) := by decide +kernel
theorem d_R_changeAt_4 : decode b_R_changeAt 4 = .ok (.bipush 12, 2) := by decide +kernel
theorem d_R_changeAt_6 : decode b_R_changeAt 6 = .ok (.iload_n 1, 1) := by decide +kernel
theorem d_R_changeAt_7 : decode b_R_changeAt 7 = .ok (.imul, 1) := by decide +kernel
theorem d_R_changeAt_8 : decode b_R_changeAt 8 = .ok (.iload_n 2, 1) := by decide +kernel
theorem d_R_changeAt_9 : decode b_R_changeAt 9 = .ok (.iadd, 1) := by decide +kernel
theorem d_R_changeAt_10 : decode b_R_changeAt 10 = .ok (.iaload, 1) := by decide +kernel
theorem d_R_changeAt_11 : decode b_R_changeAt 11 = .ok (.ireturn, 1) := by decide +kernel
theorem d_R_endOf_0 : decode b_R_endOf 0 = .ok (.iload_n 2, 1) := by decide +kernel
theorem d_R_endOf_1 : decode b_R_endOf 1 = .ok (.iconst 1, 1) := by decide +kernel
theorem d_R_endOf_2 : decode b_R_endOf 2 = .ok (.iadd, 1) := by decide +kernel
theorem d_R_endOf_3 : decode b_R_endOf 3 = .ok (.istore_n 3, 1) := by decide +kernel
theorem d_R_endOf_4 : decode b_R_endOf 4 = .ok (.iload_n 3, 1) := by decide +kernel
theorem d_R_endOf_5 : decode b_R_endOf 5 = .ok (.bipush 12, 2) := by decide +kernel
theorem d_R_endOf_7 : decode b_R_endOf 7 = .ok (.if_icmp .ge 20, 3) := by decide +kernel
theorem d_R_endOf_10 : decode b_R_endOf 10 = .ok (.aload_n 0, 1) := by decide +kernel
theorem d_R_endOf_11 : decode b_R_endOf 11 = .ok (.iload_n 1, 1) := by decide +kernel
theorem d_R_endOf_12 : decode b_R_endOf 12 = .ok (.iload_n 3, 1) := by decide +kernel
theorem d_R_endOf_13 : decode b_R_endOf 13 = .ok (.invokevirtual 174, 3) := by decide +kernel
theorem d_R_endOf_16 : decode b_R_endOf 16 = .ok (.bipush (-5), 2) := by decide +kernel
theorem d_R_endOf_18 : decode b_R_endOf 18 = .ok (.if_icmp .ne 9, 3) := by decide +kernel
theorem d_R_endOf_21 : decode b_R_endOf 21 = .ok (.iinc 3 1, 3) := by decide +kernel
theorem d_R_endOf_24 : decode b_R_endOf 24 = .ok (.goto (-20), 3) := by decide +kernel
theorem d_R_endOf_27 : decode b_R_endOf 27 = .ok (.iload_n 3, 1) := by decide +kernel
theorem d_R_endOf_28 : decode b_R_endOf 28 = .ok (.ireturn, 1) := by decide +kernel
theorem d_R_holderAt_0 : decode b_R_holderAt 0 = .ok (.iload_n 2, 1) := by decide +kernel
theorem d_R_holderAt_1 : decode b_R_holderAt 1 = .ok (.istore_n 3, 1) := by decide +kernel
theorem d_R_holderAt_2 : decode b_R_holderAt 2 = .ok (.iload_n 3, 1) := by decide +kernel
theorem d_R_holderAt_3 : decode b_R_holderAt 3 = .ok (.ifCond .lt 20, 3) := by decide +kernel
theorem d_R_holderAt_6 : decode b_R_holderAt 6 = .ok (.aload_n 0, 1) := by decide +kernel
theorem d_R_holderAt_7 : decode b_R_holderAt 7 = .ok (.iload_n 1, 1) := by decide +kernel
theorem d_R_holderAt_8 : decode b_R_holderAt 8 = .ok (.iload_n 3, 1) := by decide +kernel
theorem d_R_holderAt_9 : decode b_R_holderAt 9 = .ok (.invokevirtual 174, 3) := by decide +kernel
theorem d_R_holderAt_12 : decode b_R_holderAt 12 = .ok (.bipush (-5), 2) := by decide +kernel
theorem d_R_holderAt_14 : decode b_R_holderAt 14 = .ok (.if_icmp .ne 9, 3) := by decide +kernel
theorem d_R_holderAt_17 : decode b_R_holderAt 17 = .ok (.iinc 3 (-1), 3) := by decide +kernel
theorem d_R_holderAt_20 : decode b_R_holderAt 20 = .ok (.goto (-18), 3) := by decide +kernel
theorem d_R_holderAt_23 : decode b_R_holderAt 23 = .ok (.iload_n 3, 1) := by decide +kernel
theorem d_R_holderAt_24 : decode b_R_holderAt 24 = .ok (.ifCond .ge 12, 3) := by decide +kernel
theorem d_R_holderAt_27 : decode b_R_holderAt 27 = .ok (.aload_n 0, 1) := by decide +kernel
theorem d_R_holderAt_28 : decode b_R_holderAt 28 = .ok (.getfield 25, 3) := by decide +kernel
theorem d_R_holderAt_31 : decode b_R_holderAt 31 = .ok (.iload_n 1, 1) := by decide +kernel
theorem d_R_holderAt_32 : decode b_R_holderAt 32 = .ok (.iaload, 1) := by decide +kernel
theorem d_R_holderAt_33 : decode b_R_holderAt 33 = .ok (.goto 9, 3) := by decide +kernel
theorem d_R_holderAt_36 : decode b_R_holderAt 36 = .ok (.aload_n 0, 1) := by decide +kernel
theorem d_R_holderAt_37 : decode b_R_holderAt 37 = .ok (.iload_n 1, 1) := by decide +kernel
theorem d_R_holderAt_38 : decode b_R_holderAt 38 = .ok (.iload_n 3, 1) := by decide +kernel
theorem d_R_holderAt_39 : decode b_R_holderAt 39 = .ok (.invokevirtual 174, 3) := by decide +kernel
theorem d_R_holderAt_42 : decode b_R_holderAt 42 = .ok (.ireturn, 1) := by decide +kernel
theorem d_R_span_0 : decode b_R_span 0 = .ok (.aload_n 0, 1) := by decide +kernel
theorem d_R_span_1 : decode b_R_span 1 = .ok (.getfield 69, 3) := by decide +kernel
theorem d_R_span_4 : decode b_R_span 4 = .ok (.aload_n 0, 1) := by decide +kernel
theorem d_R_span_5 : decode b_R_span 5 = .ok (.getfield 177, 3) := by decide +kernel
theorem d_R_span_8 : decode b_R_span 8 = .ok (.iload_n 1, 1) := by decide +kernel
theorem d_R_span_9 : decode b_R_span 9 = .ok (.iastore, 1) := by decide +kernel
theorem d_R_span_10 : decode b_R_span 10 = .ok (.aload_n 0, 1) := by decide +kernel
theorem d_R_span_11 : decode b_R_span 11 = .ok (.getfield 72, 3) := by decide +kernel
theorem d_R_span_14 : decode b_R_span 14 = .ok (.aload_n 0, 1) := by decide +kernel
theorem d_R_span_15 : decode b_R_span 15 = .ok (.getfield 177, 3) := by decide +kernel
theorem d_R_span_18 : decode b_R_span 18 = .ok (.lload_n 2, 1) := by decide +kernel
theorem d_R_span_19 : decode b_R_span 19 = .ok (.lastore, 1) := by decide +kernel
theorem d_R_span_20 : decode b_R_span 20 = .ok (.aload_n 0, 1) := by decide +kernel
theorem d_R_span_21 : decode b_R_span 21 = .ok (.getfield 75, 3) := by decide +kernel
theorem d_R_span_24 : decode b_R_span 24 = .ok (.aload_n 0, 1) := by decide +kernel
theorem d_R_span_25 : decode b_R_span 25 = .ok (.getfield 177, 3) := by decide +kernel
theorem d_R_span_28 : decode b_R_span 28 = .ok (.lload 4, 2) := by decide +kernel
theorem d_R_span_30 : decode b_R_span 30 = .ok (.lastore, 1) := by decide +kernel
theorem d_R_span_31 : decode b_R_span 31 = .ok (.aload_n 0, 1) := by decide +kernel
theorem d_R_span_32 : decode b_R_span 32 = .ok (.getfield 81, 3) := by decide +kernel
theorem d_R_span_35 : decode b_R_span 35 = .ok (.aload_n 0, 1) := by decide +kernel
theorem d_R_span_36 : decode b_R_span 36 = .ok (.getfield 177, 3) := by decide +kernel
theorem d_R_span_39 : decode b_R_span 39 = .ok (.iconst 0, 1) := by decide +kernel
theorem d_R_span_40 : decode b_R_span 40 = .ok (.bastore, 1) := by decide +kernel
theorem d_R_span_41 : decode b_R_span 41 = .ok (.aload_n 0, 1) := by decide +kernel
theorem d_R_span_42 : decode b_R_span 42 = .ok (.dup, 1) := by decide +kernel
theorem d_R_span_43 : decode b_R_span 43 = .ok (.getfield 177, 3) := by decide +kernel
theorem d_R_span_46 : decode b_R_span 46 = .ok (.iconst 1, 1) := by decide +kernel
theorem d_R_span_47 : decode b_R_span 47 = .ok (.iadd, 1) := by decide +kernel
theorem d_R_span_48 : decode b_R_span 48 = .ok (.putfield 177, 3) := by decide +kernel
theorem d_R_span_51 : decode b_R_span 51 = .ok (.return_, 1) := by decide +kernel
theorem d_R_spansBy_0 : decode b_R_spansBy 0 = .ok (.iconst 0, 1) := by decide +kernel
theorem d_R_spansBy_1 : decode b_R_spansBy 1 = .ok (.istore 6, 2) := by decide +kernel
theorem d_R_spansBy_3 : decode b_R_spansBy 3 = .ok (.iload 6, 2) := by decide +kernel
theorem d_R_spansBy_5 : decode b_R_spansBy 5 = .ok (.bipush 12, 2) := by decide +kernel
theorem d_R_spansBy_7 : decode b_R_spansBy 7 = .ok (.if_icmp .ge 50, 3) := by decide +kernel
theorem d_R_spansBy_10 : decode b_R_spansBy 10 = .ok (.aload_n 0, 1) := by decide +kernel
theorem d_R_spansBy_11 : decode b_R_spansBy 11 = .ok (.aload_n 0, 1) := by decide +kernel
theorem d_R_spansBy_12 : decode b_R_spansBy 12 = .ok (.iload_n 1, 1) := by decide +kernel
theorem d_R_spansBy_13 : decode b_R_spansBy 13 = .ok (.iload 6, 2) := by decide +kernel
theorem d_R_spansBy_15 : decode b_R_spansBy 15 = .ok (.invokevirtual 180, 3) := by decide +kernel
theorem d_R_spansBy_18 : decode b_R_spansBy 18 = .ok (.lload_n 2, 1) := by decide +kernel
theorem d_R_spansBy_19 : decode b_R_spansBy 19 = .ok (.iload 4, 2) := by decide +kernel
theorem d_R_spansBy_21 : decode b_R_spansBy 21 = .ok (.i2l, 1) := by decide +kernel
theorem d_R_spansBy_22 : decode b_R_spansBy 22 = .ok (.lmul, 1) := by decide +kernel
theorem d_R_spansBy_23 : decode b_R_spansBy 23 = .ok (.aload_n 0, 1) := by decide +kernel
theorem d_R_spansBy_24 : decode b_R_spansBy 24 = .ok (.iload_n 1, 1) := by decide +kernel
theorem d_R_spansBy_25 : decode b_R_spansBy 25 = .ok (.iload 6, 2) := by decide +kernel
theorem d_R_spansBy_27 : decode b_R_spansBy 27 = .ok (.invokevirtual 183, 3) := by decide +kernel
theorem d_R_spansBy_30 : decode b_R_spansBy 30 = .ok (.iload 6, 2) := by decide +kernel
theorem d_R_spansBy_32 : decode b_R_spansBy 32 = .ok (.isub, 1) := by decide +kernel
theorem d_R_spansBy_33 : decode b_R_spansBy 33 = .ok (.i2l, 1) := by decide +kernel
theorem d_R_spansBy_34 : decode b_R_spansBy 34 = .ok (.lmul, 1) := by decide +kernel
theorem d_R_spansBy_35 : decode b_R_spansBy 35 = .ok (.ldc2_w 186, 3) := by decide +kernel
theorem d_R_spansBy_38 : decode b_R_spansBy 38 = .ok (.iload 5, 2) := by decide +kernel
theorem d_R_spansBy_40 : decode b_R_spansBy 40 = .ok (.i2l, 1) := by decide +kernel
theorem d_R_spansBy_41 : decode b_R_spansBy 41 = .ok (.lmul, 1) := by decide +kernel
theorem d_R_spansBy_42 : decode b_R_spansBy 42 = .ok (.invokevirtual 188, 3) := by decide +kernel
theorem d_R_spansBy_45 : decode b_R_spansBy 45 = .ok (.aload_n 0, 1) := by decide +kernel
theorem d_R_spansBy_46 : decode b_R_spansBy 46 = .ok (.iload_n 1, 1) := by decide +kernel
theorem d_R_spansBy_47 : decode b_R_spansBy 47 = .ok (.iload 6, 2) := by decide +kernel
theorem d_R_spansBy_49 : decode b_R_spansBy 49 = .ok (.invokevirtual 183, 3) := by decide +kernel
theorem d_R_spansBy_52 : decode b_R_spansBy 52 = .ok (.istore 6, 2) := by decide +kernel
theorem d_R_spansBy_54 : decode b_R_spansBy 54 = .ok (.goto (-51), 3) := by decide +kernel
theorem d_R_spansBy_57 : decode b_R_spansBy 57 = .ok (.return_, 1) := by decide +kernel
theorem d_R_stretchOf_0 : decode b_R_stretchOf 0 = .ok (.aload_n 0, 1) := by decide +kernel
theorem d_R_stretchOf_1 : decode b_R_stretchOf 1 = .ok (.iload_n 1, 1) := by decide +kernel
theorem d_R_stretchOf_2 : decode b_R_stretchOf 2 = .ok (.invokevirtual 128, 3) := by decide +kernel
theorem d_R_stretchOf_5 : decode b_R_stretchOf 5 = .ok (.ifCond .ne 14, 3) := by decide +kernel
theorem d_R_stretchOf_8 : decode b_R_stretchOf 8 = .ok (.iload_n 3, 1) := by decide +kernel
theorem d_R_stretchOf_9 : decode b_R_stretchOf 9 = .ok (.ifCond .eq 8, 3) := by decide +kernel
theorem d_R_stretchOf_12 : decode b_R_stretchOf 12 = .ok (.bipush 12, 2) := by decide +kernel
theorem d_R_stretchOf_14 : decode b_R_stretchOf 14 = .ok (.goto 4, 3) := by decide +kernel
theorem d_R_stretchOf_17 : decode b_R_stretchOf 17 = .ok (.iconst 0, 1) := by decide +kernel
theorem d_R_stretchOf_18 : decode b_R_stretchOf 18 = .ok (.ireturn, 1) := by decide +kernel
theorem d_R_stretchOf_19 : decode b_R_stretchOf 19 = .ok (.iload_n 3, 1) := by decide +kernel
theorem d_R_stretchOf_20 : decode b_R_stretchOf 20 = .ok (.ifCond .eq 9, 3) := by decide +kernel
theorem d_R_stretchOf_23 : decode b_R_stretchOf 23 = .ok (.iload_n 2, 1) := by decide +kernel
theorem d_R_stretchOf_24 : decode b_R_stretchOf 24 = .ok (.iconst 1, 1) := by decide +kernel
theorem d_R_stretchOf_25 : decode b_R_stretchOf 25 = .ok (.iadd, 1) := by decide +kernel
theorem d_R_stretchOf_26 : decode b_R_stretchOf 26 = .ok (.goto 4, 3) := by decide +kernel
theorem d_R_stretchOf_29 : decode b_R_stretchOf 29 = .ok (.iload_n 2, 1) := by decide +kernel
theorem d_R_stretchOf_30 : decode b_R_stretchOf 30 = .ok (.istore 4, 2) := by decide +kernel
theorem d_R_stretchOf_32 : decode b_R_stretchOf 32 = .ok (.aload_n 0, 1) := by decide +kernel
theorem d_R_stretchOf_33 : decode b_R_stretchOf 33 = .ok (.getfield 19, 3) := by decide +kernel
theorem d_R_stretchOf_36 : decode b_R_stretchOf 36 = .ok (.bipush 13, 2) := by decide +kernel
theorem d_R_stretchOf_38 : decode b_R_stretchOf 38 = .ok (.iload_n 1, 1) := by decide +kernel
theorem d_R_stretchOf_39 : decode b_R_stretchOf 39 = .ok (.imul, 1) := by decide +kernel
theorem d_R_stretchOf_40 : decode b_R_stretchOf 40 = .ok (.iload 4, 2) := by decide +kernel
theorem d_R_stretchOf_42 : decode b_R_stretchOf 42 = .ok (.iadd, 1) := by decide +kernel
theorem d_R_stretchOf_43 : decode b_R_stretchOf 43 = .ok (.iaload, 1) := by decide +kernel
theorem d_R_stretchOf_44 : decode b_R_stretchOf 44 = .ok (.ifCond .ge 23, 3) := by decide +kernel
theorem d_R_stretchOf_47 : decode b_R_stretchOf 47 = .ok (.iload_n 3, 1) := by decide +kernel
theorem d_R_stretchOf_48 : decode b_R_stretchOf 48 = .ok (.ifCond .eq 10, 3) := by decide +kernel
theorem d_R_stretchOf_51 : decode b_R_stretchOf 51 = .ok (.iload 4, 2) := by decide +kernel
theorem d_R_stretchOf_53 : decode b_R_stretchOf 53 = .ok (.iconst 1, 1) := by decide +kernel
theorem d_R_stretchOf_54 : decode b_R_stretchOf 54 = .ok (.iadd, 1) := by decide +kernel
theorem d_R_stretchOf_55 : decode b_R_stretchOf 55 = .ok (.goto 7, 3) := by decide +kernel
theorem d_R_stretchOf_58 : decode b_R_stretchOf 58 = .ok (.iload 4, 2) := by decide +kernel
theorem d_R_stretchOf_60 : decode b_R_stretchOf 60 = .ok (.iconst 1, 1) := by decide +kernel
theorem d_R_stretchOf_61 : decode b_R_stretchOf 61 = .ok (.isub, 1) := by decide +kernel
theorem d_R_stretchOf_62 : decode b_R_stretchOf 62 = .ok (.istore 4, 2) := by decide +kernel
theorem d_R_stretchOf_64 : decode b_R_stretchOf 64 = .ok (.goto (-32), 3) := by decide +kernel
theorem d_R_stretchOf_67 : decode b_R_stretchOf 67 = .ok (.iload 4, 2) := by decide +kernel
theorem d_R_stretchOf_69 : decode b_R_stretchOf 69 = .ok (.ireturn, 1) := by decide +kernel
theorem d_R_degreesOf_0 : decode b_R_degreesOf 0 = .ok (.iconst 0, 1) := by decide +kernel
theorem d_R_degreesOf_1 : decode b_R_degreesOf 1 = .ok (.istore_n 3, 1) := by decide +kernel
theorem d_R_degreesOf_2 : decode b_R_degreesOf 2 = .ok (.iload_n 1, 1) := by decide +kernel
theorem d_R_degreesOf_3 : decode b_R_degreesOf 3 = .ok (.istore 4, 2) := by decide +kernel
theorem d_R_degreesOf_5 : decode b_R_degreesOf 5 = .ok (.iload 4, 2) := by decide +kernel
theorem d_R_degreesOf_7 : decode b_R_degreesOf 7 = .ok (.iload_n 2, 1) := by decide +kernel
theorem d_R_degreesOf_8 : decode b_R_degreesOf 8 = .ok (.if_icmp .ge 19, 3) := by decide +kernel
theorem d_R_degreesOf_11 : decode b_R_degreesOf 11 = .ok (.iload_n 3, 1) := by decide +kernel
theorem d_R_degreesOf_12 : decode b_R_degreesOf 12 = .ok (.aload_n 0, 1) := by decide +kernel
theorem d_R_degreesOf_13 : decode b_R_degreesOf 13 = .ok (.getfield 47, 3) := by decide +kernel
theorem d_R_degreesOf_16 : decode b_R_degreesOf 16 = .ok (.iload 4, 2) := by decide +kernel
theorem d_R_degreesOf_18 : decode b_R_degreesOf 18 = .ok (.iaload, 1) := by decide +kernel
theorem d_R_degreesOf_19 : decode b_R_degreesOf 19 = .ok (.iadd, 1) := by decide +kernel
theorem d_R_degreesOf_20 : decode b_R_degreesOf 20 = .ok (.istore_n 3, 1) := by decide +kernel
theorem d_R_degreesOf_21 : decode b_R_degreesOf 21 = .ok (.iinc 4 1, 3) := by decide +kernel
theorem d_R_degreesOf_24 : decode b_R_degreesOf 24 = .ok (.goto (-19), 3) := by decide +kernel
theorem d_R_degreesOf_27 : decode b_R_degreesOf 27 = .ok (.iload_n 3, 1) := by decide +kernel
theorem d_R_degreesOf_28 : decode b_R_degreesOf 28 = .ok (.ireturn, 1) := by decide +kernel
theorem d_R_weight_0 : decode b_R_weight 0 = .ok (.aload_n 0, 1) := by decide +kernel
theorem d_R_weight_1 : decode b_R_weight 1 = .ok (.iload_n 3, 1) := by decide +kernel
theorem d_R_weight_2 : decode b_R_weight 2 = .ok (.iload 4, 2) := by decide +kernel
theorem d_R_weight_4 : decode b_R_weight 4 = .ok (.invokevirtual 192, 3) := by decide +kernel
theorem d_R_weight_7 : decode b_R_weight 7 = .ok (.ifCond .le 12, 3) := by decide +kernel
theorem d_R_weight_10 : decode b_R_weight 10 = .ok (.aload_n 0, 1) := by decide +kernel
theorem d_R_weight_11 : decode b_R_weight 11 = .ok (.iload_n 1, 1) := by decide +kernel
theorem d_R_weight_12 : decode b_R_weight 12 = .ok (.iload_n 2, 1) := by decide +kernel
theorem d_R_weight_13 : decode b_R_weight 13 = .ok (.invokevirtual 192, 3) := by decide +kernel
theorem d_R_weight_16 : decode b_R_weight 16 = .ok (.goto 6, 3) := by decide +kernel
theorem d_R_weight_19 : decode b_R_weight 19 = .ok (.iload_n 2, 1) := by decide +kernel
theorem d_R_weight_20 : decode b_R_weight 20 = .ok (.iload_n 1, 1) := by decide +kernel
theorem d_R_weight_21 : decode b_R_weight 21 = .ok (.isub, 1) := by decide +kernel
theorem d_R_weight_22 : decode b_R_weight 22 = .ok (.ireturn, 1) := by decide +kernel
theorem d_R_spanByMeter_0 : decode b_R_spanByMeter 0 = .ok (.lconst 0, 1) := by decide +kernel
theorem d_R_spanByMeter_1 : decode b_R_spanByMeter 1 = .ok (.lstore 8, 2) := by decide +kernel
theorem d_R_spanByMeter_3 : decode b_R_spanByMeter 3 = .ok (.lconst 0, 1) := by decide +kernel
theorem d_R_spanByMeter_4 : decode b_R_spanByMeter 4 = .ok (.lstore 10, 2) := by decide +kernel
theorem d_R_spanByMeter_6 : decode b_R_spanByMeter 6 = .ok (.lconst 1, 1) := by decide +kernel
theorem d_R_spanByMeter_7 : decode b_R_spanByMeter 7 = .ok (.lstore 12, 2) := by decide +kernel
theorem d_R_spanByMeter_9 : decode b_R_spanByMeter 9 = .ok (.iload_n 2, 1) := by decide +kernel
theorem d_R_spanByMeter_10 : decode b_R_spanByMeter 10 = .ok (.istore 14, 2) := by decide +kernel
theorem d_R_spanByMeter_12 : decode b_R_spanByMeter 12 = .ok (.iload 14, 2) := by decide +kernel
theorem d_R_spanByMeter_14 : decode b_R_spanByMeter 14 = .ok (.iload_n 3, 1) := by decide +kernel
theorem d_R_spanByMeter_15 : decode b_R_spanByMeter 15 = .ok (.if_icmp .ge 175, 3) := by decide +kernel
theorem d_R_spanByMeter_18 : decode b_R_spanByMeter 18 = .ok (.aload_n 0, 1) := by decide +kernel
theorem d_R_spanByMeter_19 : decode b_R_spanByMeter 19 = .ok (.iload_n 1, 1) := by decide +kernel
theorem d_R_spanByMeter_20 : decode b_R_spanByMeter 20 = .ok (.iload 14, 2) := by decide +kernel
theorem d_R_spanByMeter_22 : decode b_R_spanByMeter 22 = .ok (.iconst 0, 1) := by decide +kernel
theorem d_R_spanByMeter_23 : decode b_R_spanByMeter 23 = .ok (.invokevirtual 195, 3) := by decide +kernel
theorem d_R_spanByMeter_26 : decode b_R_spanByMeter 26 = .ok (.istore 15, 2) := by decide +kernel
theorem d_R_spanByMeter_28 : decode b_R_spanByMeter 28 = .ok (.aload_n 0, 1) := by decide +kernel
theorem d_R_spanByMeter_29 : decode b_R_spanByMeter 29 = .ok (.iload_n 1, 1) := by decide +kernel
theorem d_R_spanByMeter_30 : decode b_R_spanByMeter 30 = .ok (.iload 14, 2) := by decide +kernel
theorem d_R_spanByMeter_32 : decode b_R_spanByMeter 32 = .ok (.iconst 1, 1) := by decide +kernel
theorem d_R_spanByMeter_33 : decode b_R_spanByMeter 33 = .ok (.invokevirtual 195, 3) := by decide +kernel
theorem d_R_spanByMeter_36 : decode b_R_spanByMeter 36 = .ok (.istore 16, 2) := by decide +kernel
theorem d_R_spanByMeter_38 : decode b_R_spanByMeter 38 = .ok (.iload 16, 2) := by decide +kernel
theorem d_R_spanByMeter_40 : decode b_R_spanByMeter 40 = .ok (.iload_n 3, 1) := by decide +kernel
theorem d_R_spanByMeter_41 : decode b_R_spanByMeter 41 = .ok (.if_icmp .ge 8, 3) := by decide +kernel
theorem d_R_spanByMeter_44 : decode b_R_spanByMeter 44 = .ok (.iload 16, 2) := by decide +kernel
theorem d_R_spanByMeter_46 : decode b_R_spanByMeter 46 = .ok (.goto 4, 3) := by decide +kernel
theorem d_R_spanByMeter_49 : decode b_R_spanByMeter 49 = .ok (.iload_n 3, 1) := by decide +kernel
theorem d_R_spanByMeter_50 : decode b_R_spanByMeter 50 = .ok (.istore 17, 2) := by decide +kernel
theorem d_R_spanByMeter_52 : decode b_R_spanByMeter 52 = .ok (.aload_n 0, 1) := by decide +kernel
theorem d_R_spanByMeter_53 : decode b_R_spanByMeter 53 = .ok (.iload_n 1, 1) := by decide +kernel
theorem d_R_spanByMeter_54 : decode b_R_spanByMeter 54 = .ok (.invokevirtual 128, 3) := by decide +kernel
theorem d_R_spanByMeter_57 : decode b_R_spanByMeter 57 = .ok (.ifCond .eq 45, 3) := by decide +kernel
theorem d_R_spanByMeter_60 : decode b_R_spanByMeter 60 = .ok (.aload_n 0, 1) := by decide +kernel
theorem d_R_spanByMeter_61 : decode b_R_spanByMeter 61 = .ok (.getfield 150, 3) := by decide +kernel
theorem d_R_spanByMeter_64 : decode b_R_spanByMeter 64 = .ok (.aload_n 0, 1) := by decide +kernel
theorem d_R_spanByMeter_65 : decode b_R_spanByMeter 65 = .ok (.getfield 16, 3) := by decide +kernel
theorem d_R_spanByMeter_68 : decode b_R_spanByMeter 68 = .ok (.iload_n 1, 1) := by decide +kernel
theorem d_R_spanByMeter_69 : decode b_R_spanByMeter 69 = .ok (.iaload, 1) := by decide +kernel
theorem d_R_spanByMeter_70 : decode b_R_spanByMeter 70 = .ok (.i2l, 1) := by decide +kernel
theorem d_R_spanByMeter_71 : decode b_R_spanByMeter 71 = .ok (.lmul, 1) := by decide +kernel
theorem d_R_spanByMeter_72 : decode b_R_spanByMeter 72 = .ok (.aload_n 0, 1) := by decide +kernel
theorem d_R_spanByMeter_73 : decode b_R_spanByMeter 73 = .ok (.getfield 19, 3) := by decide +kernel
theorem d_R_spanByMeter_76 : decode b_R_spanByMeter 76 = .ok (.bipush 13, 2) := by decide +kernel
theorem d_R_spanByMeter_78 : decode b_R_spanByMeter 78 = .ok (.iload_n 1, 1) := by decide +kernel
theorem d_R_spanByMeter_79 : decode b_R_spanByMeter 79 = .ok (.imul, 1) := by decide +kernel
theorem d_R_spanByMeter_80 : decode b_R_spanByMeter 80 = .ok (.iload 16, 2) := by decide +kernel
theorem d_R_spanByMeter_82 : decode b_R_spanByMeter 82 = .ok (.iadd, 1) := by decide +kernel
theorem d_R_spanByMeter_83 : decode b_R_spanByMeter 83 = .ok (.iaload, 1) := by decide +kernel
theorem d_R_spanByMeter_84 : decode b_R_spanByMeter 84 = .ok (.aload_n 0, 1) := by decide +kernel
theorem d_R_spanByMeter_85 : decode b_R_spanByMeter 85 = .ok (.getfield 19, 3) := by decide +kernel
theorem d_R_spanByMeter_88 : decode b_R_spanByMeter 88 = .ok (.bipush 13, 2) := by decide +kernel
theorem d_R_spanByMeter_90 : decode b_R_spanByMeter 90 = .ok (.iload_n 1, 1) := by decide +kernel
theorem d_R_spanByMeter_91 : decode b_R_spanByMeter 91 = .ok (.imul, 1) := by decide +kernel
theorem d_R_spanByMeter_92 : decode b_R_spanByMeter 92 = .ok (.iload 15, 2) := by decide +kernel
theorem d_R_spanByMeter_94 : decode b_R_spanByMeter 94 = .ok (.iadd, 1) := by decide +kernel
theorem d_R_spanByMeter_95 : decode b_R_spanByMeter 95 = .ok (.iaload, 1) := by decide +kernel
theorem d_R_spanByMeter_96 : decode b_R_spanByMeter 96 = .ok (.isub, 1) := by decide +kernel
theorem d_R_spanByMeter_97 : decode b_R_spanByMeter 97 = .ok (.i2l, 1) := by decide +kernel
theorem d_R_spanByMeter_98 : decode b_R_spanByMeter 98 = .ok (.lmul, 1) := by decide +kernel
theorem d_R_spanByMeter_99 : decode b_R_spanByMeter 99 = .ok (.goto 9, 3) := by decide +kernel
theorem d_R_spanByMeter_102 : decode b_R_spanByMeter 102 = .ok (.aload_n 0, 1) := by decide +kernel
theorem d_R_spanByMeter_103 : decode b_R_spanByMeter 103 = .ok (.getfield 65, 3) := by decide +kernel
theorem d_R_spanByMeter_106 : decode b_R_spanByMeter 106 = .ok (.iload_n 1, 1) := by decide +kernel
theorem d_R_spanByMeter_107 : decode b_R_spanByMeter 107 = .ok (.laload, 1) := by decide +kernel
theorem d_R_spanByMeter_108 : decode b_R_spanByMeter 108 = .ok (.lstore 18, 2) := by decide +kernel
theorem d_R_spanByMeter_110 : decode b_R_spanByMeter 110 = .ok (.iload 15, 2) := by decide +kernel
theorem d_R_spanByMeter_112 : decode b_R_spanByMeter 112 = .ok (.iload 14, 2) := by decide +kernel
theorem d_R_spanByMeter_114 : decode b_R_spanByMeter 114 = .ok (.if_icmp .ne 20, 3) := by decide +kernel
theorem d_R_spanByMeter_117 : decode b_R_spanByMeter 117 = .ok (.iload 16, 2) := by decide +kernel
theorem d_R_spanByMeter_119 : decode b_R_spanByMeter 119 = .ok (.iload 17, 2) := by decide +kernel
theorem d_R_spanByMeter_121 : decode b_R_spanByMeter 121 = .ok (.if_icmp .ne 13, 3) := by decide +kernel
theorem d_R_spanByMeter_124 : decode b_R_spanByMeter 124 = .ok (.lload 8, 2) := by decide +kernel
theorem d_R_spanByMeter_126 : decode b_R_spanByMeter 126 = .ok (.lload 18, 2) := by decide +kernel
theorem d_R_spanByMeter_128 : decode b_R_spanByMeter 128 = .ok (.ladd, 1) := by decide +kernel
theorem d_R_spanByMeter_129 : decode b_R_spanByMeter 129 = .ok (.lstore 8, 2) := by decide +kernel
theorem d_R_spanByMeter_131 : decode b_R_spanByMeter 131 = .ok (.goto 52, 3) := by decide +kernel
theorem d_R_spanByMeter_134 : decode b_R_spanByMeter 134 = .ok (.aload_n 0, 1) := by decide +kernel
theorem d_R_spanByMeter_135 : decode b_R_spanByMeter 135 = .ok (.iload 15, 2) := by decide +kernel
theorem d_R_spanByMeter_137 : decode b_R_spanByMeter 137 = .ok (.iload 16, 2) := by decide +kernel
theorem d_R_spanByMeter_139 : decode b_R_spanByMeter 139 = .ok (.iload 15, 2) := by decide +kernel
theorem d_R_spanByMeter_141 : decode b_R_spanByMeter 141 = .ok (.iload 16, 2) := by decide +kernel
theorem d_R_spanByMeter_143 : decode b_R_spanByMeter 143 = .ok (.invokevirtual 199, 3) := by decide +kernel
theorem d_R_spanByMeter_146 : decode b_R_spanByMeter 146 = .ok (.i2l, 1) := by decide +kernel
theorem d_R_spanByMeter_147 : decode b_R_spanByMeter 147 = .ok (.lstore 20, 2) := by decide +kernel
theorem d_R_spanByMeter_149 : decode b_R_spanByMeter 149 = .ok (.lload 10, 2) := by decide +kernel
theorem d_R_spanByMeter_151 : decode b_R_spanByMeter 151 = .ok (.lload 20, 2) := by decide +kernel
theorem d_R_spanByMeter_153 : decode b_R_spanByMeter 153 = .ok (.lmul, 1) := by decide +kernel
theorem d_R_spanByMeter_154 : decode b_R_spanByMeter 154 = .ok (.lload 18, 2) := by decide +kernel
theorem d_R_spanByMeter_156 : decode b_R_spanByMeter 156 = .ok (.aload_n 0, 1) := by decide +kernel
theorem d_R_spanByMeter_157 : decode b_R_spanByMeter 157 = .ok (.iload 14, 2) := by decide +kernel
theorem d_R_spanByMeter_159 : decode b_R_spanByMeter 159 = .ok (.iload 17, 2) := by decide +kernel
theorem d_R_spanByMeter_161 : decode b_R_spanByMeter 161 = .ok (.iload 15, 2) := by decide +kernel
theorem d_R_spanByMeter_163 : decode b_R_spanByMeter 163 = .ok (.iload 16, 2) := by decide +kernel
theorem d_R_spanByMeter_165 : decode b_R_spanByMeter 165 = .ok (.invokevirtual 199, 3) := by decide +kernel
theorem d_R_spanByMeter_168 : decode b_R_spanByMeter 168 = .ok (.i2l, 1) := by decide +kernel
theorem d_R_spanByMeter_169 : decode b_R_spanByMeter 169 = .ok (.lmul, 1) := by decide +kernel
theorem d_R_spanByMeter_170 : decode b_R_spanByMeter 170 = .ok (.lload 12, 2) := by decide +kernel
theorem d_R_spanByMeter_172 : decode b_R_spanByMeter 172 = .ok (.lmul, 1) := by decide +kernel
theorem d_R_spanByMeter_173 : decode b_R_spanByMeter 173 = .ok (.ladd, 1) := by decide +kernel
theorem d_R_spanByMeter_174 : decode b_R_spanByMeter 174 = .ok (.lstore 10, 2) := by decide +kernel
theorem d_R_spanByMeter_176 : decode b_R_spanByMeter 176 = .ok (.lload 12, 2) := by decide +kernel
theorem d_R_spanByMeter_178 : decode b_R_spanByMeter 178 = .ok (.lload 20, 2) := by decide +kernel
theorem d_R_spanByMeter_180 : decode b_R_spanByMeter 180 = .ok (.lmul, 1) := by decide +kernel
theorem d_R_spanByMeter_181 : decode b_R_spanByMeter 181 = .ok (.lstore 12, 2) := by decide +kernel
theorem d_R_spanByMeter_183 : decode b_R_spanByMeter 183 = .ok (.iload 17, 2) := by decide +kernel
theorem d_R_spanByMeter_185 : decode b_R_spanByMeter 185 = .ok (.istore 14, 2) := by decide +kernel
theorem d_R_spanByMeter_187 : decode b_R_spanByMeter 187 = .ok (.goto (-175), 3) := by decide +kernel
theorem d_R_spanByMeter_190 : decode b_R_spanByMeter 190 = .ok (.aload_n 0, 1) := by decide +kernel
theorem d_R_spanByMeter_191 : decode b_R_spanByMeter 191 = .ok (.aload_n 0, 1) := by decide +kernel
theorem d_R_spanByMeter_192 : decode b_R_spanByMeter 192 = .ok (.iload_n 1, 1) := by decide +kernel
theorem d_R_spanByMeter_193 : decode b_R_spanByMeter 193 = .ok (.iload_n 2, 1) := by decide +kernel
theorem d_R_spanByMeter_194 : decode b_R_spanByMeter 194 = .ok (.invokevirtual 180, 3) := by decide +kernel
theorem d_R_spanByMeter_197 : decode b_R_spanByMeter 197 = .ok (.lload 4, 2) := by decide +kernel
theorem d_R_spanByMeter_199 : decode b_R_spanByMeter 199 = .ok (.lload 8, 2) := by decide +kernel
theorem d_R_spanByMeter_201 : decode b_R_spanByMeter 201 = .ok (.lload 12, 2) := by decide +kernel
theorem d_R_spanByMeter_203 : decode b_R_spanByMeter 203 = .ok (.lmul, 1) := by decide +kernel
theorem d_R_spanByMeter_204 : decode b_R_spanByMeter 204 = .ok (.lload 10, 2) := by decide +kernel
theorem d_R_spanByMeter_206 : decode b_R_spanByMeter 206 = .ok (.ladd, 1) := by decide +kernel
theorem d_R_spanByMeter_207 : decode b_R_spanByMeter 207 = .ok (.lmul, 1) := by decide +kernel
theorem d_R_spanByMeter_208 : decode b_R_spanByMeter 208 = .ok (.lload 6, 2) := by decide +kernel
theorem d_R_spanByMeter_210 : decode b_R_spanByMeter 210 = .ok (.lload 12, 2) := by decide +kernel
theorem d_R_spanByMeter_212 : decode b_R_spanByMeter 212 = .ok (.lmul, 1) := by decide +kernel
theorem d_R_spanByMeter_213 : decode b_R_spanByMeter 213 = .ok (.invokevirtual 188, 3) := by decide +kernel
theorem d_R_spanByMeter_216 : decode b_R_spanByMeter 216 = .ok (.return_, 1) := by decide +kernel
theorem d_R_isMore_0 : decode b_R_isMore 0 = .ok (.lload_n 0, 1) := by decide +kernel
theorem d_R_isMore_1 : decode b_R_isMore 1 = .ok (.lstore 8, 2) := by decide +kernel
theorem d_R_isMore_3 : decode b_R_isMore 3 = .ok (.lload_n 2, 1) := by decide +kernel
theorem d_R_isMore_4 : decode b_R_isMore 4 = .ok (.lstore 10, 2) := by decide +kernel
theorem d_R_isMore_6 : decode b_R_isMore 6 = .ok (.lload 4, 2) := by decide +kernel
theorem d_R_isMore_8 : decode b_R_isMore 8 = .ok (.lstore 12, 2) := by decide +kernel
theorem d_R_isMore_10 : decode b_R_isMore 10 = .ok (.lload 6, 2) := by decide +kernel
theorem d_R_isMore_12 : decode b_R_isMore 12 = .ok (.lstore 14, 2) := by decide +kernel
theorem d_R_isMore_14 : decode b_R_isMore 14 = .ok (.iconst 0, 1) := by decide +kernel
theorem d_R_isMore_15 : decode b_R_isMore 15 = .ok (.istore 16, 2) := by decide +kernel
theorem d_R_isMore_17 : decode b_R_isMore 17 = .ok (.lload 8, 2) := by decide +kernel
theorem d_R_isMore_19 : decode b_R_isMore 19 = .ok (.lload 10, 2) := by decide +kernel
theorem d_R_isMore_21 : decode b_R_isMore 21 = .ok (.ldiv, 1) := by decide +kernel
theorem d_R_isMore_22 : decode b_R_isMore 22 = .ok (.lload 12, 2) := by decide +kernel
theorem d_R_isMore_24 : decode b_R_isMore 24 = .ok (.lload 14, 2) := by decide +kernel
theorem d_R_isMore_26 : decode b_R_isMore 26 = .ok (.ldiv, 1) := by decide +kernel
theorem d_R_isMore_27 : decode b_R_isMore 27 = .ok (.lcmp, 1) := by decide +kernel
theorem d_R_isMore_28 : decode b_R_isMore 28 = .ok (.ifCond .ne 97, 3) := by decide +kernel
theorem d_R_isMore_31 : decode b_R_isMore 31 = .ok (.lload 8, 2) := by decide +kernel
theorem d_R_isMore_33 : decode b_R_isMore 33 = .ok (.lload 10, 2) := by decide +kernel
theorem d_R_isMore_35 : decode b_R_isMore 35 = .ok (.lrem, 1) := by decide +kernel
theorem d_R_isMore_36 : decode b_R_isMore 36 = .ok (.lstore 17, 2) := by decide +kernel
theorem d_R_isMore_38 : decode b_R_isMore 38 = .ok (.lload 12, 2) := by decide +kernel
theorem d_R_isMore_40 : decode b_R_isMore 40 = .ok (.lload 14, 2) := by decide +kernel
theorem d_R_isMore_42 : decode b_R_isMore 42 = .ok (.lrem, 1) := by decide +kernel
theorem d_R_isMore_43 : decode b_R_isMore 43 = .ok (.lstore 19, 2) := by decide +kernel
theorem d_R_isMore_45 : decode b_R_isMore 45 = .ok (.lload 17, 2) := by decide +kernel
theorem d_R_isMore_47 : decode b_R_isMore 47 = .ok (.lconst 0, 1) := by decide +kernel
theorem d_R_isMore_48 : decode b_R_isMore 48 = .ok (.lcmp, 1) := by decide +kernel
theorem d_R_isMore_49 : decode b_R_isMore 49 = .ok (.ifCond .eq 10, 3) := by decide +kernel
theorem d_R_isMore_52 : decode b_R_isMore 52 = .ok (.lload 19, 2) := by decide +kernel
theorem d_R_isMore_54 : decode b_R_isMore 54 = .ok (.lconst 0, 1) := by decide +kernel
theorem d_R_isMore_55 : decode b_R_isMore 55 = .ok (.lcmp, 1) := by decide +kernel
theorem d_R_isMore_56 : decode b_R_isMore 56 = .ok (.ifCond .ne 38, 3) := by decide +kernel
theorem d_R_isMore_59 : decode b_R_isMore 59 = .ok (.iload 16, 2) := by decide +kernel
theorem d_R_isMore_61 : decode b_R_isMore 61 = .ok (.ifCond .eq 19, 3) := by decide +kernel
theorem d_R_isMore_64 : decode b_R_isMore 64 = .ok (.lload 17, 2) := by decide +kernel
theorem d_R_isMore_66 : decode b_R_isMore 66 = .ok (.lload 19, 2) := by decide +kernel
theorem d_R_isMore_68 : decode b_R_isMore 68 = .ok (.lcmp, 1) := by decide +kernel
theorem d_R_isMore_69 : decode b_R_isMore 69 = .ok (.ifCond .ge 7, 3) := by decide +kernel
theorem d_R_isMore_72 : decode b_R_isMore 72 = .ok (.iconst 1, 1) := by decide +kernel
theorem d_R_isMore_73 : decode b_R_isMore 73 = .ok (.goto 20, 3) := by decide +kernel
theorem d_R_isMore_76 : decode b_R_isMore 76 = .ok (.iconst 0, 1) := by decide +kernel
theorem d_R_isMore_77 : decode b_R_isMore 77 = .ok (.goto 16, 3) := by decide +kernel
theorem d_R_isMore_80 : decode b_R_isMore 80 = .ok (.lload 17, 2) := by decide +kernel
theorem d_R_isMore_82 : decode b_R_isMore 82 = .ok (.lload 19, 2) := by decide +kernel
theorem d_R_isMore_84 : decode b_R_isMore 84 = .ok (.lcmp, 1) := by decide +kernel
theorem d_R_isMore_85 : decode b_R_isMore 85 = .ok (.ifCond .le 7, 3) := by decide +kernel
theorem d_R_isMore_88 : decode b_R_isMore 88 = .ok (.iconst 1, 1) := by decide +kernel
theorem d_R_isMore_89 : decode b_R_isMore 89 = .ok (.goto 4, 3) := by decide +kernel
theorem d_R_isMore_92 : decode b_R_isMore 92 = .ok (.iconst 0, 1) := by decide +kernel
theorem d_R_isMore_93 : decode b_R_isMore 93 = .ok (.ireturn, 1) := by decide +kernel
theorem d_R_isMore_94 : decode b_R_isMore 94 = .ok (.lload 10, 2) := by decide +kernel
theorem d_R_isMore_96 : decode b_R_isMore 96 = .ok (.lstore 8, 2) := by decide +kernel
theorem d_R_isMore_98 : decode b_R_isMore 98 = .ok (.lload 17, 2) := by decide +kernel
theorem d_R_isMore_100 : decode b_R_isMore 100 = .ok (.lstore 10, 2) := by decide +kernel
theorem d_R_isMore_102 : decode b_R_isMore 102 = .ok (.lload 14, 2) := by decide +kernel
theorem d_R_isMore_104 : decode b_R_isMore 104 = .ok (.lstore 12, 2) := by decide +kernel
theorem d_R_isMore_106 : decode b_R_isMore 106 = .ok (.lload 19, 2) := by decide +kernel
theorem d_R_isMore_108 : decode b_R_isMore 108 = .ok (.lstore 14, 2) := by decide +kernel
theorem d_R_isMore_110 : decode b_R_isMore 110 = .ok (.iload 16, 2) := by decide +kernel
theorem d_R_isMore_112 : decode b_R_isMore 112 = .ok (.ifCond .ne 7, 3) := by decide +kernel
theorem d_R_isMore_115 : decode b_R_isMore 115 = .ok (.iconst 1, 1) := by decide +kernel
theorem d_R_isMore_116 : decode b_R_isMore 116 = .ok (.goto 4, 3) := by decide +kernel
theorem d_R_isMore_119 : decode b_R_isMore 119 = .ok (.iconst 0, 1) := by decide +kernel
theorem d_R_isMore_120 : decode b_R_isMore 120 = .ok (.istore 16, 2) := by decide +kernel
theorem d_R_isMore_122 : decode b_R_isMore 122 = .ok (.goto (-105), 3) := by decide +kernel
theorem d_R_isMore_125 : decode b_R_isMore 125 = .ok (.iload 16, 2) := by decide +kernel
theorem d_R_isMore_127 : decode b_R_isMore 127 = .ok (.ifCond .eq 25, 3) := by decide +kernel
theorem d_R_isMore_130 : decode b_R_isMore 130 = .ok (.lload 8, 2) := by decide +kernel
theorem d_R_isMore_132 : decode b_R_isMore 132 = .ok (.lload 10, 2) := by decide +kernel
theorem d_R_isMore_134 : decode b_R_isMore 134 = .ok (.ldiv, 1) := by decide +kernel
theorem d_R_isMore_135 : decode b_R_isMore 135 = .ok (.lload 12, 2) := by decide +kernel
theorem d_R_isMore_137 : decode b_R_isMore 137 = .ok (.lload 14, 2) := by decide +kernel
theorem d_R_isMore_139 : decode b_R_isMore 139 = .ok (.ldiv, 1) := by decide +kernel
theorem d_R_isMore_140 : decode b_R_isMore 140 = .ok (.lcmp, 1) := by decide +kernel
theorem d_R_isMore_141 : decode b_R_isMore 141 = .ok (.ifCond .ge 7, 3) := by decide +kernel
theorem d_R_isMore_144 : decode b_R_isMore 144 = .ok (.iconst 1, 1) := by decide +kernel
theorem d_R_isMore_145 : decode b_R_isMore 145 = .ok (.goto 26, 3) := by decide +kernel
theorem d_R_isMore_148 : decode b_R_isMore 148 = .ok (.iconst 0, 1) := by decide +kernel
theorem d_R_isMore_149 : decode b_R_isMore 149 = .ok (.goto 22, 3) := by decide +kernel
theorem d_R_isMore_152 : decode b_R_isMore 152 = .ok (.lload 8, 2) := by decide +kernel
theorem d_R_isMore_154 : decode b_R_isMore 154 = .ok (.lload 10, 2) := by decide +kernel
theorem d_R_isMore_156 : decode b_R_isMore 156 = .ok (.ldiv, 1) := by decide +kernel
theorem d_R_isMore_157 : decode b_R_isMore 157 = .ok (.lload 12, 2) := by decide +kernel
theorem d_R_isMore_159 : decode b_R_isMore 159 = .ok (.lload 14, 2) := by decide +kernel
theorem d_R_isMore_161 : decode b_R_isMore 161 = .ok (.ldiv, 1) := by decide +kernel
theorem d_R_isMore_162 : decode b_R_isMore 162 = .ok (.lcmp, 1) := by decide +kernel
theorem d_R_isMore_163 : decode b_R_isMore 163 = .ok (.ifCond .le 7, 3) := by decide +kernel
theorem d_R_isMore_166 : decode b_R_isMore 166 = .ok (.iconst 1, 1) := by decide +kernel
theorem d_R_isMore_167 : decode b_R_isMore 167 = .ok (.goto 4, 3) := by decide +kernel
theorem d_R_isMore_170 : decode b_R_isMore 170 = .ok (.iconst 0, 1) := by decide +kernel
theorem d_R_isMore_171 : decode b_R_isMore 171 = .ok (.ireturn, 1) := by decide +kernel
theorem d_R_handOut_0 : decode b_R_handOut 0 = .ok (.iload_n 1, 1) := by decide +kernel
theorem d_R_handOut_1 : decode b_R_handOut 1 = .ok (.istore_n 3, 1) := by decide +kernel
theorem d_R_handOut_2 : decode b_R_handOut 2 = .ok (.iconst 0, 1) := by decide +kernel
theorem d_R_handOut_3 : decode b_R_handOut 3 = .ok (.istore 4, 2) := by decide +kernel
theorem d_R_handOut_5 : decode b_R_handOut 5 = .ok (.iload 4, 2) := by decide +kernel
theorem d_R_handOut_7 : decode b_R_handOut 7 = .ok (.aload_n 0, 1) := by decide +kernel
theorem d_R_handOut_8 : decode b_R_handOut 8 = .ok (.getfield 177, 3) := by decide +kernel
theorem d_R_handOut_11 : decode b_R_handOut 11 = .ok (.if_icmp .ge 64, 3) := by decide +kernel
theorem d_R_handOut_14 : decode b_R_handOut 14 = .ok (.aload_n 0, 1) := by decide +kernel
theorem d_R_handOut_15 : decode b_R_handOut 15 = .ok (.getfield 78, 3) := by decide +kernel
theorem d_R_handOut_18 : decode b_R_handOut 18 = .ok (.iload 4, 2) := by decide +kernel
theorem d_R_handOut_20 : decode b_R_handOut 20 = .ok (.aload_n 0, 1) := by decide +kernel
theorem d_R_handOut_21 : decode b_R_handOut 21 = .ok (.getfield 72, 3) := by decide +kernel
theorem d_R_handOut_24 : decode b_R_handOut 24 = .ok (.iload 4, 2) := by decide +kernel
theorem d_R_handOut_26 : decode b_R_handOut 26 = .ok (.laload, 1) := by decide +kernel
theorem d_R_handOut_27 : decode b_R_handOut 27 = .ok (.aload_n 0, 1) := by decide +kernel
theorem d_R_handOut_28 : decode b_R_handOut 28 = .ok (.getfield 75, 3) := by decide +kernel
theorem d_R_handOut_31 : decode b_R_handOut 31 = .ok (.iload 4, 2) := by decide +kernel
theorem d_R_handOut_33 : decode b_R_handOut 33 = .ok (.laload, 1) := by decide +kernel
theorem d_R_handOut_34 : decode b_R_handOut 34 = .ok (.ldiv, 1) := by decide +kernel
theorem d_R_handOut_35 : decode b_R_handOut 35 = .ok (.l2i, 1) := by decide +kernel
theorem d_R_handOut_36 : decode b_R_handOut 36 = .ok (.iastore, 1) := by decide +kernel
theorem d_R_handOut_37 : decode b_R_handOut 37 = .ok (.aload_n 0, 1) := by decide +kernel
theorem d_R_handOut_38 : decode b_R_handOut 38 = .ok (.getfield 72, 3) := by decide +kernel
theorem d_R_handOut_41 : decode b_R_handOut 41 = .ok (.iload 4, 2) := by decide +kernel
theorem d_R_handOut_43 : decode b_R_handOut 43 = .ok (.aload_n 0, 1) := by decide +kernel
theorem d_R_handOut_44 : decode b_R_handOut 44 = .ok (.getfield 72, 3) := by decide +kernel
theorem d_R_handOut_47 : decode b_R_handOut 47 = .ok (.iload 4, 2) := by decide +kernel
theorem d_R_handOut_49 : decode b_R_handOut 49 = .ok (.laload, 1) := by decide +kernel
theorem d_R_handOut_50 : decode b_R_handOut 50 = .ok (.aload_n 0, 1) := by decide +kernel
theorem d_R_handOut_51 : decode b_R_handOut 51 = .ok (.getfield 75, 3) := by decide +kernel
theorem d_R_handOut_54 : decode b_R_handOut 54 = .ok (.iload 4, 2) := by decide +kernel
theorem d_R_handOut_56 : decode b_R_handOut 56 = .ok (.laload, 1) := by decide +kernel
theorem d_R_handOut_57 : decode b_R_handOut 57 = .ok (.lrem, 1) := by decide +kernel
theorem d_R_handOut_58 : decode b_R_handOut 58 = .ok (.lastore, 1) := by decide +kernel
theorem d_R_handOut_59 : decode b_R_handOut 59 = .ok (.iload_n 3, 1) := by decide +kernel
theorem d_R_handOut_60 : decode b_R_handOut 60 = .ok (.aload_n 0, 1) := by decide +kernel
theorem d_R_handOut_61 : decode b_R_handOut 61 = .ok (.getfield 78, 3) := by decide +kernel
theorem d_R_handOut_64 : decode b_R_handOut 64 = .ok (.iload 4, 2) := by decide +kernel
theorem d_R_handOut_66 : decode b_R_handOut 66 = .ok (.iaload, 1) := by decide +kernel
theorem d_R_handOut_67 : decode b_R_handOut 67 = .ok (.isub, 1) := by decide +kernel
theorem d_R_handOut_68 : decode b_R_handOut 68 = .ok (.istore_n 3, 1) := by decide +kernel
theorem d_R_handOut_69 : decode b_R_handOut 69 = .ok (.iinc 4 1, 3) := by decide +kernel
theorem d_R_handOut_72 : decode b_R_handOut 72 = .ok (.goto (-67), 3) := by decide +kernel
theorem d_R_handOut_75 : decode b_R_handOut 75 = .ok (.iload_n 3, 1) := by decide +kernel
theorem d_R_handOut_76 : decode b_R_handOut 76 = .ok (.ifCond .le 103, 3) := by decide +kernel
theorem d_R_handOut_79 : decode b_R_handOut 79 = .ok (.iconst (-1), 1) := by decide +kernel
theorem d_R_handOut_80 : decode b_R_handOut 80 = .ok (.istore 4, 2) := by decide +kernel
theorem d_R_handOut_82 : decode b_R_handOut 82 = .ok (.aload_n 0, 1) := by decide +kernel
theorem d_R_handOut_83 : decode b_R_handOut 83 = .ok (.getfield 177, 3) := by decide +kernel
theorem d_R_handOut_86 : decode b_R_handOut 86 = .ok (.iconst 1, 1) := by decide +kernel
theorem d_R_handOut_87 : decode b_R_handOut 87 = .ok (.isub, 1) := by decide +kernel
theorem d_R_handOut_88 : decode b_R_handOut 88 = .ok (.istore 5, 2) := by decide +kernel
theorem d_R_handOut_90 : decode b_R_handOut 90 = .ok (.iload 5, 2) := by decide +kernel
theorem d_R_handOut_92 : decode b_R_handOut 92 = .ok (.ifCond .lt 62, 3) := by decide +kernel
theorem d_R_handOut_95 : decode b_R_handOut 95 = .ok (.aload_n 0, 1) := by decide +kernel
theorem d_R_handOut_96 : decode b_R_handOut 96 = .ok (.getfield 81, 3) := by decide +kernel
theorem d_R_handOut_99 : decode b_R_handOut 99 = .ok (.iload 5, 2) := by decide +kernel
theorem d_R_handOut_101 : decode b_R_handOut 101 = .ok (.baload, 1) := by decide +kernel
theorem d_R_handOut_102 : decode b_R_handOut 102 = .ok (.ifCond .ne 46, 3) := by decide +kernel
theorem d_R_handOut_105 : decode b_R_handOut 105 = .ok (.iload 4, 2) := by decide +kernel
theorem d_R_handOut_107 : decode b_R_handOut 107 = .ok (.ifCond .lt 37, 3) := by decide +kernel
theorem d_R_handOut_110 : decode b_R_handOut 110 = .ok (.aload_n 0, 1) := by decide +kernel
theorem d_R_handOut_111 : decode b_R_handOut 111 = .ok (.getfield 72, 3) := by decide +kernel
theorem d_R_handOut_114 : decode b_R_handOut 114 = .ok (.iload 4, 2) := by decide +kernel
theorem d_R_handOut_116 : decode b_R_handOut 116 = .ok (.laload, 1) := by decide +kernel
theorem d_R_handOut_117 : decode b_R_handOut 117 = .ok (.aload_n 0, 1) := by decide +kernel
theorem d_R_handOut_118 : decode b_R_handOut 118 = .ok (.getfield 75, 3) := by decide +kernel
theorem d_R_handOut_121 : decode b_R_handOut 121 = .ok (.iload 4, 2) := by decide +kernel
theorem d_R_handOut_123 : decode b_R_handOut 123 = .ok (.laload, 1) := by decide +kernel
theorem d_R_handOut_124 : decode b_R_handOut 124 = .ok (.aload_n 0, 1) := by decide +kernel
theorem d_R_handOut_125 : decode b_R_handOut 125 = .ok (.getfield 72, 3) := by decide +kernel
theorem d_R_handOut_128 : decode b_R_handOut 128 = .ok (.iload 5, 2) := by decide +kernel
theorem d_R_handOut_130 : decode b_R_handOut 130 = .ok (.laload, 1) := by decide +kernel
theorem d_R_handOut_131 : decode b_R_handOut 131 = .ok (.aload_n 0, 1) := by decide +kernel
theorem d_R_handOut_132 : decode b_R_handOut 132 = .ok (.getfield 75, 3) := by decide +kernel
theorem d_R_handOut_135 : decode b_R_handOut 135 = .ok (.iload 5, 2) := by decide +kernel
theorem d_R_handOut_137 : decode b_R_handOut 137 = .ok (.laload, 1) := by decide +kernel
theorem d_R_handOut_138 : decode b_R_handOut 138 = .ok (.invokestatic 203, 3) := by decide +kernel
theorem d_R_handOut_141 : decode b_R_handOut 141 = .ok (.ifCond .ne 7, 3) := by decide +kernel
theorem d_R_handOut_144 : decode b_R_handOut 144 = .ok (.iload 5, 2) := by decide +kernel
theorem d_R_handOut_146 : decode b_R_handOut 146 = .ok (.istore 4, 2) := by decide +kernel
theorem d_R_handOut_148 : decode b_R_handOut 148 = .ok (.iinc 5 (-1), 3) := by decide +kernel
theorem d_R_handOut_151 : decode b_R_handOut 151 = .ok (.goto (-61), 3) := by decide +kernel
theorem d_R_handOut_154 : decode b_R_handOut 154 = .ok (.aload_n 0, 1) := by decide +kernel
theorem d_R_handOut_155 : decode b_R_handOut 155 = .ok (.getfield 78, 3) := by decide +kernel
theorem d_R_handOut_158 : decode b_R_handOut 158 = .ok (.iload 4, 2) := by decide +kernel
theorem d_R_handOut_160 : decode b_R_handOut 160 = .ok (.dup2, 1) := by decide +kernel
theorem d_R_handOut_161 : decode b_R_handOut 161 = .ok (.iaload, 1) := by decide +kernel
theorem d_R_handOut_162 : decode b_R_handOut 162 = .ok (.iconst 1, 1) := by decide +kernel
theorem d_R_handOut_163 : decode b_R_handOut 163 = .ok (.iadd, 1) := by decide +kernel
theorem d_R_handOut_164 : decode b_R_handOut 164 = .ok (.iastore, 1) := by decide +kernel
theorem d_R_handOut_165 : decode b_R_handOut 165 = .ok (.aload_n 0, 1) := by decide +kernel
theorem d_R_handOut_166 : decode b_R_handOut 166 = .ok (.getfield 81, 3) := by decide +kernel
theorem d_R_handOut_169 : decode b_R_handOut 169 = .ok (.iload 4, 2) := by decide +kernel
theorem d_R_handOut_171 : decode b_R_handOut 171 = .ok (.iconst 1, 1) := by decide +kernel
end
section
/-! Decode rows. -/
theorem d_R_handOut_172 : decode b_R_handOut 172 = .ok (.bastore, 1) := by decide +kernel
theorem d_R_handOut_173 : decode b_R_handOut 173 = .ok (.iinc 3 (-1), 3) := by decide +kernel
theorem d_R_handOut_176 : decode b_R_handOut 176 = .ok (.goto (-101), 3) := by decide +kernel
theorem d_R_handOut_179 : decode b_R_handOut 179 = .ok (.iconst 0, 1) := by decide +kernel
theorem d_R_handOut_180 : decode b_R_handOut 180 = .ok (.istore 4, 2) := by decide +kernel
theorem d_R_handOut_182 : decode b_R_handOut 182 = .ok (.iload 4, 2) := by decide +kernel
theorem d_R_handOut_184 : decode b_R_handOut 184 = .ok (.aload_n 0, 1) := by decide +kernel
theorem d_R_handOut_185 : decode b_R_handOut 185 = .ok (.getfield 177, 3) := by decide +kernel
theorem d_R_handOut_188 : decode b_R_handOut 188 = .ok (.if_icmp .ge 63, 3) := by decide +kernel
theorem d_R_handOut_191 : decode b_R_handOut 191 = .ok (.aload_n 0, 1) := by decide +kernel
theorem d_R_handOut_192 : decode b_R_handOut 192 = .ok (.getfield 69, 3) := by decide +kernel
theorem d_R_handOut_195 : decode b_R_handOut 195 = .ok (.iload 4, 2) := by decide +kernel
theorem d_R_handOut_197 : decode b_R_handOut 197 = .ok (.iaload, 1) := by decide +kernel
theorem d_R_handOut_198 : decode b_R_handOut 198 = .ok (.ifCond .ge 8, 3) := by decide +kernel
theorem d_R_handOut_201 : decode b_R_handOut 201 = .ok (.bipush 20, 2) := by decide +kernel
theorem d_R_handOut_203 : decode b_R_handOut 203 = .ok (.goto 10, 3) := by decide +kernel
theorem d_R_handOut_206 : decode b_R_handOut 206 = .ok (.aload_n 0, 1) := by decide +kernel
theorem d_R_handOut_207 : decode b_R_handOut 207 = .ok (.getfield 69, 3) := by decide +kernel
theorem d_R_handOut_210 : decode b_R_handOut 210 = .ok (.iload 4, 2) := by decide +kernel
theorem d_R_handOut_212 : decode b_R_handOut 212 = .ok (.iaload, 1) := by decide +kernel
theorem d_R_handOut_213 : decode b_R_handOut 213 = .ok (.istore 5, 2) := by decide +kernel
theorem d_R_handOut_215 : decode b_R_handOut 215 = .ok (.aload_n 0, 1) := by decide +kernel
theorem d_R_handOut_216 : decode b_R_handOut 216 = .ok (.getfield 53, 3) := by decide +kernel
theorem d_R_handOut_219 : decode b_R_handOut 219 = .ok (.iconst 3, 1) := by decide +kernel
theorem d_R_handOut_220 : decode b_R_handOut 220 = .ok (.iload 5, 2) := by decide +kernel
theorem d_R_handOut_222 : decode b_R_handOut 222 = .ok (.imul, 1) := by decide +kernel
theorem d_R_handOut_223 : decode b_R_handOut 223 = .ok (.iload_n 2, 1) := by decide +kernel
theorem d_R_handOut_224 : decode b_R_handOut 224 = .ok (.iadd, 1) := by decide +kernel
theorem d_R_handOut_225 : decode b_R_handOut 225 = .ok (.aload_n 0, 1) := by decide +kernel
theorem d_R_handOut_226 : decode b_R_handOut 226 = .ok (.getfield 53, 3) := by decide +kernel
theorem d_R_handOut_229 : decode b_R_handOut 229 = .ok (.iconst 3, 1) := by decide +kernel
theorem d_R_handOut_230 : decode b_R_handOut 230 = .ok (.iload 5, 2) := by decide +kernel
theorem d_R_handOut_232 : decode b_R_handOut 232 = .ok (.imul, 1) := by decide +kernel
theorem d_R_handOut_233 : decode b_R_handOut 233 = .ok (.iload_n 2, 1) := by decide +kernel
theorem d_R_handOut_234 : decode b_R_handOut 234 = .ok (.iadd, 1) := by decide +kernel
theorem d_R_handOut_235 : decode b_R_handOut 235 = .ok (.iaload, 1) := by decide +kernel
theorem d_R_handOut_236 : decode b_R_handOut 236 = .ok (.aload_n 0, 1) := by decide +kernel
theorem d_R_handOut_237 : decode b_R_handOut 237 = .ok (.getfield 78, 3) := by decide +kernel
theorem d_R_handOut_240 : decode b_R_handOut 240 = .ok (.iload 4, 2) := by decide +kernel
theorem d_R_handOut_242 : decode b_R_handOut 242 = .ok (.iaload, 1) := by decide +kernel
theorem d_R_handOut_243 : decode b_R_handOut 243 = .ok (.iadd, 1) := by decide +kernel
theorem d_R_handOut_244 : decode b_R_handOut 244 = .ok (.iastore, 1) := by decide +kernel
theorem d_R_handOut_245 : decode b_R_handOut 245 = .ok (.iinc 4 1, 3) := by decide +kernel
theorem d_R_handOut_248 : decode b_R_handOut 248 = .ok (.goto (-66), 3) := by decide +kernel
theorem d_R_handOut_251 : decode b_R_handOut 251 = .ok (.return_, 1) := by decide +kernel
theorem d_R_share_0 : decode b_R_share 0 = .ok (.aload_n 0, 1) := by decide +kernel
theorem d_R_share_1 : decode b_R_share 1 = .ok (.iconst 0, 1) := by decide +kernel
theorem d_R_share_2 : decode b_R_share 2 = .ok (.putfield 177, 3) := by decide +kernel
theorem d_R_share_5 : decode b_R_share 5 = .ok (.iconst 0, 1) := by decide +kernel
theorem d_R_share_6 : decode b_R_share 6 = .ok (.istore 4, 2) := by decide +kernel
theorem d_R_share_8 : decode b_R_share 8 = .ok (.iconst 0, 1) := by decide +kernel
theorem d_R_share_9 : decode b_R_share 9 = .ok (.istore 5, 2) := by decide +kernel
theorem d_R_share_11 : decode b_R_share 11 = .ok (.lconst 0, 1) := by decide +kernel
theorem d_R_share_12 : decode b_R_share 12 = .ok (.lstore 6, 2) := by decide +kernel
theorem d_R_share_14 : decode b_R_share 14 = .ok (.iconst 0, 1) := by decide +kernel
theorem d_R_share_15 : decode b_R_share 15 = .ok (.istore 8, 2) := by decide +kernel
theorem d_R_share_17 : decode b_R_share 17 = .ok (.iload 8, 2) := by decide +kernel
theorem d_R_share_19 : decode b_R_share 19 = .ok (.aload_n 0, 1) := by decide +kernel
theorem d_R_share_20 : decode b_R_share 20 = .ok (.getfield 88, 3) := by decide +kernel
theorem d_R_share_23 : decode b_R_share 23 = .ok (.if_icmp .ge 45, 3) := by decide +kernel
theorem d_R_share_26 : decode b_R_share 26 = .ok (.iload 4, 2) := by decide +kernel
theorem d_R_share_28 : decode b_R_share 28 = .ok (.aload_n 0, 1) := by decide +kernel
theorem d_R_share_29 : decode b_R_share 29 = .ok (.getfield 7, 3) := by decide +kernel
theorem d_R_share_32 : decode b_R_share 32 = .ok (.iload 8, 2) := by decide +kernel
theorem d_R_share_34 : decode b_R_share 34 = .ok (.iaload, 1) := by decide +kernel
theorem d_R_share_35 : decode b_R_share 35 = .ok (.iadd, 1) := by decide +kernel
theorem d_R_share_36 : decode b_R_share 36 = .ok (.istore 4, 2) := by decide +kernel
theorem d_R_share_38 : decode b_R_share 38 = .ok (.iload 5, 2) := by decide +kernel
theorem d_R_share_40 : decode b_R_share 40 = .ok (.aload_n 0, 1) := by decide +kernel
theorem d_R_share_41 : decode b_R_share 41 = .ok (.getfield 13, 3) := by decide +kernel
theorem d_R_share_44 : decode b_R_share 44 = .ok (.iload 8, 2) := by decide +kernel
theorem d_R_share_46 : decode b_R_share 46 = .ok (.iaload, 1) := by decide +kernel
theorem d_R_share_47 : decode b_R_share 47 = .ok (.iadd, 1) := by decide +kernel
theorem d_R_share_48 : decode b_R_share 48 = .ok (.istore 5, 2) := by decide +kernel
theorem d_R_share_50 : decode b_R_share 50 = .ok (.lload 6, 2) := by decide +kernel
theorem d_R_share_52 : decode b_R_share 52 = .ok (.aload_n 0, 1) := by decide +kernel
theorem d_R_share_53 : decode b_R_share 53 = .ok (.getfield 65, 3) := by decide +kernel
theorem d_R_share_56 : decode b_R_share 56 = .ok (.iload 8, 2) := by decide +kernel
theorem d_R_share_58 : decode b_R_share 58 = .ok (.laload, 1) := by decide +kernel
theorem d_R_share_59 : decode b_R_share 59 = .ok (.ladd, 1) := by decide +kernel
theorem d_R_share_60 : decode b_R_share 60 = .ok (.lstore 6, 2) := by decide +kernel
theorem d_R_share_62 : decode b_R_share 62 = .ok (.iinc 8 1, 3) := by decide +kernel
theorem d_R_share_65 : decode b_R_share 65 = .ok (.goto (-48), 3) := by decide +kernel
theorem d_R_share_68 : decode b_R_share 68 = .ok (.iconst 0, 1) := by decide +kernel
theorem d_R_share_69 : decode b_R_share 69 = .ok (.istore 8, 2) := by decide +kernel
theorem d_R_share_71 : decode b_R_share 71 = .ok (.iload 8, 2) := by decide +kernel
theorem d_R_share_73 : decode b_R_share 73 = .ok (.aload_n 0, 1) := by decide +kernel
theorem d_R_share_74 : decode b_R_share 74 = .ok (.getfield 88, 3) := by decide +kernel
theorem d_R_share_77 : decode b_R_share 77 = .ok (.if_icmp .ge 111, 3) := by decide +kernel
theorem d_R_share_80 : decode b_R_share 80 = .ok (.iload_n 1, 1) := by decide +kernel
theorem d_R_share_81 : decode b_R_share 81 = .ok (.iconst 2, 1) := by decide +kernel
theorem d_R_share_82 : decode b_R_share 82 = .ok (.if_icmp .ne 28, 3) := by decide +kernel
theorem d_R_share_85 : decode b_R_share 85 = .ok (.iload 5, 2) := by decide +kernel
theorem d_R_share_87 : decode b_R_share 87 = .ok (.ifCond .le 23, 3) := by decide +kernel
theorem d_R_share_90 : decode b_R_share 90 = .ok (.aload_n 0, 1) := by decide +kernel
theorem d_R_share_91 : decode b_R_share 91 = .ok (.iload 8, 2) := by decide +kernel
theorem d_R_share_93 : decode b_R_share 93 = .ok (.iload_n 2, 1) := by decide +kernel
theorem d_R_share_94 : decode b_R_share 94 = .ok (.i2l, 1) := by decide +kernel
theorem d_R_share_95 : decode b_R_share 95 = .ok (.aload_n 0, 1) := by decide +kernel
theorem d_R_share_96 : decode b_R_share 96 = .ok (.getfield 13, 3) := by decide +kernel
theorem d_R_share_99 : decode b_R_share 99 = .ok (.iload 8, 2) := by decide +kernel
theorem d_R_share_101 : decode b_R_share 101 = .ok (.iaload, 1) := by decide +kernel
theorem d_R_share_102 : decode b_R_share 102 = .ok (.iload 5, 2) := by decide +kernel
theorem d_R_share_104 : decode b_R_share 104 = .ok (.invokevirtual 207, 3) := by decide +kernel
theorem d_R_share_107 : decode b_R_share 107 = .ok (.goto 75, 3) := by decide +kernel
theorem d_R_share_110 : decode b_R_share 110 = .ok (.iload_n 1, 1) := by decide +kernel
theorem d_R_share_111 : decode b_R_share 111 = .ok (.iconst 1, 1) := by decide +kernel
theorem d_R_share_112 : decode b_R_share 112 = .ok (.if_icmp .ne 53, 3) := by decide +kernel
theorem d_R_share_115 : decode b_R_share 115 = .ok (.iload_n 3, 1) := by decide +kernel
theorem d_R_share_116 : decode b_R_share 116 = .ok (.ifCond .ne 49, 3) := by decide +kernel
theorem d_R_share_119 : decode b_R_share 119 = .ok (.iconst 0, 1) := by decide +kernel
theorem d_R_share_120 : decode b_R_share 120 = .ok (.istore 9, 2) := by decide +kernel
theorem d_R_share_122 : decode b_R_share 122 = .ok (.iload 9, 2) := by decide +kernel
theorem d_R_share_124 : decode b_R_share 124 = .ok (.bipush 12, 2) := by decide +kernel
theorem d_R_share_126 : decode b_R_share 126 = .ok (.if_icmp .ge 36, 3) := by decide +kernel
theorem d_R_share_129 : decode b_R_share 129 = .ok (.aload_n 0, 1) := by decide +kernel
theorem d_R_share_130 : decode b_R_share 130 = .ok (.iload 8, 2) := by decide +kernel
theorem d_R_share_132 : decode b_R_share 132 = .ok (.iload 9, 2) := by decide +kernel
theorem d_R_share_134 : decode b_R_share 134 = .ok (.aload_n 0, 1) := by decide +kernel
theorem d_R_share_135 : decode b_R_share 135 = .ok (.iload 8, 2) := by decide +kernel
theorem d_R_share_137 : decode b_R_share 137 = .ok (.iload 9, 2) := by decide +kernel
theorem d_R_share_139 : decode b_R_share 139 = .ok (.invokevirtual 183, 3) := by decide +kernel
theorem d_R_share_142 : decode b_R_share 142 = .ok (.iload_n 2, 1) := by decide +kernel
theorem d_R_share_143 : decode b_R_share 143 = .ok (.i2l, 1) := by decide +kernel
theorem d_R_share_144 : decode b_R_share 144 = .ok (.lload 6, 2) := by decide +kernel
theorem d_R_share_146 : decode b_R_share 146 = .ok (.invokevirtual 211, 3) := by decide +kernel
theorem d_R_share_149 : decode b_R_share 149 = .ok (.aload_n 0, 1) := by decide +kernel
theorem d_R_share_150 : decode b_R_share 150 = .ok (.iload 8, 2) := by decide +kernel
theorem d_R_share_152 : decode b_R_share 152 = .ok (.iload 9, 2) := by decide +kernel
theorem d_R_share_154 : decode b_R_share 154 = .ok (.invokevirtual 183, 3) := by decide +kernel
theorem d_R_share_157 : decode b_R_share 157 = .ok (.istore 9, 2) := by decide +kernel
theorem d_R_share_159 : decode b_R_share 159 = .ok (.goto (-37), 3) := by decide +kernel
theorem d_R_share_162 : decode b_R_share 162 = .ok (.goto 20, 3) := by decide +kernel
theorem d_R_share_165 : decode b_R_share 165 = .ok (.aload_n 0, 1) := by decide +kernel
theorem d_R_share_166 : decode b_R_share 166 = .ok (.iload 8, 2) := by decide +kernel
theorem d_R_share_168 : decode b_R_share 168 = .ok (.iload_n 2, 1) := by decide +kernel
theorem d_R_share_169 : decode b_R_share 169 = .ok (.i2l, 1) := by decide +kernel
theorem d_R_share_170 : decode b_R_share 170 = .ok (.aload_n 0, 1) := by decide +kernel
theorem d_R_share_171 : decode b_R_share 171 = .ok (.getfield 7, 3) := by decide +kernel
theorem d_R_share_174 : decode b_R_share 174 = .ok (.iload 8, 2) := by decide +kernel
theorem d_R_share_176 : decode b_R_share 176 = .ok (.iaload, 1) := by decide +kernel
theorem d_R_share_177 : decode b_R_share 177 = .ok (.iload 4, 2) := by decide +kernel
theorem d_R_share_179 : decode b_R_share 179 = .ok (.invokevirtual 207, 3) := by decide +kernel
theorem d_R_share_182 : decode b_R_share 182 = .ok (.iinc 8 1, 3) := by decide +kernel
theorem d_R_share_185 : decode b_R_share 185 = .ok (.goto (-114), 3) := by decide +kernel
theorem d_R_share_188 : decode b_R_share 188 = .ok (.aload_n 0, 1) := by decide +kernel
theorem d_R_share_189 : decode b_R_share 189 = .ok (.iload_n 2, 1) := by decide +kernel
theorem d_R_share_190 : decode b_R_share 190 = .ok (.iload_n 1, 1) := by decide +kernel
theorem d_R_share_191 : decode b_R_share 191 = .ok (.invokevirtual 215, 3) := by decide +kernel
theorem d_R_share_194 : decode b_R_share 194 = .ok (.return_, 1) := by decide +kernel
theorem d_R_isByArea_0 : decode b_R_isByArea 0 = .ok (.iconst 0, 1) := by decide +kernel
theorem d_R_isByArea_1 : decode b_R_isByArea 1 = .ok (.istore_n 1, 1) := by decide +kernel
theorem d_R_isByArea_2 : decode b_R_isByArea 2 = .ok (.iconst 0, 1) := by decide +kernel
theorem d_R_isByArea_3 : decode b_R_isByArea 3 = .ok (.istore_n 2, 1) := by decide +kernel
theorem d_R_isByArea_4 : decode b_R_isByArea 4 = .ok (.lconst 0, 1) := by decide +kernel
theorem d_R_isByArea_5 : decode b_R_isByArea 5 = .ok (.lstore_n 3, 1) := by decide +kernel
theorem d_R_isByArea_6 : decode b_R_isByArea 6 = .ok (.iconst 0, 1) := by decide +kernel
theorem d_R_isByArea_7 : decode b_R_isByArea 7 = .ok (.istore 5, 2) := by decide +kernel
theorem d_R_isByArea_9 : decode b_R_isByArea 9 = .ok (.iconst 0, 1) := by decide +kernel
theorem d_R_isByArea_10 : decode b_R_isByArea 10 = .ok (.istore 6, 2) := by decide +kernel
theorem d_R_isByArea_12 : decode b_R_isByArea 12 = .ok (.iload 6, 2) := by decide +kernel
theorem d_R_isByArea_14 : decode b_R_isByArea 14 = .ok (.aload_n 0, 1) := by decide +kernel
theorem d_R_isByArea_15 : decode b_R_isByArea 15 = .ok (.getfield 88, 3) := by decide +kernel
theorem d_R_isByArea_18 : decode b_R_isByArea 18 = .ok (.if_icmp .ge 74, 3) := by decide +kernel
theorem d_R_isByArea_21 : decode b_R_isByArea 21 = .ok (.iload_n 1, 1) := by decide +kernel
theorem d_R_isByArea_22 : decode b_R_isByArea 22 = .ok (.aload_n 0, 1) := by decide +kernel
theorem d_R_isByArea_23 : decode b_R_isByArea 23 = .ok (.getfield 7, 3) := by decide +kernel
theorem d_R_isByArea_26 : decode b_R_isByArea 26 = .ok (.iload 6, 2) := by decide +kernel
theorem d_R_isByArea_28 : decode b_R_isByArea 28 = .ok (.iaload, 1) := by decide +kernel
theorem d_R_isByArea_29 : decode b_R_isByArea 29 = .ok (.iadd, 1) := by decide +kernel
theorem d_R_isByArea_30 : decode b_R_isByArea 30 = .ok (.istore_n 1, 1) := by decide +kernel
theorem d_R_isByArea_31 : decode b_R_isByArea 31 = .ok (.aload_n 0, 1) := by decide +kernel
theorem d_R_isByArea_32 : decode b_R_isByArea 32 = .ok (.iload 6, 2) := by decide +kernel
theorem d_R_isByArea_34 : decode b_R_isByArea 34 = .ok (.invokevirtual 128, 3) := by decide +kernel
theorem d_R_isByArea_37 : decode b_R_isByArea 37 = .ok (.ifCond .eq 7, 3) := by decide +kernel
theorem d_R_isByArea_40 : decode b_R_isByArea 40 = .ok (.iload_n 2, 1) := by decide +kernel
theorem d_R_isByArea_41 : decode b_R_isByArea 41 = .ok (.goto 12, 3) := by decide +kernel
theorem d_R_isByArea_44 : decode b_R_isByArea 44 = .ok (.iload_n 2, 1) := by decide +kernel
theorem d_R_isByArea_45 : decode b_R_isByArea 45 = .ok (.aload_n 0, 1) := by decide +kernel
theorem d_R_isByArea_46 : decode b_R_isByArea 46 = .ok (.getfield 7, 3) := by decide +kernel
theorem d_R_isByArea_49 : decode b_R_isByArea 49 = .ok (.iload 6, 2) := by decide +kernel
theorem d_R_isByArea_51 : decode b_R_isByArea 51 = .ok (.iaload, 1) := by decide +kernel
theorem d_R_isByArea_52 : decode b_R_isByArea 52 = .ok (.iadd, 1) := by decide +kernel
theorem d_R_isByArea_53 : decode b_R_isByArea 53 = .ok (.istore_n 2, 1) := by decide +kernel
theorem d_R_isByArea_54 : decode b_R_isByArea 54 = .ok (.lload_n 3, 1) := by decide +kernel
theorem d_R_isByArea_55 : decode b_R_isByArea 55 = .ok (.aload_n 0, 1) := by decide +kernel
theorem d_R_isByArea_56 : decode b_R_isByArea 56 = .ok (.getfield 65, 3) := by decide +kernel
theorem d_R_isByArea_59 : decode b_R_isByArea 59 = .ok (.iload 6, 2) := by decide +kernel
theorem d_R_isByArea_61 : decode b_R_isByArea 61 = .ok (.laload, 1) := by decide +kernel
theorem d_R_isByArea_62 : decode b_R_isByArea 62 = .ok (.ladd, 1) := by decide +kernel
theorem d_R_isByArea_63 : decode b_R_isByArea 63 = .ok (.lstore_n 3, 1) := by decide +kernel
theorem d_R_isByArea_64 : decode b_R_isByArea 64 = .ok (.iload 5, 2) := by decide +kernel
theorem d_R_isByArea_66 : decode b_R_isByArea 66 = .ok (.ifCond .ne 13, 3) := by decide +kernel
theorem d_R_isByArea_69 : decode b_R_isByArea 69 = .ok (.aload_n 0, 1) := by decide +kernel
theorem d_R_isByArea_70 : decode b_R_isByArea 70 = .ok (.iload 6, 2) := by decide +kernel
theorem d_R_isByArea_72 : decode b_R_isByArea 72 = .ok (.invokevirtual 154, 3) := by decide +kernel
theorem d_R_isByArea_75 : decode b_R_isByArea 75 = .ok (.iconst 3, 1) := by decide +kernel
theorem d_R_isByArea_76 : decode b_R_isByArea 76 = .ok (.if_icmp .ne 7, 3) := by decide +kernel
theorem d_R_isByArea_79 : decode b_R_isByArea 79 = .ok (.iconst 1, 1) := by decide +kernel
theorem d_R_isByArea_80 : decode b_R_isByArea 80 = .ok (.goto 4, 3) := by decide +kernel
theorem d_R_isByArea_83 : decode b_R_isByArea 83 = .ok (.iconst 0, 1) := by decide +kernel
theorem d_R_isByArea_84 : decode b_R_isByArea 84 = .ok (.istore 5, 2) := by decide +kernel
theorem d_R_isByArea_86 : decode b_R_isByArea 86 = .ok (.iinc 6 1, 3) := by decide +kernel
theorem d_R_isByArea_89 : decode b_R_isByArea 89 = .ok (.goto (-77), 3) := by decide +kernel
theorem d_R_isByArea_92 : decode b_R_isByArea 92 = .ok (.iload 5, 2) := by decide +kernel
theorem d_R_isByArea_94 : decode b_R_isByArea 94 = .ok (.ifCond .ne 16, 3) := by decide +kernel
theorem d_R_isByArea_97 : decode b_R_isByArea 97 = .ok (.iconst 4, 1) := by decide +kernel
theorem d_R_isByArea_98 : decode b_R_isByArea 98 = .ok (.iload_n 2, 1) := by decide +kernel
theorem d_R_isByArea_99 : decode b_R_isByArea 99 = .ok (.imul, 1) := by decide +kernel
theorem d_R_isByArea_100 : decode b_R_isByArea 100 = .ok (.iload_n 1, 1) := by decide +kernel
theorem d_R_isByArea_101 : decode b_R_isByArea 101 = .ok (.if_icmp .gt 9, 3) := by decide +kernel
theorem d_R_isByArea_104 : decode b_R_isByArea 104 = .ok (.lload_n 3, 1) := by decide +kernel
theorem d_R_isByArea_105 : decode b_R_isByArea 105 = .ok (.lconst 0, 1) := by decide +kernel
theorem d_R_isByArea_106 : decode b_R_isByArea 106 = .ok (.lcmp, 1) := by decide +kernel
theorem d_R_isByArea_107 : decode b_R_isByArea 107 = .ok (.ifCond .ne 7, 3) := by decide +kernel
theorem d_R_isByArea_110 : decode b_R_isByArea 110 = .ok (.iconst 1, 1) := by decide +kernel
theorem d_R_isByArea_111 : decode b_R_isByArea 111 = .ok (.goto 4, 3) := by decide +kernel
theorem d_R_isByArea_114 : decode b_R_isByArea 114 = .ok (.iconst 0, 1) := by decide +kernel
theorem d_R_isByArea_115 : decode b_R_isByArea 115 = .ok (.ireturn, 1) := by decide +kernel
theorem d_R_needsDegrees_0 : decode b_R_needsDegrees 0 = .ok (.iconst 0, 1) := by decide +kernel
theorem d_R_needsDegrees_1 : decode b_R_needsDegrees 1 = .ok (.istore_n 1, 1) := by decide +kernel
theorem d_R_needsDegrees_2 : decode b_R_needsDegrees 2 = .ok (.iconst 0, 1) := by decide +kernel
theorem d_R_needsDegrees_3 : decode b_R_needsDegrees 3 = .ok (.istore_n 2, 1) := by decide +kernel
theorem d_R_needsDegrees_4 : decode b_R_needsDegrees 4 = .ok (.iload_n 2, 1) := by decide +kernel
theorem d_R_needsDegrees_5 : decode b_R_needsDegrees 5 = .ok (.aload_n 0, 1) := by decide +kernel
theorem d_R_needsDegrees_6 : decode b_R_needsDegrees 6 = .ok (.getfield 88, 3) := by decide +kernel
theorem d_R_needsDegrees_9 : decode b_R_needsDegrees 9 = .ok (.if_icmp .ge 57, 3) := by decide +kernel
theorem d_R_needsDegrees_12 : decode b_R_needsDegrees 12 = .ok (.iconst 1, 1) := by decide +kernel
theorem d_R_needsDegrees_13 : decode b_R_needsDegrees 13 = .ok (.istore_n 3, 1) := by decide +kernel
theorem d_R_needsDegrees_14 : decode b_R_needsDegrees 14 = .ok (.iload_n 3, 1) := by decide +kernel
theorem d_R_needsDegrees_15 : decode b_R_needsDegrees 15 = .ok (.bipush 12, 2) := by decide +kernel
theorem d_R_needsDegrees_17 : decode b_R_needsDegrees 17 = .ok (.if_icmp .ge 43, 3) := by decide +kernel
theorem d_R_needsDegrees_20 : decode b_R_needsDegrees 20 = .ok (.iload_n 1, 1) := by decide +kernel
theorem d_R_needsDegrees_21 : decode b_R_needsDegrees 21 = .ok (.ifCond .ne 27, 3) := by decide +kernel
theorem d_R_needsDegrees_24 : decode b_R_needsDegrees 24 = .ok (.aload_n 0, 1) := by decide +kernel
theorem d_R_needsDegrees_25 : decode b_R_needsDegrees 25 = .ok (.iload_n 2, 1) := by decide +kernel
theorem d_R_needsDegrees_26 : decode b_R_needsDegrees 26 = .ok (.iload_n 3, 1) := by decide +kernel
theorem d_R_needsDegrees_27 : decode b_R_needsDegrees 27 = .ok (.invokevirtual 174, 3) := by decide +kernel
theorem d_R_needsDegrees_30 : decode b_R_needsDegrees 30 = .ok (.bipush (-5), 2) := by decide +kernel
theorem d_R_needsDegrees_32 : decode b_R_needsDegrees 32 = .ok (.if_icmp .eq 20, 3) := by decide +kernel
theorem d_R_needsDegrees_35 : decode b_R_needsDegrees 35 = .ok (.aload_n 0, 1) := by decide +kernel
theorem d_R_needsDegrees_36 : decode b_R_needsDegrees 36 = .ok (.iload_n 2, 1) := by decide +kernel
theorem d_R_needsDegrees_37 : decode b_R_needsDegrees 37 = .ok (.iload_n 3, 1) := by decide +kernel
theorem d_R_needsDegrees_38 : decode b_R_needsDegrees 38 = .ok (.iconst 1, 1) := by decide +kernel
theorem d_R_needsDegrees_39 : decode b_R_needsDegrees 39 = .ok (.isub, 1) := by decide +kernel
theorem d_R_needsDegrees_40 : decode b_R_needsDegrees 40 = .ok (.iconst 1, 1) := by decide +kernel
theorem d_R_needsDegrees_41 : decode b_R_needsDegrees 41 = .ok (.invokevirtual 195, 3) := by decide +kernel
theorem d_R_needsDegrees_44 : decode b_R_needsDegrees 44 = .ok (.iload_n 3, 1) := by decide +kernel
theorem d_R_needsDegrees_45 : decode b_R_needsDegrees 45 = .ok (.if_icmp .le 7, 3) := by decide +kernel
theorem d_R_needsDegrees_48 : decode b_R_needsDegrees 48 = .ok (.iconst 1, 1) := by decide +kernel
theorem d_R_needsDegrees_49 : decode b_R_needsDegrees 49 = .ok (.goto 4, 3) := by decide +kernel
theorem d_R_needsDegrees_52 : decode b_R_needsDegrees 52 = .ok (.iconst 0, 1) := by decide +kernel
theorem d_R_needsDegrees_53 : decode b_R_needsDegrees 53 = .ok (.istore_n 1, 1) := by decide +kernel
theorem d_R_needsDegrees_54 : decode b_R_needsDegrees 54 = .ok (.iinc 3 1, 3) := by decide +kernel
theorem d_R_needsDegrees_57 : decode b_R_needsDegrees 57 = .ok (.goto (-43), 3) := by decide +kernel
theorem d_R_needsDegrees_60 : decode b_R_needsDegrees 60 = .ok (.iinc 2 1, 3) := by decide +kernel
theorem d_R_needsDegrees_63 : decode b_R_needsDegrees 63 = .ok (.goto (-59), 3) := by decide +kernel
theorem d_R_needsDegrees_66 : decode b_R_needsDegrees 66 = .ok (.iload_n 1, 1) := by decide +kernel
theorem d_R_needsDegrees_67 : decode b_R_needsDegrees 67 = .ok (.ireturn, 1) := by decide +kernel
theorem d_R_bill_0 : decode b_R_bill 0 = .ok (.aload_n 0, 1) := by decide +kernel
theorem d_R_bill_1 : decode b_R_bill 1 = .ok (.iconst 0, 1) := by decide +kernel
theorem d_R_bill_2 : decode b_R_bill 2 = .ok (.putfield 85, 3) := by decide +kernel
theorem d_R_bill_5 : decode b_R_bill 5 = .ok (.aload_n 0, 1) := by decide +kernel
theorem d_R_bill_6 : decode b_R_bill 6 = .ok (.iconst 0, 1) := by decide +kernel
theorem d_R_bill_7 : decode b_R_bill 7 = .ok (.putfield 98, 3) := by decide +kernel
theorem d_R_bill_10 : decode b_R_bill 10 = .ok (.aload_n 0, 1) := by decide +kernel
theorem d_R_bill_11 : decode b_R_bill 11 = .ok (.getfield 88, 3) := by decide +kernel
theorem d_R_bill_14 : decode b_R_bill 14 = .ok (.ifCond .eq 21, 3) := by decide +kernel
theorem d_R_bill_17 : decode b_R_bill 17 = .ok (.aload_n 0, 1) := by decide +kernel
theorem d_R_bill_18 : decode b_R_bill 18 = .ok (.getfield 37, 3) := by decide +kernel
theorem d_R_bill_21 : decode b_R_bill 21 = .ok (.ifCond .lt 14, 3) := by decide +kernel
theorem d_R_bill_24 : decode b_R_bill 24 = .ok (.aload_n 0, 1) := by decide +kernel
theorem d_R_bill_25 : decode b_R_bill 25 = .ok (.invokevirtual 113, 3) := by decide +kernel
theorem d_R_bill_28 : decode b_R_bill 28 = .ok (.aload_n 0, 1) := by decide +kernel
theorem d_R_bill_29 : decode b_R_bill 29 = .ok (.getfield 37, 3) := by decide +kernel
theorem d_R_bill_32 : decode b_R_bill 32 = .ok (.if_icmp .gt 5, 3) := by decide +kernel
theorem d_R_bill_35 : decode b_R_bill 35 = .ok (.iconst (-1), 1) := by decide +kernel
theorem d_R_bill_36 : decode b_R_bill 36 = .ok (.ireturn, 1) := by decide +kernel
theorem d_R_bill_37 : decode b_R_bill 37 = .ok (.aload_n 0, 1) := by decide +kernel
theorem d_R_bill_38 : decode b_R_bill 38 = .ok (.invokevirtual 159, 3) := by decide +kernel
theorem d_R_bill_41 : decode b_R_bill 41 = .ok (.aload_n 0, 1) := by decide +kernel
theorem d_R_bill_42 : decode b_R_bill 42 = .ok (.invokevirtual 219, 3) := by decide +kernel
theorem d_R_bill_45 : decode b_R_bill 45 = .ok (.istore_n 1, 1) := by decide +kernel
theorem d_R_bill_46 : decode b_R_bill 46 = .ok (.iload_n 1, 1) := by decide +kernel
theorem d_R_bill_47 : decode b_R_bill 47 = .ok (.ifCond .ne 24, 3) := by decide +kernel
theorem d_R_bill_50 : decode b_R_bill 50 = .ok (.aload_n 0, 1) := by decide +kernel
theorem d_R_bill_51 : decode b_R_bill 51 = .ok (.invokevirtual 223, 3) := by decide +kernel
theorem d_R_bill_54 : decode b_R_bill 54 = .ok (.ifCond .eq 17, 3) := by decide +kernel
theorem d_R_bill_57 : decode b_R_bill 57 = .ok (.aload_n 0, 1) := by decide +kernel
theorem d_R_bill_58 : decode b_R_bill 58 = .ok (.iconst 0, 1) := by decide +kernel
theorem d_R_bill_59 : decode b_R_bill 59 = .ok (.bipush 12, 2) := by decide +kernel
theorem d_R_bill_61 : decode b_R_bill 61 = .ok (.invokevirtual 192, 3) := by decide +kernel
theorem d_R_bill_64 : decode b_R_bill 64 = .ok (.bipush 100, 2) := by decide +kernel
theorem d_R_bill_66 : decode b_R_bill 66 = .ok (.if_icmp .eq 5, 3) := by decide +kernel
theorem d_R_bill_69 : decode b_R_bill 69 = .ok (.iconst (-1), 1) := by decide +kernel
theorem d_R_bill_70 : decode b_R_bill 70 = .ok (.ireturn, 1) := by decide +kernel
theorem d_R_bill_71 : decode b_R_bill 71 = .ok (.aload_n 0, 1) := by decide +kernel
theorem d_R_bill_72 : decode b_R_bill 72 = .ok (.invokevirtual 226, 3) := by decide +kernel
theorem d_R_bill_75 : decode b_R_bill 75 = .ok (.iconst 0, 1) := by decide +kernel
theorem d_R_bill_76 : decode b_R_bill 76 = .ok (.istore_n 2, 1) := by decide +kernel
theorem d_R_bill_77 : decode b_R_bill 77 = .ok (.iload_n 2, 1) := by decide +kernel
theorem d_R_bill_78 : decode b_R_bill 78 = .ok (.bipush 63, 2) := by decide +kernel
theorem d_R_bill_80 : decode b_R_bill 80 = .ok (.if_icmp .ge 16, 3) := by decide +kernel
theorem d_R_bill_83 : decode b_R_bill 83 = .ok (.aload_n 0, 1) := by decide +kernel
theorem d_R_bill_84 : decode b_R_bill 84 = .ok (.getfield 53, 3) := by decide +kernel
theorem d_R_bill_87 : decode b_R_bill 87 = .ok (.iload_n 2, 1) := by decide +kernel
theorem d_R_bill_88 : decode b_R_bill 88 = .ok (.iconst 0, 1) := by decide +kernel
theorem d_R_bill_89 : decode b_R_bill 89 = .ok (.iastore, 1) := by decide +kernel
theorem d_R_bill_90 : decode b_R_bill 90 = .ok (.iinc 2 1, 3) := by decide +kernel
theorem d_R_bill_93 : decode b_R_bill 93 = .ok (.goto (-16), 3) := by decide +kernel
theorem d_R_bill_96 : decode b_R_bill 96 = .ok (.aload_n 0, 1) := by decide +kernel
theorem d_R_bill_97 : decode b_R_bill 97 = .ok (.iconst 0, 1) := by decide +kernel
theorem d_R_bill_98 : decode b_R_bill 98 = .ok (.aload_n 0, 1) := by decide +kernel
theorem d_R_bill_99 : decode b_R_bill 99 = .ok (.getfield 50, 3) := by decide +kernel
theorem d_R_bill_102 : decode b_R_bill 102 = .ok (.iconst 3, 1) := by decide +kernel
theorem d_R_bill_103 : decode b_R_bill 103 = .ok (.iaload, 1) := by decide +kernel
theorem d_R_bill_104 : decode b_R_bill 104 = .ok (.iload_n 1, 1) := by decide +kernel
theorem d_R_bill_105 : decode b_R_bill 105 = .ok (.invokevirtual 229, 3) := by decide +kernel
theorem d_R_bill_108 : decode b_R_bill 108 = .ok (.aload_n 0, 1) := by decide +kernel
theorem d_R_bill_109 : decode b_R_bill 109 = .ok (.iconst 1, 1) := by decide +kernel
theorem d_R_bill_110 : decode b_R_bill 110 = .ok (.aload_n 0, 1) := by decide +kernel
theorem d_R_bill_111 : decode b_R_bill 111 = .ok (.getfield 50, 3) := by decide +kernel
theorem d_R_bill_114 : decode b_R_bill 114 = .ok (.iconst 4, 1) := by decide +kernel
theorem d_R_bill_115 : decode b_R_bill 115 = .ok (.iaload, 1) := by decide +kernel
theorem d_R_bill_116 : decode b_R_bill 116 = .ok (.iload_n 1, 1) := by decide +kernel
theorem d_R_bill_117 : decode b_R_bill 117 = .ok (.invokevirtual 229, 3) := by decide +kernel
theorem d_R_bill_120 : decode b_R_bill 120 = .ok (.aload_n 0, 1) := by decide +kernel
theorem d_R_bill_121 : decode b_R_bill 121 = .ok (.iconst 2, 1) := by decide +kernel
theorem d_R_bill_122 : decode b_R_bill 122 = .ok (.aload_n 0, 1) := by decide +kernel
theorem d_R_bill_123 : decode b_R_bill 123 = .ok (.getfield 50, 3) := by decide +kernel
theorem d_R_bill_126 : decode b_R_bill 126 = .ok (.iconst 2, 1) := by decide +kernel
theorem d_R_bill_127 : decode b_R_bill 127 = .ok (.iaload, 1) := by decide +kernel
theorem d_R_bill_128 : decode b_R_bill 128 = .ok (.iload_n 1, 1) := by decide +kernel
theorem d_R_bill_129 : decode b_R_bill 129 = .ok (.invokevirtual 229, 3) := by decide +kernel
theorem d_R_bill_132 : decode b_R_bill 132 = .ok (.aload_n 0, 1) := by decide +kernel
theorem d_R_bill_133 : decode b_R_bill 133 = .ok (.iconst 1, 1) := by decide +kernel
theorem d_R_bill_134 : decode b_R_bill 134 = .ok (.putfield 98, 3) := by decide +kernel
theorem d_R_bill_137 : decode b_R_bill 137 = .ok (.iload_n 1, 1) := by decide +kernel
theorem d_R_bill_138 : decode b_R_bill 138 = .ok (.ifCond .eq 7, 3) := by decide +kernel
theorem d_R_bill_141 : decode b_R_bill 141 = .ok (.iconst 2, 1) := by decide +kernel
theorem d_R_bill_142 : decode b_R_bill 142 = .ok (.goto 4, 3) := by decide +kernel
theorem d_R_bill_145 : decode b_R_bill 145 = .ok (.iconst 0, 1) := by decide +kernel
theorem d_R_bill_146 : decode b_R_bill 146 = .ok (.ireturn, 1) := by decide +kernel
theorem d_R_sumOf_0 : decode b_R_sumOf 0 = .ok (.aload_n 0, 1) := by decide +kernel
theorem d_R_sumOf_1 : decode b_R_sumOf 1 = .ok (.getfield 53, 3) := by decide +kernel
theorem d_R_sumOf_4 : decode b_R_sumOf 4 = .ok (.iconst 3, 1) := by decide +kernel
theorem d_R_sumOf_5 : decode b_R_sumOf 5 = .ok (.iload_n 1, 1) := by decide +kernel
theorem d_R_sumOf_6 : decode b_R_sumOf 6 = .ok (.imul, 1) := by decide +kernel
theorem d_R_sumOf_7 : decode b_R_sumOf 7 = .ok (.iaload, 1) := by decide +kernel
theorem d_R_sumOf_8 : decode b_R_sumOf 8 = .ok (.aload_n 0, 1) := by decide +kernel
theorem d_R_sumOf_9 : decode b_R_sumOf 9 = .ok (.getfield 53, 3) := by decide +kernel
theorem d_R_sumOf_12 : decode b_R_sumOf 12 = .ok (.iconst 3, 1) := by decide +kernel
theorem d_R_sumOf_13 : decode b_R_sumOf 13 = .ok (.iload_n 1, 1) := by decide +kernel
theorem d_R_sumOf_14 : decode b_R_sumOf 14 = .ok (.imul, 1) := by decide +kernel
theorem d_R_sumOf_15 : decode b_R_sumOf 15 = .ok (.iconst 1, 1) := by decide +kernel
theorem d_R_sumOf_16 : decode b_R_sumOf 16 = .ok (.iadd, 1) := by decide +kernel
theorem d_R_sumOf_17 : decode b_R_sumOf 17 = .ok (.iaload, 1) := by decide +kernel
theorem d_R_sumOf_18 : decode b_R_sumOf 18 = .ok (.iadd, 1) := by decide +kernel
theorem d_R_sumOf_19 : decode b_R_sumOf 19 = .ok (.aload_n 0, 1) := by decide +kernel
theorem d_R_sumOf_20 : decode b_R_sumOf 20 = .ok (.getfield 53, 3) := by decide +kernel
theorem d_R_sumOf_23 : decode b_R_sumOf 23 = .ok (.iconst 3, 1) := by decide +kernel
theorem d_R_sumOf_24 : decode b_R_sumOf 24 = .ok (.iload_n 1, 1) := by decide +kernel
theorem d_R_sumOf_25 : decode b_R_sumOf 25 = .ok (.imul, 1) := by decide +kernel
theorem d_R_sumOf_26 : decode b_R_sumOf 26 = .ok (.iconst 2, 1) := by decide +kernel
theorem d_R_sumOf_27 : decode b_R_sumOf 27 = .ok (.iadd, 1) := by decide +kernel
theorem d_R_sumOf_28 : decode b_R_sumOf 28 = .ok (.iaload, 1) := by decide +kernel
theorem d_R_sumOf_29 : decode b_R_sumOf 29 = .ok (.iadd, 1) := by decide +kernel
theorem d_R_sumOf_30 : decode b_R_sumOf 30 = .ok (.ireturn, 1) := by decide +kernel
theorem d_R_amount_0 : decode b_R_amount 0 = .ok (.aload_n 0, 1) := by decide +kernel
theorem d_R_amount_1 : decode b_R_amount 1 = .ok (.aload_n 0, 1) := by decide +kernel
theorem d_R_amount_2 : decode b_R_amount 2 = .ok (.getfield 98, 3) := by decide +kernel
theorem d_R_amount_5 : decode b_R_amount 5 = .ok (.ifCond .ne 7, 3) := by decide +kernel
theorem d_R_amount_8 : decode b_R_amount 8 = .ok (.iconst 1, 1) := by decide +kernel
theorem d_R_amount_9 : decode b_R_amount 9 = .ok (.goto 30, 3) := by decide +kernel
theorem d_R_amount_12 : decode b_R_amount 12 = .ok (.iload_n 1, 1) := by decide +kernel
theorem d_R_amount_13 : decode b_R_amount 13 = .ok (.iconst (-1), 1) := by decide +kernel
theorem d_R_amount_14 : decode b_R_amount 14 = .ok (.if_icmp .eq 11, 3) := by decide +kernel
theorem d_R_amount_17 : decode b_R_amount 17 = .ok (.aload_n 0, 1) := by decide +kernel
theorem d_R_amount_18 : decode b_R_amount 18 = .ok (.iload_n 1, 1) := by decide +kernel
theorem d_R_amount_19 : decode b_R_amount 19 = .ok (.invokevirtual 124, 3) := by decide +kernel
theorem d_R_amount_22 : decode b_R_amount 22 = .ok (.ifCond .eq 12, 3) := by decide +kernel
theorem d_R_amount_25 : decode b_R_amount 25 = .ok (.iload_n 2, 1) := by decide +kernel
theorem d_R_amount_26 : decode b_R_amount 26 = .ok (.iconst 0, 1) := by decide +kernel
theorem d_R_amount_27 : decode b_R_amount 27 = .ok (.iconst 3, 1) := by decide +kernel
theorem d_R_amount_28 : decode b_R_amount 28 = .ok (.invokestatic 94, 3) := by decide +kernel
theorem d_R_amount_31 : decode b_R_amount 31 = .ok (.ifCond .ne 7, 3) := by decide +kernel
theorem d_R_amount_34 : decode b_R_amount 34 = .ok (.iconst 2, 1) := by decide +kernel
theorem d_R_amount_35 : decode b_R_amount 35 = .ok (.goto 4, 3) := by decide +kernel
theorem d_R_amount_38 : decode b_R_amount 38 = .ok (.iconst 0, 1) := by decide +kernel
theorem d_R_amount_39 : decode b_R_amount 39 = .ok (.putfield 85, 3) := by decide +kernel
theorem d_R_amount_42 : decode b_R_amount 42 = .ok (.iload_n 1, 1) := by decide +kernel
theorem d_R_amount_43 : decode b_R_amount 43 = .ok (.iconst (-1), 1) := by decide +kernel
theorem d_R_amount_44 : decode b_R_amount 44 = .ok (.if_icmp .ne 8, 3) := by decide +kernel
theorem d_R_amount_47 : decode b_R_amount 47 = .ok (.bipush 20, 2) := by decide +kernel
theorem d_R_amount_49 : decode b_R_amount 49 = .ok (.goto 4, 3) := by decide +kernel
theorem d_R_amount_52 : decode b_R_amount 52 = .ok (.iload_n 1, 1) := by decide +kernel
theorem d_R_amount_53 : decode b_R_amount 53 = .ok (.istore_n 3, 1) := by decide +kernel
theorem d_R_amount_54 : decode b_R_amount 54 = .ok (.aload_n 0, 1) := by decide +kernel
theorem d_R_amount_55 : decode b_R_amount 55 = .ok (.getfield 85, 3) := by decide +kernel
theorem d_R_amount_58 : decode b_R_amount 58 = .ok (.ifCond .le 7, 3) := by decide +kernel
theorem d_R_amount_61 : decode b_R_amount 61 = .ok (.iconst 0, 1) := by decide +kernel
theorem d_R_amount_62 : decode b_R_amount 62 = .ok (.goto 26, 3) := by decide +kernel
theorem d_R_amount_65 : decode b_R_amount 65 = .ok (.iload_n 2, 1) := by decide +kernel
theorem d_R_amount_66 : decode b_R_amount 66 = .ok (.iconst 3, 1) := by decide +kernel
theorem d_R_amount_67 : decode b_R_amount 67 = .ok (.if_icmp .ne 11, 3) := by decide +kernel
theorem d_R_amount_70 : decode b_R_amount 70 = .ok (.aload_n 0, 1) := by decide +kernel
theorem d_R_amount_71 : decode b_R_amount 71 = .ok (.iload_n 3, 1) := by decide +kernel
theorem d_R_amount_72 : decode b_R_amount 72 = .ok (.invokevirtual 233, 3) := by decide +kernel
theorem d_R_amount_75 : decode b_R_amount 75 = .ok (.goto 13, 3) := by decide +kernel
theorem d_R_amount_78 : decode b_R_amount 78 = .ok (.aload_n 0, 1) := by decide +kernel
theorem d_R_amount_79 : decode b_R_amount 79 = .ok (.getfield 53, 3) := by decide +kernel
theorem d_R_amount_82 : decode b_R_amount 82 = .ok (.iconst 3, 1) := by decide +kernel
theorem d_R_amount_83 : decode b_R_amount 83 = .ok (.iload_n 3, 1) := by decide +kernel
theorem d_R_amount_84 : decode b_R_amount 84 = .ok (.imul, 1) := by decide +kernel
theorem d_R_amount_85 : decode b_R_amount 85 = .ok (.iload_n 2, 1) := by decide +kernel
theorem d_R_amount_86 : decode b_R_amount 86 = .ok (.iadd, 1) := by decide +kernel
theorem d_R_amount_87 : decode b_R_amount 87 = .ok (.iaload, 1) := by decide +kernel
theorem d_R_amount_88 : decode b_R_amount 88 = .ok (.ireturn, 1) := by decide +kernel
theorem d_R_part_0 : decode b_R_part 0 = .ok (.aload_n 0, 1) := by decide +kernel
theorem d_R_part_1 : decode b_R_part 1 = .ok (.aload_n 0, 1) := by decide +kernel
theorem d_R_part_2 : decode b_R_part 2 = .ok (.getfield 98, 3) := by decide +kernel
theorem d_R_part_5 : decode b_R_part 5 = .ok (.ifCond .ne 7, 3) := by decide +kernel
theorem d_R_part_8 : decode b_R_part 8 = .ok (.iconst 1, 1) := by decide +kernel
theorem d_R_part_9 : decode b_R_part 9 = .ok (.goto 17, 3) := by decide +kernel
theorem d_R_part_12 : decode b_R_part 12 = .ok (.iload_n 1, 1) := by decide +kernel
theorem d_R_part_13 : decode b_R_part 13 = .ok (.iconst 0, 1) := by decide +kernel
theorem d_R_part_14 : decode b_R_part 14 = .ok (.iconst 4, 1) := by decide +kernel
theorem d_R_part_15 : decode b_R_part 15 = .ok (.invokestatic 94, 3) := by decide +kernel
theorem d_R_part_18 : decode b_R_part 18 = .ok (.ifCond .ne 7, 3) := by decide +kernel
theorem d_R_part_21 : decode b_R_part 21 = .ok (.iconst 2, 1) := by decide +kernel
theorem d_R_part_22 : decode b_R_part 22 = .ok (.goto 4, 3) := by decide +kernel
theorem d_R_part_25 : decode b_R_part 25 = .ok (.iconst 0, 1) := by decide +kernel
theorem d_R_part_26 : decode b_R_part 26 = .ok (.putfield 85, 3) := by decide +kernel
theorem d_R_part_29 : decode b_R_part 29 = .ok (.aload_n 0, 1) := by decide +kernel
theorem d_R_part_30 : decode b_R_part 30 = .ok (.getfield 85, 3) := by decide +kernel
theorem d_R_part_33 : decode b_R_part 33 = .ok (.ifCond .le 7, 3) := by decide +kernel
theorem d_R_part_36 : decode b_R_part 36 = .ok (.iconst 0, 1) := by decide +kernel
theorem d_R_part_37 : decode b_R_part 37 = .ok (.goto 9, 3) := by decide +kernel
theorem d_R_part_40 : decode b_R_part 40 = .ok (.aload_n 0, 1) := by decide +kernel
theorem d_R_part_41 : decode b_R_part 41 = .ok (.getfield 50, 3) := by decide +kernel
theorem d_R_part_44 : decode b_R_part 44 = .ok (.iload_n 1, 1) := by decide +kernel
theorem d_R_part_45 : decode b_R_part 45 = .ok (.iaload, 1) := by decide +kernel
theorem d_R_part_46 : decode b_R_part 46 = .ok (.ireturn, 1) := by decide +kernel
theorem d_R_sendAll_0 : decode b_R_sendAll 0 = .ok (.iconst 0, 1) := by decide +kernel
theorem d_R_sendAll_1 : decode b_R_sendAll 1 = .ok (.istore_n 1, 1) := by decide +kernel
theorem d_R_sendAll_2 : decode b_R_sendAll 2 = .ok (.iconst 0, 1) := by decide +kernel
theorem d_R_sendAll_3 : decode b_R_sendAll 3 = .ok (.istore_n 2, 1) := by decide +kernel
theorem d_R_sendAll_4 : decode b_R_sendAll 4 = .ok (.iload_n 2, 1) := by decide +kernel
theorem d_R_sendAll_5 : decode b_R_sendAll 5 = .ok (.bipush 21, 2) := by decide +kernel
theorem d_R_sendAll_7 : decode b_R_sendAll 7 = .ok (.if_icmp .ge 55, 3) := by decide +kernel
theorem d_R_sendAll_10 : decode b_R_sendAll 10 = .ok (.aload_n 0, 1) := by decide +kernel
theorem d_R_sendAll_11 : decode b_R_sendAll 11 = .ok (.getfield 62, 3) := by decide +kernel
theorem d_R_sendAll_14 : decode b_R_sendAll 14 = .ok (.iload_n 2, 1) := by decide +kernel
theorem d_R_sendAll_15 : decode b_R_sendAll 15 = .ok (.aload_n 0, 1) := by decide +kernel
theorem d_R_sendAll_16 : decode b_R_sendAll 16 = .ok (.iload_n 2, 1) := by decide +kernel
theorem d_R_sendAll_17 : decode b_R_sendAll 17 = .ok (.invokevirtual 233, 3) := by decide +kernel
theorem d_R_sendAll_20 : decode b_R_sendAll 20 = .ok (.aload_n 0, 1) := by decide +kernel
theorem d_R_sendAll_21 : decode b_R_sendAll 21 = .ok (.getfield 59, 3) := by decide +kernel
theorem d_R_sendAll_24 : decode b_R_sendAll 24 = .ok (.iload_n 2, 1) := by decide +kernel
theorem d_R_sendAll_25 : decode b_R_sendAll 25 = .ok (.iaload, 1) := by decide +kernel
theorem d_R_sendAll_26 : decode b_R_sendAll 26 = .ok (.isub, 1) := by decide +kernel
theorem d_R_sendAll_27 : decode b_R_sendAll 27 = .ok (.iastore, 1) := by decide +kernel
theorem d_R_sendAll_28 : decode b_R_sendAll 28 = .ok (.aload_n 0, 1) := by decide +kernel
theorem d_R_sendAll_29 : decode b_R_sendAll 29 = .ok (.getfield 59, 3) := by decide +kernel
theorem d_R_sendAll_32 : decode b_R_sendAll 32 = .ok (.iload_n 2, 1) := by decide +kernel
theorem d_R_sendAll_33 : decode b_R_sendAll 33 = .ok (.aload_n 0, 1) := by decide +kernel
theorem d_R_sendAll_34 : decode b_R_sendAll 34 = .ok (.iload_n 2, 1) := by decide +kernel
theorem d_R_sendAll_35 : decode b_R_sendAll 35 = .ok (.invokevirtual 233, 3) := by decide +kernel
theorem d_R_sendAll_38 : decode b_R_sendAll 38 = .ok (.iastore, 1) := by decide +kernel
theorem d_R_sendAll_39 : decode b_R_sendAll 39 = .ok (.aload_n 0, 1) := by decide +kernel
theorem d_R_sendAll_40 : decode b_R_sendAll 40 = .ok (.getfield 62, 3) := by decide +kernel
theorem d_R_sendAll_43 : decode b_R_sendAll 43 = .ok (.iload_n 2, 1) := by decide +kernel
theorem d_R_sendAll_44 : decode b_R_sendAll 44 = .ok (.iaload, 1) := by decide +kernel
theorem d_R_sendAll_45 : decode b_R_sendAll 45 = .ok (.ifCond .eq 9, 3) := by decide +kernel
theorem d_R_sendAll_48 : decode b_R_sendAll 48 = .ok (.iload_n 1, 1) := by decide +kernel
theorem d_R_sendAll_49 : decode b_R_sendAll 49 = .ok (.iconst 1, 1) := by decide +kernel
theorem d_R_sendAll_50 : decode b_R_sendAll 50 = .ok (.iadd, 1) := by decide +kernel
theorem d_R_sendAll_51 : decode b_R_sendAll 51 = .ok (.goto 4, 3) := by decide +kernel
theorem d_R_sendAll_54 : decode b_R_sendAll 54 = .ok (.iload_n 1, 1) := by decide +kernel
theorem d_R_sendAll_55 : decode b_R_sendAll 55 = .ok (.istore_n 1, 1) := by decide +kernel
theorem d_R_sendAll_56 : decode b_R_sendAll 56 = .ok (.iinc 2 1, 3) := by decide +kernel
theorem d_R_sendAll_59 : decode b_R_sendAll 59 = .ok (.goto (-55), 3) := by decide +kernel
theorem d_R_sendAll_62 : decode b_R_sendAll 62 = .ok (.iload_n 1, 1) := by decide +kernel
theorem d_R_sendAll_63 : decode b_R_sendAll 63 = .ok (.ireturn, 1) := by decide +kernel
theorem d_R_send_0 : decode b_R_send 0 = .ok (.aload_n 0, 1) := by decide +kernel
theorem d_R_send_1 : decode b_R_send 1 = .ok (.aload_n 0, 1) := by decide +kernel
theorem d_R_send_2 : decode b_R_send 2 = .ok (.getfield 98, 3) := by decide +kernel
theorem d_R_send_5 : decode b_R_send 5 = .ok (.ifCond .eq 7, 3) := by decide +kernel
theorem d_R_send_8 : decode b_R_send 8 = .ok (.iconst 0, 1) := by decide +kernel
theorem d_R_send_9 : decode b_R_send 9 = .ok (.goto 4, 3) := by decide +kernel
theorem d_R_send_12 : decode b_R_send 12 = .ok (.iconst 1, 1) := by decide +kernel
theorem d_R_send_13 : decode b_R_send 13 = .ok (.putfield 85, 3) := by decide +kernel
theorem d_R_send_16 : decode b_R_send 16 = .ok (.aload_n 0, 1) := by decide +kernel
theorem d_R_send_17 : decode b_R_send 17 = .ok (.getfield 85, 3) := by decide +kernel
theorem d_R_send_20 : decode b_R_send 20 = .ok (.ifCond .le 7, 3) := by decide +kernel
theorem d_R_send_23 : decode b_R_send 23 = .ok (.iconst 0, 1) := by decide +kernel
theorem d_R_send_24 : decode b_R_send 24 = .ok (.goto 7, 3) := by decide +kernel
theorem d_R_send_27 : decode b_R_send 27 = .ok (.aload_n 0, 1) := by decide +kernel
theorem d_R_send_28 : decode b_R_send 28 = .ok (.invokevirtual 236, 3) := by decide +kernel
theorem d_R_send_31 : decode b_R_send 31 = .ok (.ireturn, 1) := by decide +kernel
theorem d_R_sent_0 : decode b_R_sent 0 = .ok (.aload_n 0, 1) := by decide +kernel
theorem d_R_sent_1 : decode b_R_sent 1 = .ok (.iload_n 1, 1) := by decide +kernel
theorem d_R_sent_2 : decode b_R_sent 2 = .ok (.iconst (-1), 1) := by decide +kernel
theorem d_R_sent_3 : decode b_R_sent 3 = .ok (.if_icmp .eq 11, 3) := by decide +kernel
theorem d_R_sent_6 : decode b_R_sent 6 = .ok (.aload_n 0, 1) := by decide +kernel
theorem d_R_sent_7 : decode b_R_sent 7 = .ok (.iload_n 1, 1) := by decide +kernel
theorem d_R_sent_8 : decode b_R_sent 8 = .ok (.invokevirtual 124, 3) := by decide +kernel
theorem d_R_sent_11 : decode b_R_sent 11 = .ok (.ifCond .eq 7, 3) := by decide +kernel
theorem d_R_sent_14 : decode b_R_sent 14 = .ok (.iconst 0, 1) := by decide +kernel
theorem d_R_sent_15 : decode b_R_sent 15 = .ok (.goto 4, 3) := by decide +kernel
theorem d_R_sent_18 : decode b_R_sent 18 = .ok (.iconst 1, 1) := by decide +kernel
theorem d_R_sent_19 : decode b_R_sent 19 = .ok (.putfield 85, 3) := by decide +kernel
theorem d_R_sent_22 : decode b_R_sent 22 = .ok (.aload_n 0, 1) := by decide +kernel
theorem d_R_sent_23 : decode b_R_sent 23 = .ok (.getfield 85, 3) := by decide +kernel
theorem d_R_sent_26 : decode b_R_sent 26 = .ok (.ifCond .le 7, 3) := by decide +kernel
theorem d_R_sent_29 : decode b_R_sent 29 = .ok (.iconst 0, 1) := by decide +kernel
theorem d_R_sent_30 : decode b_R_sent 30 = .ok (.goto 19, 3) := by decide +kernel
theorem d_R_sent_33 : decode b_R_sent 33 = .ok (.aload_n 0, 1) := by decide +kernel
theorem d_R_sent_34 : decode b_R_sent 34 = .ok (.getfield 62, 3) := by decide +kernel
theorem d_R_sent_37 : decode b_R_sent 37 = .ok (.iload_n 1, 1) := by decide +kernel
theorem d_R_sent_38 : decode b_R_sent 38 = .ok (.iconst (-1), 1) := by decide +kernel
theorem d_R_sent_39 : decode b_R_sent 39 = .ok (.if_icmp .ne 8, 3) := by decide +kernel
theorem d_R_sent_42 : decode b_R_sent 42 = .ok (.bipush 20, 2) := by decide +kernel
theorem d_R_sent_44 : decode b_R_sent 44 = .ok (.goto 4, 3) := by decide +kernel
theorem d_R_sent_47 : decode b_R_sent 47 = .ok (.iload_n 1, 1) := by decide +kernel
theorem d_R_sent_48 : decode b_R_sent 48 = .ok (.iaload, 1) := by decide +kernel
theorem d_R_sent_49 : decode b_R_sent 49 = .ok (.ireturn, 1) := by decide +kernel
theorem d_R_keepStock_0 : decode b_R_keepStock 0 = .ok (.iconst 0, 1) := by decide +kernel
theorem d_R_keepStock_1 : decode b_R_keepStock 1 = .ok (.istore_n 1, 1) := by decide +kernel
theorem d_R_keepStock_2 : decode b_R_keepStock 2 = .ok (.iconst 0, 1) := by decide +kernel
theorem d_R_keepStock_3 : decode b_R_keepStock 3 = .ok (.istore_n 2, 1) := by decide +kernel
theorem d_R_keepStock_4 : decode b_R_keepStock 4 = .ok (.iload_n 2, 1) := by decide +kernel
theorem d_R_keepStock_5 : decode b_R_keepStock 5 = .ok (.aload_n 0, 1) := by decide +kernel
theorem d_R_keepStock_6 : decode b_R_keepStock 6 = .ok (.getfield 110, 3) := by decide +kernel
theorem d_R_keepStock_9 : decode b_R_keepStock 9 = .ok (.if_icmp .ge 44, 3) := by decide +kernel
theorem d_R_keepStock_12 : decode b_R_keepStock 12 = .ok (.aload_n 0, 1) := by decide +kernel
theorem d_R_keepStock_13 : decode b_R_keepStock 13 = .ok (.iload_n 2, 1) := by decide +kernel
theorem d_R_keepStock_14 : decode b_R_keepStock 14 = .ok (.invokevirtual 162, 3) := by decide +kernel
theorem d_R_keepStock_17 : decode b_R_keepStock 17 = .ok (.istore_n 3, 1) := by decide +kernel
theorem d_R_keepStock_18 : decode b_R_keepStock 18 = .ok (.aload_n 0, 1) := by decide +kernel
theorem d_R_keepStock_19 : decode b_R_keepStock 19 = .ok (.iload_n 2, 1) := by decide +kernel
theorem d_R_keepStock_20 : decode b_R_keepStock 20 = .ok (.invokevirtual 165, 3) := by decide +kernel
theorem d_R_keepStock_23 : decode b_R_keepStock 23 = .ok (.istore 4, 2) := by decide +kernel
theorem d_R_keepStock_25 : decode b_R_keepStock 25 = .ok (.iload_n 3, 1) := by decide +kernel
theorem d_R_keepStock_26 : decode b_R_keepStock 26 = .ok (.ifCond .le 21, 3) := by decide +kernel
theorem d_R_keepStock_29 : decode b_R_keepStock 29 = .ok (.aload_n 0, 1) := by decide +kernel
theorem d_R_keepStock_30 : decode b_R_keepStock 30 = .ok (.getfield 78, 3) := by decide +kernel
theorem d_R_keepStock_33 : decode b_R_keepStock 33 = .ok (.iload_n 1, 1) := by decide +kernel
theorem d_R_keepStock_34 : decode b_R_keepStock 34 = .ok (.iload_n 3, 1) := by decide +kernel
theorem d_R_keepStock_35 : decode b_R_keepStock 35 = .ok (.iastore, 1) := by decide +kernel
theorem d_R_keepStock_36 : decode b_R_keepStock 36 = .ok (.aload_n 0, 1) := by decide +kernel
theorem d_R_keepStock_37 : decode b_R_keepStock 37 = .ok (.getfield 69, 3) := by decide +kernel
theorem d_R_keepStock_40 : decode b_R_keepStock 40 = .ok (.iload_n 1, 1) := by decide +kernel
theorem d_R_keepStock_41 : decode b_R_keepStock 41 = .ok (.iload 4, 2) := by decide +kernel
theorem d_R_keepStock_43 : decode b_R_keepStock 43 = .ok (.iastore, 1) := by decide +kernel
theorem d_R_keepStock_44 : decode b_R_keepStock 44 = .ok (.iinc 1 1, 3) := by decide +kernel
theorem d_R_keepStock_47 : decode b_R_keepStock 47 = .ok (.iinc 2 1, 3) := by decide +kernel
theorem d_R_keepStock_50 : decode b_R_keepStock 50 = .ok (.goto (-46), 3) := by decide +kernel
theorem d_R_keepStock_53 : decode b_R_keepStock 53 = .ok (.iconst 0, 1) := by decide +kernel
theorem d_R_keepStock_54 : decode b_R_keepStock 54 = .ok (.istore_n 2, 1) := by decide +kernel
theorem d_R_keepStock_55 : decode b_R_keepStock 55 = .ok (.iload_n 2, 1) := by decide +kernel
theorem d_R_keepStock_56 : decode b_R_keepStock 56 = .ok (.iload_n 1, 1) := by decide +kernel
theorem d_R_keepStock_57 : decode b_R_keepStock 57 = .ok (.if_icmp .ge 33, 3) := by decide +kernel
theorem d_R_keepStock_60 : decode b_R_keepStock 60 = .ok (.aload_n 0, 1) := by decide +kernel
theorem d_R_keepStock_61 : decode b_R_keepStock 61 = .ok (.getfield 31, 3) := by decide +kernel
theorem d_R_keepStock_64 : decode b_R_keepStock 64 = .ok (.iload_n 2, 1) := by decide +kernel
theorem d_R_keepStock_65 : decode b_R_keepStock 65 = .ok (.aload_n 0, 1) := by decide +kernel
theorem d_R_keepStock_66 : decode b_R_keepStock 66 = .ok (.getfield 78, 3) := by decide +kernel
theorem d_R_keepStock_69 : decode b_R_keepStock 69 = .ok (.iload_n 2, 1) := by decide +kernel
theorem d_R_keepStock_70 : decode b_R_keepStock 70 = .ok (.iaload, 1) := by decide +kernel
theorem d_R_keepStock_71 : decode b_R_keepStock 71 = .ok (.iastore, 1) := by decide +kernel
theorem d_R_keepStock_72 : decode b_R_keepStock 72 = .ok (.aload_n 0, 1) := by decide +kernel
theorem d_R_keepStock_73 : decode b_R_keepStock 73 = .ok (.getfield 34, 3) := by decide +kernel
theorem d_R_keepStock_76 : decode b_R_keepStock 76 = .ok (.iload_n 2, 1) := by decide +kernel
theorem d_R_keepStock_77 : decode b_R_keepStock 77 = .ok (.aload_n 0, 1) := by decide +kernel
theorem d_R_keepStock_78 : decode b_R_keepStock 78 = .ok (.getfield 69, 3) := by decide +kernel
theorem d_R_keepStock_81 : decode b_R_keepStock 81 = .ok (.iload_n 2, 1) := by decide +kernel
theorem d_R_keepStock_82 : decode b_R_keepStock 82 = .ok (.iaload, 1) := by decide +kernel
theorem d_R_keepStock_83 : decode b_R_keepStock 83 = .ok (.iastore, 1) := by decide +kernel
theorem d_R_keepStock_84 : decode b_R_keepStock 84 = .ok (.iinc 2 1, 3) := by decide +kernel
theorem d_R_keepStock_87 : decode b_R_keepStock 87 = .ok (.goto (-32), 3) := by decide +kernel
theorem d_R_keepStock_90 : decode b_R_keepStock 90 = .ok (.aload_n 0, 1) := by decide +kernel
theorem d_R_keepStock_91 : decode b_R_keepStock 91 = .ok (.iload_n 1, 1) := by decide +kernel
theorem d_R_keepStock_92 : decode b_R_keepStock 92 = .ok (.putfield 110, 3) := by decide +kernel
theorem d_R_keepStock_95 : decode b_R_keepStock 95 = .ok (.return_, 1) := by decide +kernel
theorem d_R_nextYear_0 : decode b_R_nextYear 0 = .ok (.aload_n 0, 1) := by decide +kernel
theorem d_R_nextYear_1 : decode b_R_nextYear 1 = .ok (.getfield 65, 3) := by decide +kernel
theorem d_R_nextYear_4 : decode b_R_nextYear 4 = .ok (.iload_n 1, 1) := by decide +kernel
theorem d_R_nextYear_5 : decode b_R_nextYear 5 = .ok (.laload, 1) := by decide +kernel
theorem d_R_nextYear_6 : decode b_R_nextYear 6 = .ok (.aload_n 0, 1) := by decide +kernel
theorem d_R_nextYear_7 : decode b_R_nextYear 7 = .ok (.getfield 150, 3) := by decide +kernel
theorem d_R_nextYear_10 : decode b_R_nextYear 10 = .ok (.ldiv, 1) := by decide +kernel
theorem d_R_nextYear_11 : decode b_R_nextYear 11 = .ok (.lstore_n 2, 1) := by decide +kernel
theorem d_R_nextYear_12 : decode b_R_nextYear 12 = .ok (.aload_n 0, 1) := by decide +kernel
theorem d_R_nextYear_13 : decode b_R_nextYear 13 = .ok (.getfield 28, 3) := by decide +kernel
theorem d_R_nextYear_16 : decode b_R_nextYear 16 = .ok (.iload_n 1, 1) := by decide +kernel
theorem d_R_nextYear_17 : decode b_R_nextYear 17 = .ok (.lload_n 2, 1) := by decide +kernel
theorem d_R_nextYear_18 : decode b_R_nextYear 18 = .ok (.lconst 0, 1) := by decide +kernel
theorem d_R_nextYear_19 : decode b_R_nextYear 19 = .ok (.lcmp, 1) := by decide +kernel
theorem d_R_nextYear_20 : decode b_R_nextYear 20 = .ok (.ifCond .le 8, 3) := by decide +kernel
theorem d_R_nextYear_23 : decode b_R_nextYear 23 = .ok (.lload_n 2, 1) := by decide +kernel
theorem d_R_nextYear_24 : decode b_R_nextYear 24 = .ok (.l2i, 1) := by decide +kernel
theorem d_R_nextYear_25 : decode b_R_nextYear 25 = .ok (.goto 4, 3) := by decide +kernel
theorem d_R_nextYear_28 : decode b_R_nextYear 28 = .ok (.iconst (-1), 1) := by decide +kernel
theorem d_R_nextYear_29 : decode b_R_nextYear 29 = .ok (.iastore, 1) := by decide +kernel
theorem d_R_nextYear_30 : decode b_R_nextYear 30 = .ok (.aload_n 0, 1) := by decide +kernel
theorem d_R_nextYear_31 : decode b_R_nextYear 31 = .ok (.getfield 25, 3) := by decide +kernel
theorem d_R_nextYear_34 : decode b_R_nextYear 34 = .ok (.iload_n 1, 1) := by decide +kernel
theorem d_R_nextYear_35 : decode b_R_nextYear 35 = .ok (.aload_n 0, 1) := by decide +kernel
theorem d_R_nextYear_36 : decode b_R_nextYear 36 = .ok (.iload_n 1, 1) := by decide +kernel
theorem d_R_nextYear_37 : decode b_R_nextYear 37 = .ok (.bipush 11, 2) := by decide +kernel
theorem d_R_nextYear_39 : decode b_R_nextYear 39 = .ok (.invokevirtual 180, 3) := by decide +kernel
theorem d_R_nextYear_42 : decode b_R_nextYear 42 = .ok (.iastore, 1) := by decide +kernel
theorem d_R_nextYear_43 : decode b_R_nextYear 43 = .ok (.aload_n 0, 1) := by decide +kernel
theorem d_R_nextYear_44 : decode b_R_nextYear 44 = .ok (.getfield 19, 3) := by decide +kernel
theorem d_R_nextYear_47 : decode b_R_nextYear 47 = .ok (.bipush 13, 2) := by decide +kernel
theorem d_R_nextYear_49 : decode b_R_nextYear 49 = .ok (.iload_n 1, 1) := by decide +kernel
theorem d_R_nextYear_50 : decode b_R_nextYear 50 = .ok (.imul, 1) := by decide +kernel
theorem d_R_nextYear_51 : decode b_R_nextYear 51 = .ok (.aload_n 0, 1) := by decide +kernel
theorem d_R_nextYear_52 : decode b_R_nextYear 52 = .ok (.getfield 19, 3) := by decide +kernel
theorem d_R_nextYear_55 : decode b_R_nextYear 55 = .ok (.bipush 13, 2) := by decide +kernel
theorem d_R_nextYear_57 : decode b_R_nextYear 57 = .ok (.iload_n 1, 1) := by decide +kernel
theorem d_R_nextYear_58 : decode b_R_nextYear 58 = .ok (.imul, 1) := by decide +kernel
theorem d_R_nextYear_59 : decode b_R_nextYear 59 = .ok (.bipush 12, 2) := by decide +kernel
theorem d_R_nextYear_61 : decode b_R_nextYear 61 = .ok (.iadd, 1) := by decide +kernel
theorem d_R_nextYear_62 : decode b_R_nextYear 62 = .ok (.iaload, 1) := by decide +kernel
theorem d_R_nextYear_63 : decode b_R_nextYear 63 = .ok (.iastore, 1) := by decide +kernel
theorem d_R_nextYear_64 : decode b_R_nextYear 64 = .ok (.iconst 1, 1) := by decide +kernel
theorem d_R_nextYear_65 : decode b_R_nextYear 65 = .ok (.istore 4, 2) := by decide +kernel
theorem d_R_nextYear_67 : decode b_R_nextYear 67 = .ok (.iload 4, 2) := by decide +kernel
theorem d_R_nextYear_69 : decode b_R_nextYear 69 = .ok (.bipush 13, 2) := by decide +kernel
theorem d_R_nextYear_71 : decode b_R_nextYear 71 = .ok (.if_icmp .ge 22, 3) := by decide +kernel
theorem d_R_nextYear_74 : decode b_R_nextYear 74 = .ok (.aload_n 0, 1) := by decide +kernel
theorem d_R_nextYear_75 : decode b_R_nextYear 75 = .ok (.getfield 19, 3) := by decide +kernel
theorem d_R_nextYear_78 : decode b_R_nextYear 78 = .ok (.bipush 13, 2) := by decide +kernel
theorem d_R_nextYear_80 : decode b_R_nextYear 80 = .ok (.iload_n 1, 1) := by decide +kernel
theorem d_R_nextYear_81 : decode b_R_nextYear 81 = .ok (.imul, 1) := by decide +kernel
theorem d_R_nextYear_82 : decode b_R_nextYear 82 = .ok (.iload 4, 2) := by decide +kernel
theorem d_R_nextYear_84 : decode b_R_nextYear 84 = .ok (.iadd, 1) := by decide +kernel
theorem d_R_nextYear_85 : decode b_R_nextYear 85 = .ok (.iconst (-1), 1) := by decide +kernel
theorem d_R_nextYear_86 : decode b_R_nextYear 86 = .ok (.iastore, 1) := by decide +kernel
theorem d_R_nextYear_87 : decode b_R_nextYear 87 = .ok (.iinc 4 1, 3) := by decide +kernel
theorem d_R_nextYear_90 : decode b_R_nextYear 90 = .ok (.goto (-23), 3) := by decide +kernel
theorem d_R_nextYear_93 : decode b_R_nextYear 93 = .ok (.iconst 0, 1) := by decide +kernel
theorem d_R_nextYear_94 : decode b_R_nextYear 94 = .ok (.istore 4, 2) := by decide +kernel
theorem d_R_nextYear_96 : decode b_R_nextYear 96 = .ok (.iload 4, 2) := by decide +kernel
theorem d_R_nextYear_98 : decode b_R_nextYear 98 = .ok (.bipush 12, 2) := by decide +kernel
theorem d_R_nextYear_100 : decode b_R_nextYear 100 = .ok (.if_icmp .ge 23, 3) := by decide +kernel
theorem d_R_nextYear_103 : decode b_R_nextYear 103 = .ok (.aload_n 0, 1) := by decide +kernel
theorem d_R_nextYear_104 : decode b_R_nextYear 104 = .ok (.getfield 22, 3) := by decide +kernel
theorem d_R_nextYear_107 : decode b_R_nextYear 107 = .ok (.bipush 12, 2) := by decide +kernel
theorem d_R_nextYear_109 : decode b_R_nextYear 109 = .ok (.iload_n 1, 1) := by decide +kernel
theorem d_R_nextYear_110 : decode b_R_nextYear 110 = .ok (.imul, 1) := by decide +kernel
theorem d_R_nextYear_111 : decode b_R_nextYear 111 = .ok (.iload 4, 2) := by decide +kernel
theorem d_R_nextYear_113 : decode b_R_nextYear 113 = .ok (.iadd, 1) := by decide +kernel
theorem d_R_nextYear_114 : decode b_R_nextYear 114 = .ok (.bipush (-5), 2) := by decide +kernel
theorem d_R_nextYear_116 : decode b_R_nextYear 116 = .ok (.iastore, 1) := by decide +kernel
theorem d_R_nextYear_117 : decode b_R_nextYear 117 = .ok (.iinc 4 1, 3) := by decide +kernel
theorem d_R_nextYear_120 : decode b_R_nextYear 120 = .ok (.goto (-24), 3) := by decide +kernel
theorem d_R_nextYear_123 : decode b_R_nextYear 123 = .ok (.return_, 1) := by decide +kernel
theorem d_R_closeYear_0 : decode b_R_closeYear 0 = .ok (.aload_n 0, 1) := by decide +kernel
theorem d_R_closeYear_1 : decode b_R_closeYear 1 = .ok (.aload_n 0, 1) := by decide +kernel
theorem d_R_closeYear_2 : decode b_R_closeYear 2 = .ok (.getfield 98, 3) := by decide +kernel
theorem d_R_closeYear_5 : decode b_R_closeYear 5 = .ok (.ifCond .eq 7, 3) := by decide +kernel
theorem d_R_closeYear_8 : decode b_R_closeYear 8 = .ok (.iconst 0, 1) := by decide +kernel
theorem d_R_closeYear_9 : decode b_R_closeYear 9 = .ok (.goto 4, 3) := by decide +kernel
theorem d_R_closeYear_12 : decode b_R_closeYear 12 = .ok (.iconst 1, 1) := by decide +kernel
theorem d_R_closeYear_13 : decode b_R_closeYear 13 = .ok (.putfield 85, 3) := by decide +kernel
theorem d_R_closeYear_16 : decode b_R_closeYear 16 = .ok (.aload_n 0, 1) := by decide +kernel
theorem d_R_closeYear_17 : decode b_R_closeYear 17 = .ok (.getfield 85, 3) := by decide +kernel
theorem d_R_closeYear_20 : decode b_R_closeYear 20 = .ok (.ifCond .le 5, 3) := by decide +kernel
theorem d_R_closeYear_23 : decode b_R_closeYear 23 = .ok (.iconst 0, 1) := by decide +kernel
theorem d_R_closeYear_24 : decode b_R_closeYear 24 = .ok (.ireturn, 1) := by decide +kernel
theorem d_R_closeYear_25 : decode b_R_closeYear 25 = .ok (.aload_n 0, 1) := by decide +kernel
theorem d_R_closeYear_26 : decode b_R_closeYear 26 = .ok (.invokevirtual 236, 3) := by decide +kernel
theorem d_R_closeYear_29 : decode b_R_closeYear 29 = .ok (.istore_n 1, 1) := by decide +kernel
theorem d_R_closeYear_30 : decode b_R_closeYear 30 = .ok (.aload_n 0, 1) := by decide +kernel
theorem d_R_closeYear_31 : decode b_R_closeYear 31 = .ok (.invokevirtual 239, 3) := by decide +kernel
theorem d_R_closeYear_34 : decode b_R_closeYear 34 = .ok (.aload_n 0, 1) := by decide +kernel
theorem d_R_closeYear_35 : decode b_R_closeYear 35 = .ok (.invokevirtual 159, 3) := by decide +kernel
theorem d_R_closeYear_38 : decode b_R_closeYear 38 = .ok (.iconst 0, 1) := by decide +kernel
theorem d_R_closeYear_39 : decode b_R_closeYear 39 = .ok (.istore_n 2, 1) := by decide +kernel
theorem d_R_closeYear_40 : decode b_R_closeYear 40 = .ok (.iload_n 2, 1) := by decide +kernel
theorem d_R_closeYear_41 : decode b_R_closeYear 41 = .ok (.aload_n 0, 1) := by decide +kernel
theorem d_R_closeYear_42 : decode b_R_closeYear 42 = .ok (.getfield 88, 3) := by decide +kernel
theorem d_R_closeYear_45 : decode b_R_closeYear 45 = .ok (.if_icmp .ge 14, 3) := by decide +kernel
theorem d_R_closeYear_48 : decode b_R_closeYear 48 = .ok (.aload_n 0, 1) := by decide +kernel
theorem d_R_closeYear_49 : decode b_R_closeYear 49 = .ok (.iload_n 2, 1) := by decide +kernel
theorem d_R_closeYear_50 : decode b_R_closeYear 50 = .ok (.invokevirtual 242, 3) := by decide +kernel
theorem d_R_closeYear_53 : decode b_R_closeYear 53 = .ok (.iinc 2 1, 3) := by decide +kernel
theorem d_R_closeYear_56 : decode b_R_closeYear 56 = .ok (.goto (-16), 3) := by decide +kernel
theorem d_R_closeYear_59 : decode b_R_closeYear 59 = .ok (.iconst 0, 1) := by decide +kernel
theorem d_R_closeYear_60 : decode b_R_closeYear 60 = .ok (.istore_n 2, 1) := by decide +kernel
theorem d_R_closeYear_61 : decode b_R_closeYear 61 = .ok (.iload_n 2, 1) := by decide +kernel
theorem d_R_closeYear_62 : decode b_R_closeYear 62 = .ok (.bipush 21, 2) := by decide +kernel
theorem d_R_closeYear_64 : decode b_R_closeYear 64 = .ok (.if_icmp .ge 23, 3) := by decide +kernel
theorem d_R_closeYear_67 : decode b_R_closeYear 67 = .ok (.aload_n 0, 1) := by decide +kernel
theorem d_R_closeYear_68 : decode b_R_closeYear 68 = .ok (.getfield 59, 3) := by decide +kernel
theorem d_R_closeYear_71 : decode b_R_closeYear 71 = .ok (.iload_n 2, 1) := by decide +kernel
theorem d_R_closeYear_72 : decode b_R_closeYear 72 = .ok (.iconst 0, 1) := by decide +kernel
theorem d_R_closeYear_73 : decode b_R_closeYear 73 = .ok (.iastore, 1) := by decide +kernel
theorem d_R_closeYear_74 : decode b_R_closeYear 74 = .ok (.aload_n 0, 1) := by decide +kernel
theorem d_R_closeYear_75 : decode b_R_closeYear 75 = .ok (.getfield 62, 3) := by decide +kernel
theorem d_R_closeYear_78 : decode b_R_closeYear 78 = .ok (.iload_n 2, 1) := by decide +kernel
theorem d_R_closeYear_79 : decode b_R_closeYear 79 = .ok (.iconst 0, 1) := by decide +kernel
theorem d_R_closeYear_80 : decode b_R_closeYear 80 = .ok (.iastore, 1) := by decide +kernel
theorem d_R_closeYear_81 : decode b_R_closeYear 81 = .ok (.iinc 2 1, 3) := by decide +kernel
theorem d_R_closeYear_84 : decode b_R_closeYear 84 = .ok (.goto (-23), 3) := by decide +kernel
theorem d_R_closeYear_87 : decode b_R_closeYear 87 = .ok (.iconst 0, 1) := by decide +kernel
theorem d_R_closeYear_88 : decode b_R_closeYear 88 = .ok (.istore_n 2, 1) := by decide +kernel
theorem d_R_closeYear_89 : decode b_R_closeYear 89 = .ok (.iload_n 2, 1) := by decide +kernel
theorem d_R_closeYear_90 : decode b_R_closeYear 90 = .ok (.bipush 20, 2) := by decide +kernel
theorem d_R_closeYear_92 : decode b_R_closeYear 92 = .ok (.if_icmp .ge 16, 3) := by decide +kernel
theorem d_R_closeYear_95 : decode b_R_closeYear 95 = .ok (.aload_n 0, 1) := by decide +kernel
theorem d_R_closeYear_96 : decode b_R_closeYear 96 = .ok (.getfield 56, 3) := by decide +kernel
theorem d_R_closeYear_99 : decode b_R_closeYear 99 = .ok (.iload_n 2, 1) := by decide +kernel
theorem d_R_closeYear_100 : decode b_R_closeYear 100 = .ok (.iconst 0, 1) := by decide +kernel
theorem d_R_closeYear_101 : decode b_R_closeYear 101 = .ok (.iastore, 1) := by decide +kernel
theorem d_R_closeYear_102 : decode b_R_closeYear 102 = .ok (.iinc 2 1, 3) := by decide +kernel
theorem d_R_closeYear_105 : decode b_R_closeYear 105 = .ok (.goto (-16), 3) := by decide +kernel
theorem d_R_closeYear_108 : decode b_R_closeYear 108 = .ok (.aload_n 0, 1) := by decide +kernel
theorem d_R_closeYear_109 : decode b_R_closeYear 109 = .ok (.iconst (-1), 1) := by decide +kernel
theorem d_R_closeYear_110 : decode b_R_closeYear 110 = .ok (.putfield 37, 3) := by decide +kernel
theorem d_R_closeYear_113 : decode b_R_closeYear 113 = .ok (.aload_n 0, 1) := by decide +kernel
theorem d_R_closeYear_114 : decode b_R_closeYear 114 = .ok (.iconst (-1), 1) := by decide +kernel
theorem d_R_closeYear_115 : decode b_R_closeYear 115 = .ok (.putfield 41, 3) := by decide +kernel
theorem d_R_closeYear_118 : decode b_R_closeYear 118 = .ok (.aload_n 0, 1) := by decide +kernel
theorem d_R_closeYear_119 : decode b_R_closeYear 119 = .ok (.iconst 0, 1) := by decide +kernel
theorem d_R_closeYear_120 : decode b_R_closeYear 120 = .ok (.putfield 117, 3) := by decide +kernel
theorem d_R_closeYear_123 : decode b_R_closeYear 123 = .ok (.aload_n 0, 1) := by decide +kernel
theorem d_R_closeYear_124 : decode b_R_closeYear 124 = .ok (.iconst 0, 1) := by decide +kernel
theorem d_R_closeYear_125 : decode b_R_closeYear 125 = .ok (.putfield 98, 3) := by decide +kernel
theorem d_R_closeYear_128 : decode b_R_closeYear 128 = .ok (.aload_n 0, 1) := by decide +kernel
theorem d_R_closeYear_129 : decode b_R_closeYear 129 = .ok (.invokevirtual 113, 3) := by decide +kernel
theorem d_R_closeYear_132 : decode b_R_closeYear 132 = .ok (.ireturn, 1) := by decide +kernel
theorem d_R_known_0 : decode b_R_known 0 = .ok (.aload_n 0, 1) := by decide +kernel
theorem d_R_known_1 : decode b_R_known 1 = .ok (.aload_n 0, 1) := by decide +kernel
theorem d_R_known_2 : decode b_R_known 2 = .ok (.iload_n 1, 1) := by decide +kernel
theorem d_R_known_3 : decode b_R_known 3 = .ok (.invokevirtual 102, 3) := by decide +kernel
theorem d_R_known_6 : decode b_R_known 6 = .ok (.ifCond .eq 7, 3) := by decide +kernel
theorem d_R_known_9 : decode b_R_known 9 = .ok (.iconst 0, 1) := by decide +kernel
theorem d_R_known_10 : decode b_R_known 10 = .ok (.goto 4, 3) := by decide +kernel
theorem d_R_known_13 : decode b_R_known 13 = .ok (.iconst 1, 1) := by decide +kernel
theorem d_R_known_14 : decode b_R_known 14 = .ok (.putfield 85, 3) := by decide +kernel
theorem d_R_known_17 : decode b_R_known 17 = .ok (.aload_n 0, 1) := by decide +kernel
theorem d_R_known_18 : decode b_R_known 18 = .ok (.getfield 85, 3) := by decide +kernel
theorem d_R_known_21 : decode b_R_known 21 = .ok (.ifCond .le 7, 3) := by decide +kernel
theorem d_R_known_24 : decode b_R_known 24 = .ok (.iconst 0, 1) := by decide +kernel
theorem d_R_known_25 : decode b_R_known 25 = .ok (.goto 9, 3) := by decide +kernel
theorem d_R_known_28 : decode b_R_known 28 = .ok (.aload_n 0, 1) := by decide +kernel
theorem d_R_known_29 : decode b_R_known 29 = .ok (.getfield 28, 3) := by decide +kernel
theorem d_R_known_32 : decode b_R_known 32 = .ok (.iload_n 1, 1) := by decide +kernel
theorem d_R_known_33 : decode b_R_known 33 = .ok (.iaload, 1) := by decide +kernel
theorem d_R_known_34 : decode b_R_known 34 = .ok (.ireturn, 1) := by decide +kernel
end
section
/-! Decode rows. -/
theorem d_L_flat_0 : decode b_L_flat 0 = .ok (.aload 4, 2) := by decide +kernel
theorem d_L_flat_2 : decode b_L_flat 2 = .ok (.iconst 0, 1) := by decide +kernel
theorem d_L_flat_3 : decode b_L_flat 3 = .ok (.aload_n 0, 1) := by decide +kernel
theorem d_L_flat_4 : decode b_L_flat 4 = .ok (.iload_n 1, 1) := by decide +kernel
theorem d_L_flat_5 : decode b_L_flat 5 = .ok (.iload_n 2, 1) := by decide +kernel
theorem d_L_flat_6 : decode b_L_flat 6 = .ok (.iload_n 3, 1) := by decide +kernel
theorem d_L_flat_7 : decode b_L_flat 7 = .ok (.invokevirtual 7, 3) := by decide +kernel
theorem d_L_flat_10 : decode b_L_flat 10 = .ok (.i2l, 1) := by decide +kernel
theorem d_L_flat_11 : decode b_L_flat 11 = .ok (.lastore, 1) := by decide +kernel
theorem d_L_flat_12 : decode b_L_flat 12 = .ok (.goto 11, 3) := by decide +kernel
theorem d_L_flat_15 : decode b_L_flat 15 = .ok (.astore 5, 2) := by decide +kernel
theorem d_L_flat_17 : decode b_L_flat 17 = .ok (.iconst 1, 1) := by decide +kernel
theorem d_L_flat_18 : decode b_L_flat 18 = .ok (.ireturn, 1) := by decide +kernel
theorem d_L_flat_19 : decode b_L_flat 19 = .ok (.astore 5, 2) := by decide +kernel
theorem d_L_flat_21 : decode b_L_flat 21 = .ok (.iconst 2, 1) := by decide +kernel
theorem d_L_flat_22 : decode b_L_flat 22 = .ok (.ireturn, 1) := by decide +kernel
theorem d_L_flat_23 : decode b_L_flat 23 = .ok (.iconst 0, 1) := by decide +kernel
theorem d_L_flat_24 : decode b_L_flat 24 = .ok (.ireturn, 1) := by decide +kernel
theorem d_L_reading_0 : decode b_L_reading 0 = .ok (.aload_n 0, 1) := by decide +kernel
theorem d_L_reading_1 : decode b_L_reading 1 = .ok (.iload_n 1, 1) := by decide +kernel
theorem d_L_reading_2 : decode b_L_reading 2 = .ok (.iload_n 2, 1) := by decide +kernel
theorem d_L_reading_3 : decode b_L_reading 3 = .ok (.iload_n 3, 1) := by decide +kernel
theorem d_L_reading_4 : decode b_L_reading 4 = .ok (.invokevirtual 17, 3) := by decide +kernel
theorem d_L_reading_7 : decode b_L_reading 7 = .ok (.goto 11, 3) := by decide +kernel
theorem d_L_reading_10 : decode b_L_reading 10 = .ok (.astore 4, 2) := by decide +kernel
theorem d_L_reading_12 : decode b_L_reading 12 = .ok (.iconst 1, 1) := by decide +kernel
theorem d_L_reading_13 : decode b_L_reading 13 = .ok (.ireturn, 1) := by decide +kernel
theorem d_L_reading_14 : decode b_L_reading 14 = .ok (.astore 4, 2) := by decide +kernel
theorem d_L_reading_16 : decode b_L_reading 16 = .ok (.iconst 2, 1) := by decide +kernel
theorem d_L_reading_17 : decode b_L_reading 17 = .ok (.ireturn, 1) := by decide +kernel
theorem d_L_reading_18 : decode b_L_reading 18 = .ok (.iconst 0, 1) := by decide +kernel
theorem d_L_reading_19 : decode b_L_reading 19 = .ok (.ireturn, 1) := by decide +kernel
theorem d_L_enter_0 : decode b_L_enter 0 = .ok (.aload_n 3, 1) := by decide +kernel
theorem d_L_enter_1 : decode b_L_enter 1 = .ok (.iconst 0, 1) := by decide +kernel
theorem d_L_enter_2 : decode b_L_enter 2 = .ok (.aload_n 0, 1) := by decide +kernel
theorem d_L_enter_3 : decode b_L_enter 3 = .ok (.iload_n 1, 1) := by decide +kernel
theorem d_L_enter_4 : decode b_L_enter 4 = .ok (.iload_n 2, 1) := by decide +kernel
theorem d_L_enter_5 : decode b_L_enter 5 = .ok (.invokevirtual 23, 3) := by decide +kernel
theorem d_L_enter_8 : decode b_L_enter 8 = .ok (.i2l, 1) := by decide +kernel
theorem d_L_enter_9 : decode b_L_enter 9 = .ok (.lastore, 1) := by decide +kernel
theorem d_L_enter_10 : decode b_L_enter 10 = .ok (.goto 15, 3) := by decide +kernel
theorem d_L_enter_13 : decode b_L_enter 13 = .ok (.astore 4, 2) := by decide +kernel
theorem d_L_enter_15 : decode b_L_enter 15 = .ok (.iconst 1, 1) := by decide +kernel
theorem d_L_enter_16 : decode b_L_enter 16 = .ok (.ireturn, 1) := by decide +kernel
theorem d_L_enter_17 : decode b_L_enter 17 = .ok (.astore 4, 2) := by decide +kernel
theorem d_L_enter_19 : decode b_L_enter 19 = .ok (.iconst 2, 1) := by decide +kernel
theorem d_L_enter_20 : decode b_L_enter 20 = .ok (.ireturn, 1) := by decide +kernel
theorem d_L_enter_21 : decode b_L_enter 21 = .ok (.astore 4, 2) := by decide +kernel
theorem d_L_enter_23 : decode b_L_enter 23 = .ok (.iconst 3, 1) := by decide +kernel
theorem d_L_enter_24 : decode b_L_enter 24 = .ok (.ireturn, 1) := by decide +kernel
theorem d_L_enter_25 : decode b_L_enter 25 = .ok (.iconst 0, 1) := by decide +kernel
theorem d_L_enter_26 : decode b_L_enter 26 = .ok (.ireturn, 1) := by decide +kernel
theorem d_L_leave_0 : decode b_L_leave 0 = .ok (.aload_n 0, 1) := by decide +kernel
theorem d_L_leave_1 : decode b_L_leave 1 = .ok (.iload_n 1, 1) := by decide +kernel
theorem d_L_leave_2 : decode b_L_leave 2 = .ok (.iload_n 2, 1) := by decide +kernel
theorem d_L_leave_3 : decode b_L_leave 3 = .ok (.invokevirtual 29, 3) := by decide +kernel
theorem d_L_leave_6 : decode b_L_leave 6 = .ok (.goto 9, 3) := by decide +kernel
theorem d_L_leave_9 : decode b_L_leave 9 = .ok (.astore_n 3, 1) := by decide +kernel
theorem d_L_leave_10 : decode b_L_leave 10 = .ok (.iconst 1, 1) := by decide +kernel
theorem d_L_leave_11 : decode b_L_leave 11 = .ok (.ireturn, 1) := by decide +kernel
theorem d_L_leave_12 : decode b_L_leave 12 = .ok (.astore_n 3, 1) := by decide +kernel
theorem d_L_leave_13 : decode b_L_leave 13 = .ok (.iconst 2, 1) := by decide +kernel
theorem d_L_leave_14 : decode b_L_leave 14 = .ok (.ireturn, 1) := by decide +kernel
theorem d_L_leave_15 : decode b_L_leave 15 = .ok (.iconst 0, 1) := by decide +kernel
theorem d_L_leave_16 : decode b_L_leave 16 = .ok (.ireturn, 1) := by decide +kernel
theorem d_L_deliver_0 : decode b_L_deliver 0 = .ok (.aload_n 0, 1) := by decide +kernel
theorem d_L_deliver_1 : decode b_L_deliver 1 = .ok (.iload_n 1, 1) := by decide +kernel
theorem d_L_deliver_2 : decode b_L_deliver 2 = .ok (.iload_n 2, 1) := by decide +kernel
theorem d_L_deliver_3 : decode b_L_deliver 3 = .ok (.invokevirtual 33, 3) := by decide +kernel
theorem d_L_deliver_6 : decode b_L_deliver 6 = .ok (.goto 9, 3) := by decide +kernel
theorem d_L_deliver_9 : decode b_L_deliver 9 = .ok (.astore_n 3, 1) := by decide +kernel
theorem d_L_deliver_10 : decode b_L_deliver 10 = .ok (.iconst 1, 1) := by decide +kernel
theorem d_L_deliver_11 : decode b_L_deliver 11 = .ok (.ireturn, 1) := by decide +kernel
theorem d_L_deliver_12 : decode b_L_deliver 12 = .ok (.astore_n 3, 1) := by decide +kernel
theorem d_L_deliver_13 : decode b_L_deliver 13 = .ok (.iconst 2, 1) := by decide +kernel
theorem d_L_deliver_14 : decode b_L_deliver 14 = .ok (.ireturn, 1) := by decide +kernel
theorem d_L_deliver_15 : decode b_L_deliver 15 = .ok (.iconst 0, 1) := by decide +kernel
theorem d_L_deliver_16 : decode b_L_deliver 16 = .ok (.ireturn, 1) := by decide +kernel
theorem d_L_endStock_0 : decode b_L_endStock 0 = .ok (.aload_n 0, 1) := by decide +kernel
theorem d_L_endStock_1 : decode b_L_endStock 1 = .ok (.iload_n 1, 1) := by decide +kernel
theorem d_L_endStock_2 : decode b_L_endStock 2 = .ok (.invokevirtual 36, 3) := by decide +kernel
theorem d_L_endStock_5 : decode b_L_endStock 5 = .ok (.goto 6, 3) := by decide +kernel
theorem d_L_endStock_8 : decode b_L_endStock 8 = .ok (.astore_n 2, 1) := by decide +kernel
theorem d_L_endStock_9 : decode b_L_endStock 9 = .ok (.iconst 1, 1) := by decide +kernel
theorem d_L_endStock_10 : decode b_L_endStock 10 = .ok (.ireturn, 1) := by decide +kernel
theorem d_L_endStock_11 : decode b_L_endStock 11 = .ok (.iconst 0, 1) := by decide +kernel
theorem d_L_endStock_12 : decode b_L_endStock 12 = .ok (.ireturn, 1) := by decide +kernel
theorem d_L_sideCosts_0 : decode b_L_sideCosts 0 = .ok (.aload_n 0, 1) := by decide +kernel
theorem d_L_sideCosts_1 : decode b_L_sideCosts 1 = .ok (.iload_n 1, 1) := by decide +kernel
theorem d_L_sideCosts_2 : decode b_L_sideCosts 2 = .ok (.invokevirtual 40, 3) := by decide +kernel
theorem d_L_sideCosts_5 : decode b_L_sideCosts 5 = .ok (.goto 6, 3) := by decide +kernel
theorem d_L_sideCosts_8 : decode b_L_sideCosts 8 = .ok (.astore_n 2, 1) := by decide +kernel
theorem d_L_sideCosts_9 : decode b_L_sideCosts 9 = .ok (.iconst 1, 1) := by decide +kernel
theorem d_L_sideCosts_10 : decode b_L_sideCosts 10 = .ok (.ireturn, 1) := by decide +kernel
theorem d_L_sideCosts_11 : decode b_L_sideCosts 11 = .ok (.iconst 0, 1) := by decide +kernel
theorem d_L_sideCosts_12 : decode b_L_sideCosts 12 = .ok (.ireturn, 1) := by decide +kernel
theorem d_L_water_0 : decode b_L_water 0 = .ok (.aload_n 0, 1) := by decide +kernel
theorem d_L_water_1 : decode b_L_water 1 = .ok (.iload_n 1, 1) := by decide +kernel
theorem d_L_water_2 : decode b_L_water 2 = .ok (.iload_n 2, 1) := by decide +kernel
theorem d_L_water_3 : decode b_L_water 3 = .ok (.invokevirtual 43, 3) := by decide +kernel
theorem d_L_water_6 : decode b_L_water 6 = .ok (.goto 6, 3) := by decide +kernel
theorem d_L_water_9 : decode b_L_water 9 = .ok (.astore_n 3, 1) := by decide +kernel
theorem d_L_water_10 : decode b_L_water 10 = .ok (.iconst 1, 1) := by decide +kernel
theorem d_L_water_11 : decode b_L_water 11 = .ok (.ireturn, 1) := by decide +kernel
theorem d_L_water_12 : decode b_L_water 12 = .ok (.iconst 0, 1) := by decide +kernel
theorem d_L_water_13 : decode b_L_water 13 = .ok (.ireturn, 1) := by decide +kernel
theorem d_L_permille_0 : decode b_L_permille 0 = .ok (.aload_n 0, 1) := by decide +kernel
theorem d_L_permille_1 : decode b_L_permille 1 = .ok (.iload_n 1, 1) := by decide +kernel
theorem d_L_permille_2 : decode b_L_permille 2 = .ok (.invokevirtual 46, 3) := by decide +kernel
theorem d_L_permille_5 : decode b_L_permille 5 = .ok (.goto 6, 3) := by decide +kernel
theorem d_L_permille_8 : decode b_L_permille 8 = .ok (.astore_n 2, 1) := by decide +kernel
theorem d_L_permille_9 : decode b_L_permille 9 = .ok (.iconst 1, 1) := by decide +kernel
theorem d_L_permille_10 : decode b_L_permille 10 = .ok (.ireturn, 1) := by decide +kernel
theorem d_L_permille_11 : decode b_L_permille 11 = .ok (.iconst 0, 1) := by decide +kernel
theorem d_L_permille_12 : decode b_L_permille 12 = .ok (.ireturn, 1) := by decide +kernel
theorem d_L_degrees_0 : decode b_L_degrees 0 = .ok (.aload_n 0, 1) := by decide +kernel
theorem d_L_degrees_1 : decode b_L_degrees 1 = .ok (.iload_n 1, 1) := by decide +kernel
theorem d_L_degrees_2 : decode b_L_degrees 2 = .ok (.iload_n 2, 1) := by decide +kernel
theorem d_L_degrees_3 : decode b_L_degrees 3 = .ok (.invokevirtual 49, 3) := by decide +kernel
theorem d_L_degrees_6 : decode b_L_degrees 6 = .ok (.goto 9, 3) := by decide +kernel
theorem d_L_degrees_9 : decode b_L_degrees 9 = .ok (.astore_n 3, 1) := by decide +kernel
theorem d_L_degrees_10 : decode b_L_degrees 10 = .ok (.iconst 1, 1) := by decide +kernel
theorem d_L_degrees_11 : decode b_L_degrees 11 = .ok (.ireturn, 1) := by decide +kernel
theorem d_L_degrees_12 : decode b_L_degrees 12 = .ok (.astore_n 3, 1) := by decide +kernel
theorem d_L_degrees_13 : decode b_L_degrees 13 = .ok (.iconst 2, 1) := by decide +kernel
theorem d_L_degrees_14 : decode b_L_degrees 14 = .ok (.ireturn, 1) := by decide +kernel
theorem d_L_degrees_15 : decode b_L_degrees 15 = .ok (.iconst 0, 1) := by decide +kernel
theorem d_L_degrees_16 : decode b_L_degrees 16 = .ok (.ireturn, 1) := by decide +kernel
theorem d_L_prepay_0 : decode b_L_prepay 0 = .ok (.aload_n 0, 1) := by decide +kernel
theorem d_L_prepay_1 : decode b_L_prepay 1 = .ok (.iload_n 1, 1) := by decide +kernel
theorem d_L_prepay_2 : decode b_L_prepay 2 = .ok (.iload_n 2, 1) := by decide +kernel
theorem d_L_prepay_3 : decode b_L_prepay 3 = .ok (.invokevirtual 52, 3) := by decide +kernel
theorem d_L_prepay_6 : decode b_L_prepay 6 = .ok (.goto 9, 3) := by decide +kernel
theorem d_L_prepay_9 : decode b_L_prepay 9 = .ok (.astore_n 3, 1) := by decide +kernel
theorem d_L_prepay_10 : decode b_L_prepay 10 = .ok (.iconst 1, 1) := by decide +kernel
theorem d_L_prepay_11 : decode b_L_prepay 11 = .ok (.ireturn, 1) := by decide +kernel
theorem d_L_prepay_12 : decode b_L_prepay 12 = .ok (.astore_n 3, 1) := by decide +kernel
theorem d_L_prepay_13 : decode b_L_prepay 13 = .ok (.iconst 2, 1) := by decide +kernel
theorem d_L_prepay_14 : decode b_L_prepay 14 = .ok (.ireturn, 1) := by decide +kernel
theorem d_L_prepay_15 : decode b_L_prepay 15 = .ok (.iconst 0, 1) := by decide +kernel
theorem d_L_prepay_16 : decode b_L_prepay 16 = .ok (.ireturn, 1) := by decide +kernel
theorem d_L_amount_0 : decode b_L_amount 0 = .ok (.aload_n 3, 1) := by decide +kernel
theorem d_L_amount_1 : decode b_L_amount 1 = .ok (.iconst 0, 1) := by decide +kernel
theorem d_L_amount_2 : decode b_L_amount 2 = .ok (.aload_n 0, 1) := by decide +kernel
theorem d_L_amount_3 : decode b_L_amount 3 = .ok (.iload_n 1, 1) := by decide +kernel
theorem d_L_amount_4 : decode b_L_amount 4 = .ok (.iload_n 2, 1) := by decide +kernel
theorem d_L_amount_5 : decode b_L_amount 5 = .ok (.invokevirtual 55, 3) := by decide +kernel
theorem d_L_amount_8 : decode b_L_amount 8 = .ok (.i2l, 1) := by decide +kernel
theorem d_L_amount_9 : decode b_L_amount 9 = .ok (.lastore, 1) := by decide +kernel
theorem d_L_amount_10 : decode b_L_amount 10 = .ok (.goto 11, 3) := by decide +kernel
theorem d_L_amount_13 : decode b_L_amount 13 = .ok (.astore 4, 2) := by decide +kernel
theorem d_L_amount_15 : decode b_L_amount 15 = .ok (.iconst 1, 1) := by decide +kernel
theorem d_L_amount_16 : decode b_L_amount 16 = .ok (.ireturn, 1) := by decide +kernel
theorem d_L_amount_17 : decode b_L_amount 17 = .ok (.astore 4, 2) := by decide +kernel
theorem d_L_amount_19 : decode b_L_amount 19 = .ok (.iconst 2, 1) := by decide +kernel
theorem d_L_amount_20 : decode b_L_amount 20 = .ok (.ireturn, 1) := by decide +kernel
theorem d_L_amount_21 : decode b_L_amount 21 = .ok (.iconst 0, 1) := by decide +kernel
theorem d_L_amount_22 : decode b_L_amount 22 = .ok (.ireturn, 1) := by decide +kernel
theorem d_L_paid_0 : decode b_L_paid 0 = .ok (.aload_n 2, 1) := by decide +kernel
theorem d_L_paid_1 : decode b_L_paid 1 = .ok (.iconst 0, 1) := by decide +kernel
theorem d_L_paid_2 : decode b_L_paid 2 = .ok (.aload_n 0, 1) := by decide +kernel
theorem d_L_paid_3 : decode b_L_paid 3 = .ok (.iload_n 1, 1) := by decide +kernel
theorem d_L_paid_4 : decode b_L_paid 4 = .ok (.invokevirtual 58, 3) := by decide +kernel
theorem d_L_paid_7 : decode b_L_paid 7 = .ok (.i2l, 1) := by decide +kernel
theorem d_L_paid_8 : decode b_L_paid 8 = .ok (.lastore, 1) := by decide +kernel
theorem d_L_paid_9 : decode b_L_paid 9 = .ok (.goto 6, 3) := by decide +kernel
theorem d_L_paid_12 : decode b_L_paid 12 = .ok (.astore_n 3, 1) := by decide +kernel
theorem d_L_paid_13 : decode b_L_paid 13 = .ok (.iconst 1, 1) := by decide +kernel
theorem d_L_paid_14 : decode b_L_paid 14 = .ok (.ireturn, 1) := by decide +kernel
theorem d_L_paid_15 : decode b_L_paid 15 = .ok (.iconst 0, 1) := by decide +kernel
theorem d_L_paid_16 : decode b_L_paid 16 = .ok (.ireturn, 1) := by decide +kernel
theorem d_L_part_0 : decode b_L_part 0 = .ok (.aload_n 2, 1) := by decide +kernel
theorem d_L_part_1 : decode b_L_part 1 = .ok (.iconst 0, 1) := by decide +kernel
theorem d_L_part_2 : decode b_L_part 2 = .ok (.aload_n 0, 1) := by decide +kernel
theorem d_L_part_3 : decode b_L_part 3 = .ok (.iload_n 1, 1) := by decide +kernel
theorem d_L_part_4 : decode b_L_part 4 = .ok (.invokevirtual 62, 3) := by decide +kernel
theorem d_L_part_7 : decode b_L_part 7 = .ok (.i2l, 1) := by decide +kernel
theorem d_L_part_8 : decode b_L_part 8 = .ok (.lastore, 1) := by decide +kernel
theorem d_L_part_9 : decode b_L_part 9 = .ok (.goto 9, 3) := by decide +kernel
theorem d_L_part_12 : decode b_L_part 12 = .ok (.astore_n 3, 1) := by decide +kernel
theorem d_L_part_13 : decode b_L_part 13 = .ok (.iconst 1, 1) := by decide +kernel
theorem d_L_part_14 : decode b_L_part 14 = .ok (.ireturn, 1) := by decide +kernel
theorem d_L_part_15 : decode b_L_part 15 = .ok (.astore_n 3, 1) := by decide +kernel
theorem d_L_part_16 : decode b_L_part 16 = .ok (.iconst 2, 1) := by decide +kernel
theorem d_L_part_17 : decode b_L_part 17 = .ok (.ireturn, 1) := by decide +kernel
theorem d_L_part_18 : decode b_L_part 18 = .ok (.iconst 0, 1) := by decide +kernel
theorem d_L_part_19 : decode b_L_part 19 = .ok (.ireturn, 1) := by decide +kernel
theorem d_L_replaced_0 : decode b_L_replaced 0 = .ok (.aload_n 2, 1) := by decide +kernel
theorem d_L_replaced_1 : decode b_L_replaced 1 = .ok (.iconst 0, 1) := by decide +kernel
theorem d_L_replaced_2 : decode b_L_replaced 2 = .ok (.aload_n 0, 1) := by decide +kernel
theorem d_L_replaced_3 : decode b_L_replaced 3 = .ok (.iload_n 1, 1) := by decide +kernel
theorem d_L_replaced_4 : decode b_L_replaced 4 = .ok (.invokevirtual 65, 3) := by decide +kernel
theorem d_L_replaced_7 : decode b_L_replaced 7 = .ok (.i2l, 1) := by decide +kernel
theorem d_L_replaced_8 : decode b_L_replaced 8 = .ok (.lastore, 1) := by decide +kernel
theorem d_L_replaced_9 : decode b_L_replaced 9 = .ok (.goto 6, 3) := by decide +kernel
theorem d_L_replaced_12 : decode b_L_replaced 12 = .ok (.astore_n 3, 1) := by decide +kernel
theorem d_L_replaced_13 : decode b_L_replaced 13 = .ok (.iconst 1, 1) := by decide +kernel
theorem d_L_replaced_14 : decode b_L_replaced 14 = .ok (.ireturn, 1) := by decide +kernel
theorem d_L_replaced_15 : decode b_L_replaced 15 = .ok (.iconst 0, 1) := by decide +kernel
theorem d_L_replaced_16 : decode b_L_replaced 16 = .ok (.ireturn, 1) := by decide +kernel
theorem d_L_send_0 : decode b_L_send 0 = .ok (.aload_n 1, 1) := by decide +kernel
theorem d_L_send_1 : decode b_L_send 1 = .ok (.iconst 0, 1) := by decide +kernel
theorem d_L_send_2 : decode b_L_send 2 = .ok (.aload_n 0, 1) := by decide +kernel
theorem d_L_send_3 : decode b_L_send 3 = .ok (.invokevirtual 68, 3) := by decide +kernel
theorem d_L_send_6 : decode b_L_send 6 = .ok (.i2l, 1) := by decide +kernel
theorem d_L_send_7 : decode b_L_send 7 = .ok (.lastore, 1) := by decide +kernel
theorem d_L_send_8 : decode b_L_send 8 = .ok (.goto 6, 3) := by decide +kernel
theorem d_L_send_11 : decode b_L_send 11 = .ok (.astore_n 2, 1) := by decide +kernel
theorem d_L_send_12 : decode b_L_send 12 = .ok (.iconst 1, 1) := by decide +kernel
theorem d_L_send_13 : decode b_L_send 13 = .ok (.ireturn, 1) := by decide +kernel
theorem d_L_send_14 : decode b_L_send 14 = .ok (.iconst 0, 1) := by decide +kernel
theorem d_L_send_15 : decode b_L_send 15 = .ok (.ireturn, 1) := by decide +kernel
theorem d_L_sent_0 : decode b_L_sent 0 = .ok (.aload_n 2, 1) := by decide +kernel
theorem d_L_sent_1 : decode b_L_sent 1 = .ok (.iconst 0, 1) := by decide +kernel
theorem d_L_sent_2 : decode b_L_sent 2 = .ok (.aload_n 0, 1) := by decide +kernel
theorem d_L_sent_3 : decode b_L_sent 3 = .ok (.iload_n 1, 1) := by decide +kernel
theorem d_L_sent_4 : decode b_L_sent 4 = .ok (.invokevirtual 72, 3) := by decide +kernel
theorem d_L_sent_7 : decode b_L_sent 7 = .ok (.i2l, 1) := by decide +kernel
theorem d_L_sent_8 : decode b_L_sent 8 = .ok (.lastore, 1) := by decide +kernel
theorem d_L_sent_9 : decode b_L_sent 9 = .ok (.goto 6, 3) := by decide +kernel
theorem d_L_sent_12 : decode b_L_sent 12 = .ok (.astore_n 3, 1) := by decide +kernel
theorem d_L_sent_13 : decode b_L_sent 13 = .ok (.iconst 1, 1) := by decide +kernel
theorem d_L_sent_14 : decode b_L_sent 14 = .ok (.ireturn, 1) := by decide +kernel
theorem d_L_sent_15 : decode b_L_sent 15 = .ok (.iconst 0, 1) := by decide +kernel
theorem d_L_sent_16 : decode b_L_sent 16 = .ok (.ireturn, 1) := by decide +kernel
theorem d_L_closeYear_0 : decode b_L_closeYear 0 = .ok (.aload_n 1, 1) := by decide +kernel
theorem d_L_closeYear_1 : decode b_L_closeYear 1 = .ok (.iconst 0, 1) := by decide +kernel
theorem d_L_closeYear_2 : decode b_L_closeYear 2 = .ok (.aload_n 0, 1) := by decide +kernel
theorem d_L_closeYear_3 : decode b_L_closeYear 3 = .ok (.invokevirtual 75, 3) := by decide +kernel
theorem d_L_closeYear_6 : decode b_L_closeYear 6 = .ok (.i2l, 1) := by decide +kernel
theorem d_L_closeYear_7 : decode b_L_closeYear 7 = .ok (.lastore, 1) := by decide +kernel
theorem d_L_closeYear_8 : decode b_L_closeYear 8 = .ok (.goto 6, 3) := by decide +kernel
theorem d_L_closeYear_11 : decode b_L_closeYear 11 = .ok (.astore_n 2, 1) := by decide +kernel
theorem d_L_closeYear_12 : decode b_L_closeYear 12 = .ok (.iconst 1, 1) := by decide +kernel
theorem d_L_closeYear_13 : decode b_L_closeYear 13 = .ok (.ireturn, 1) := by decide +kernel
theorem d_L_closeYear_14 : decode b_L_closeYear 14 = .ok (.iconst 0, 1) := by decide +kernel
theorem d_L_closeYear_15 : decode b_L_closeYear 15 = .ok (.ireturn, 1) := by decide +kernel
theorem d_L_known_0 : decode b_L_known 0 = .ok (.aload_n 2, 1) := by decide +kernel
theorem d_L_known_1 : decode b_L_known 1 = .ok (.iconst 0, 1) := by decide +kernel
theorem d_L_known_2 : decode b_L_known 2 = .ok (.aload_n 0, 1) := by decide +kernel
theorem d_L_known_3 : decode b_L_known 3 = .ok (.iload_n 1, 1) := by decide +kernel
theorem d_L_known_4 : decode b_L_known 4 = .ok (.invokevirtual 78, 3) := by decide +kernel
theorem d_L_known_7 : decode b_L_known 7 = .ok (.i2l, 1) := by decide +kernel
theorem d_L_known_8 : decode b_L_known 8 = .ok (.lastore, 1) := by decide +kernel
theorem d_L_known_9 : decode b_L_known 9 = .ok (.goto 6, 3) := by decide +kernel
theorem d_L_known_12 : decode b_L_known 12 = .ok (.astore_n 3, 1) := by decide +kernel
theorem d_L_known_13 : decode b_L_known 13 = .ok (.iconst 1, 1) := by decide +kernel
theorem d_L_known_14 : decode b_L_known 14 = .ok (.ireturn, 1) := by decide +kernel
theorem d_L_known_15 : decode b_L_known 15 = .ok (.iconst 0, 1) := by decide +kernel
theorem d_L_known_16 : decode b_L_known 16 = .ok (.ireturn, 1) := by decide +kernel
end
section
/-! Abstract values: an int, a long, an object of the universe (tag, number), any other reference. -/
abbrev AV : Type := Int ⊕ Int ⊕ (Nat × Nat) ⊕ Nat
abbrev vI (n : Int) : AV := Sum.inl n
abbrev vL (n : Int) : AV := Sum.inr (Sum.inl n)
abbrev vO (t i : Nat) : AV := Sum.inr (Sum.inr (Sum.inl (t, i)))
abbrev vX (a : Nat) : AV := Sum.inr (Sum.inr (Sum.inr a))
/-- the universe's numbers: tag, number, slot -/
abbrev AH : Type := Nat → Nat → Nat → Int
/-- a world: addresses; class numbers and slots; array classes -/
abbrev XW : Type := (Nat → Nat → Nat) × va_G × (Nat → ClassId)
def cV (w : XW) (v : AV) : Value := match v with
  | .inl n => .int (Int32.ofInt n)
  | .inr (.inl n) => .long (Int64.ofInt n)
  | .inr (.inr (.inl o)) => .ref (w.1 o.1 o.2)
  | .inr (.inr (.inr a)) => .ref a
def isL (v : AV) : Bool := match v with
  | .inr (.inl _) => true
  | _ => false
theorem cV_cat (w : XW) (v : AV) : ((cV w v).category == 2) = isL v := by
  rcases v with n | n | o | a <;> rfl
theorem cV_cat1 (w : XW) (v : AV) (h : isL v = false) : (cV w v).category = 1 := by
  rcases v with n | n | o | a <;> first | rfl | cases h
abbrev okI (n : Int) : Prop := -2147483648 ≤ n ∧ n ≤ 2147483647
abbrev okJ (n : Int) : Prop := -9223372036854775808 ≤ n ∧ n ≤ 9223372036854775807
def okV (v : AV) : Prop := match v with
  | .inl n => okI n
  | .inr (.inl n) => okJ n
  | .inr (.inr (.inl o)) => o.2 < cntT o.1
  | .inr (.inr (.inr _)) => True
def okS (st : List AV) : Prop := match st with
  | [] => True
  | v :: st => okV v ∧ okS st
def okL (lv : List (Nat × AV)) : Prop := match lv with
  | [] => True
  | q :: lv => okV q.2 ∧ okL lv
theorem okL_mem {lv : List (Nat × AV)} (h : okL lv) : ∀ q ∈ lv, okV q.2 := by
  induction lv with
  | nil => intro q hq; cases hq
  | cons a l ih =>
    intro q hq
    rcases List.mem_cons.mp hq with e | e
    · subst e; exact h.1
    · exact ih h.2 q e
theorem okL_of {lv : List (Nat × AV)} (h : ∀ q ∈ lv, okV q.2) : okL lv := by
  induction lv with
  | nil => trivial
  | cons a l ih => exact ⟨h a List.mem_cons_self, ih fun q hq => h q (List.mem_cons_of_mem _ hq)⟩
theorem okS_mem {st : List AV} (h : okS st) : ∀ v ∈ st, okV v := by
  induction st with
  | nil => intro q hq; cases hq
  | cons a l ih =>
    intro q hq
    rcases List.mem_cons.mp hq with e | e
    · subst e; exact h.1
    · exact ih h.2 q e
theorem okS_of {st : List AV} (h : ∀ v ∈ st, okV v) : okS st := by
  induction st with
  | nil => trivial
  | cons a l ih => exact ⟨h a List.mem_cons_self, ih fun q hq => h q (List.mem_cons_of_mem _ hq)⟩
theorem okS_app {a b : List AV} (h : okS (a ++ b)) : okS a ∧ okS b :=
  ⟨okS_of fun v hv => okS_mem h v (List.mem_append_left _ hv), okS_of fun v hv => okS_mem h v (List.mem_append_right _ hv)⟩
theorem okS_rev {a : List AV} (h : okS a.reverse) : okS a := okS_of fun v hv => okS_mem h v (List.mem_reverse.mpr hv)
def cP (w : XW) (q : Nat × AV) : Nat × Value := (q.1, cV w q.2)
theorem lk_mem {lv : List (Nat × AV)} {i : Nat} {v : AV} (h : lv.lookup i = some v) : (i, v) ∈ lv := by
  induction lv with
  | nil => cases h
  | cons a l ih =>
    obtain ⟨j, u⟩ := a
    by_cases e : i = j
    · subst e
      simp only [List.lookup, beq_self_eq_true] at h
      cases h
      exact List.mem_cons_self
    · have e' : (i == j) = false := by simpa using e
      simp only [List.lookup, e'] at h
      exact List.mem_cons_of_mem _ (ih h)
theorem lk_has {w : XW} {ls : Array Slot} {nL : Nat} {lv : List (Nat × AV)} (hv : lv_has ls nL (lv.map (cP w))) {i : Nat} {v : AV} (h : lv.lookup i = some v) : ls[i]? = some (.val (cV w v)) :=
  hv.2.2 (i, cV w v) (List.mem_map.mpr ⟨(i, v), lk_mem h, rfl⟩)
theorem lk_ok {lv : List (Nat × AV)} (hl : okL lv) {i : Nat} {v : AV} (h : lv.lookup i = some v) : okV v := okL_mem hl _ (lk_mem h)
/-- a store into a local variable -/
def lst (lv : List (Nat × AV)) (i : Nat) (v : AV) : List (Nat × AV) := (i, v) :: lv.filter (fun q => !(q.1 == i) && !(q.1 + 1 == i && isL q.2))
def lstL (lv : List (Nat × AV)) (i : Nat) (v : AV) : List (Nat × AV) := (i, v) :: lv.filter (fun q => !(q.1 == i) && (!(q.1 == i + 1) && !(q.1 + 1 == i && isL q.2)))
theorem lst_map (w : XW) (lv : List (Nat × AV)) (i : Nat) (v : AV) : (i, cV w v) :: (lv.map (cP w)).filter (fun q => !(q.1 == i) && !(q.1 + 1 == i && q.2.category == 2)) = (lst lv i v).map (cP w) := by
  show _ = (i, cV w v) :: (lv.filter _).map (cP w)
  rw [List.filter_map]
  congr 2
  refine congrArg (fun f => List.filter f lv) (funext fun q => ?_)
  show (!(q.1 == i) && !(q.1 + 1 == i && (cV w q.2).category == 2)) = _
  rw [cV_cat]
theorem lstL_map (w : XW) (lv : List (Nat × AV)) (i : Nat) (v : AV) : (i, cV w v) :: (lv.map (cP w)).filter (fun q => !(q.1 == i) && (!(q.1 == i + 1) && !(q.1 + 1 == i && q.2.category == 2))) = (lstL lv i v).map (cP w) := by
  show _ = (i, cV w v) :: (lv.filter _).map (cP w)
  rw [List.filter_map]
  congr 2
  refine congrArg (fun f => List.filter f lv) (funext fun q => ?_)
  show (!(q.1 == i) && (!(q.1 == i + 1) && !(q.1 + 1 == i && (cV w q.2).category == 2))) = _
  rw [cV_cat]
theorem lst_ok {lv : List (Nat × AV)} {i : Nat} {v : AV} (h : okL lv) (hv : okV v) : okL (lst lv i v) := ⟨hv, okL_of fun q hq => okL_mem h q (List.mem_filter.mp hq).1⟩
theorem lstL_ok {lv : List (Nat × AV)} {i : Nat} {v : AV} (h : okL lv) (hv : okV v) : okL (lstL lv i v) := ⟨hv, okL_of fun q hq => okL_mem h q (List.mem_filter.mp hq).1⟩
/-- a method's arguments as its first locals -/
def aargs (k : Nat) (as : List AV) : List (Nat × AV) := match as with
  | [] => []
  | v :: as => (k, v) :: aargs (if isL v then k + 2 else k + 1) as
theorem aargs_ok {as : List AV} (h : okS as) : ∀ k, okL (aargs k as) := by
  induction as with
  | nil => intro k; trivial
  | cons v as ih => intro k; exact ⟨h.1, ih h.2 _⟩
/-- what slot j of an object holds -/
def fv (h : AH) (t i j : Nat) : AV := match ftT t j with
  | 0 => vI (h t i j)
  | 1 => vL (h t i j)
  | _ => vO (rfT t i j).1 (rfT t i j).2
def cellR (w : XW) (h : AH) (t i : Nat) (H : Heap) : Prop := match kdT t with
  | 0 => t_OB (w.1 t i) (w.2.1.1 (clT t)) (nfT t) (w.2.1.2 (clT t)) H (fun j => cV w (fv h t i j))
  | k + 1 => H[w.1 t i]? = some (arrV (w.2.2 k) (lnT t) (fun j => cV w (fv h t i j)))
def HRep (w : XW) (h : AH) (H : Heap) : Prop := ∀ t i, i < cntT t → cellR w h t i H
def okH (h : AH) : Prop := ∀ t i j, (ftT t j = 0 → okI (h t i j)) ∧ (ftT t j = 1 → okJ (h t i j))
def adInj (w : XW) : Prop := ∀ t i t' i', i < cntT t → i' < cntT t' → w.1 t i = w.1 t' i' → t = t' ∧ i = i'
def inU (w : XW) (sz : Nat) (q : Nat) : Prop := (∃ t i, i < cntT t ∧ w.1 t i = q) ∨ sz ≤ q
def hset (h : AH) (t i j : Nat) (n : Int) : AH := fun t' i' j' => if t' = t ∧ i' = i ∧ j' = j then n else h t' i' j'
theorem hset_same (h : AH) (t i j : Nat) (n : Int) : hset h t i j n t i j = n := if_pos ⟨rfl, rfl, rfl⟩
theorem hset_ne (h : AH) {t i j t' i' j' : Nat} (n : Int) (e : ¬ (t' = t ∧ i' = i ∧ j' = j)) : hset h t i j n t' i' j' = h t' i' j' := if_neg e
theorem hset_tag (h : AH) {t i j t' i' j' : Nat} (n : Int) (e : t' ≠ t) : hset h t i j n t' i' j' = h t' i' j' := if_neg fun q => e q.1
theorem hset_ok {h : AH} {t i j : Nat} {n : Int} (hh : okH h) (h0 : ftT t j = 0 → okI n) (h1 : ftT t j = 1 → okJ n) : okH (hset h t i j n) := by
  intro t' i' j'
  by_cases e : t' = t ∧ i' = i ∧ j' = j
  · obtain ⟨rfl, rfl, rfl⟩ := e
    rw [hset_same]; exact ⟨h0, h1⟩
  · rw [hset_ne h n e]; exact hh t' i' j'
theorem fv_ne (h : AH) {t i j t' i' j' : Nat} (n : Int) (e : ¬ (t' = t ∧ i' = i ∧ j' = j)) : fv (hset h t i j n) t' i' j' = fv h t' i' j' := by
  unfold fv
  rw [hset_ne h n e]
theorem fv_ok {h : AH} (hh : okH h) {t i j : Nat} (hr : ¬ ftT t j = 0 → ¬ ftT t j = 1 → (rfT t i j).2 < cntT (rfT t i j).1) : okV (fv h t i j) := by
  unfold fv
  split
  · rename_i e; exact (hh t i j).1 e
  · rename_i e; exact (hh t i j).2 e
  · rename_i e1 e2; exact hr (fun q => e1 q) (fun q => e2 q)
theorem fv_0 {h : AH} {t i j : Nat} (e : ftT t j = 0) : fv h t i j = vI (h t i j) := by unfold fv; rw [e]; rfl
theorem fv_1 {h : AH} {t i j : Nat} (e : ftT t j = 1) : fv h t i j = vL (h t i j) := by unfold fv; rw [e]; rfl
theorem fv_2 {h : AH} {t i j : Nat} (e : ftT t j = 2) : fv h t i j = vO (rfT t i j).1 (rfT t i j).2 := by unfold fv; rw [e]; rfl
theorem cellR_kept {w : XW} {h h' : AH} {t i : Nat} {H H' : Heap} (hc : cellR w h t i H) (hq : H'[w.1 t i]? = H[w.1 t i]?) (he : ∀ j, fv h' t i j = fv h t i j) : cellR w h' t i H' := by
  unfold cellR at hc ⊢
  have hf : (fun j => cV w (fv h' t i j)) = (fun j => cV w (fv h t i j)) := funext fun j => by rw [he j]
  rw [hf]
  split at hc
  · exact hc.kept hq
  · rw [hq]; exact hc
theorem HRep.set {w : XW} {h : AH} {H H' : Heap} (hR : HRep w h H) (hI : adInj w) {t i j : Nat} {n : Int} (hi : i < cntT t) (hc : cellR w (hset h t i j n) t i H') (oq : ∀ q, q ≠ w.1 t i → H'[q]? = H[q]?) : HRep w (hset h t i j n) H' := by
  intro t' i' hi'
  by_cases e : t' = t ∧ i' = i
  · obtain ⟨rfl, rfl⟩ := e; exact hc
  · refine cellR_kept (hR t' i' hi') (oq _ fun q => e (hI _ _ _ _ hi' hi q)) fun j' => fv_ne h n fun q => e ⟨q.1, q.2.1⟩
theorem cellR_arr {w : XW} {h : AH} {t i k : Nat} {H : Heap} (hk : kdT t = k + 1) (hc : cellR w h t i H) : H[w.1 t i]? = some (arrV (w.2.2 k) (lnT t) (fun j => cV w (fv h t i j))) := by
  unfold cellR at hc; rw [hk] at hc; exact hc
theorem cellR_obj {w : XW} {h : AH} {t i : Nat} {H : Heap} (hk : kdT t = 0) (hc : cellR w h t i H) : t_OB (w.1 t i) (w.2.1.1 (clT t)) (nfT t) (w.2.1.2 (clT t)) H (fun j => cV w (fv h t i j)) := by
  unfold cellR at hc; rw [hk] at hc; exact hc
theorem cellR_ofArr {w : XW} {h : AH} {t i k : Nat} {H : Heap} (hk : kdT t = k + 1) (hc : H[w.1 t i]? = some (arrV (w.2.2 k) (lnT t) (fun j => cV w (fv h t i j)))) : cellR w h t i H := by
  unfold cellR; rw [hk]; exact hc
theorem cellR_ofObj {w : XW} {h : AH} {t i : Nat} {H : Heap} (hk : kdT t = 0) (hc : t_OB (w.1 t i) (w.2.1.1 (clT t)) (nfT t) (w.2.1.2 (clT t)) H (fun j => cV w (fv h t i j))) : cellR w h t i H := by
  unfold cellR; rw [hk]; exact hc
theorem fv_upd {w : XW} {h : AH} {t i j : Nat} {n : Int} {v : AV} (hv : fv (hset h t i j n) t i j = v) : updV (fun j' => cV w (fv h t i j')) j (cV w v) = fun j' => cV w (fv (hset h t i j n) t i j') := by
  funext j'
  unfold updV
  by_cases e : j' = j
  · subst e; rw [if_pos rfl, hv]
  · rw [if_neg e, fv_ne h n fun q => e q.2.2]
/-- an array's store -/
theorem HRep.setA {w : XW} {h : AH} {H H' : Heap} (hR : HRep w h H) (hI : adInj w) {t i j k : Nat} {n : Int} {v : AV} (hi : i < cntT t) (hk : kdT t = k + 1) (hv : fv (hset h t i j n) t i j = v)
    (hc : H'[w.1 t i]? = some ((arrV (w.2.2 k) (lnT t) (fun j => cV w (fv h t i j))).setSlot j (cV w v))) (oq : ∀ q, q ≠ w.1 t i → H'[q]? = H[q]?) : HRep w (hset h t i j n) H' := by
  refine hR.set hI hi (cellR_ofArr hk ?_) oq
  rw [hc, arrV_store, fv_upd hv]
/-- integers -/
theorem i32_toInt {n : Int} (h : okI n) : (Int32.ofInt n).toInt = n := Int32.toInt_ofInt_of_le (by have := h.1; omega) (by have := h.2; omega)
theorem i64_toInt {n : Int} (h : okJ n) : (Int64.ofInt n).toInt = n := Int64.toInt_ofInt_of_le (by have := h.1; omega) (by have := h.2; omega)
theorem i32_lt {a b : Int} (ha : okI a) (hb : okI b) : (Int32.ofInt a < Int32.ofInt b) = (a < b) := by
  rw [Int32.lt_iff_toInt_lt, i32_toInt ha, i32_toInt hb]
theorem i32_le {a b : Int} (ha : okI a) (hb : okI b) : (Int32.ofInt a ≤ Int32.ofInt b) = (a ≤ b) := by
  rw [Int32.le_iff_toInt_le, i32_toInt ha, i32_toInt hb]
theorem i32_eq {a b : Int} (ha : okI a) (hb : okI b) : (Int32.ofInt a = Int32.ofInt b) = (a = b) := by
  apply propext
  rw [← Int32.toInt_inj, i32_toInt ha, i32_toInt hb]
theorem i64_lt {a b : Int} (ha : okJ a) (hb : okJ b) : (Int64.ofInt a < Int64.ofInt b) = (a < b) := by
  rw [Int64.lt_iff_toInt_lt, i64_toInt ha, i64_toInt hb]
theorem i64_le {a b : Int} (ha : okJ a) (hb : okJ b) : (Int64.ofInt a ≤ Int64.ofInt b) = (a ≤ b) := by
  rw [Int64.le_iff_toInt_le, i64_toInt ha, i64_toInt hb]
theorem i64_eq {a b : Int} (ha : okJ a) (hb : okJ b) : (Int64.ofInt a = Int64.ofInt b) = (a = b) := by
  apply propext
  rw [← Int64.toInt_inj, i64_toInt ha, i64_toInt hb]
theorem i32_div {a b : Int} (ha : okI a) (hb : okI b) (hq : okI (a.tdiv b)) : Int32.ofInt a / Int32.ofInt b = Int32.ofInt (a.tdiv b) := by
  rw [← Int32.toInt_inj, Int32.toInt_div, i32_toInt ha, i32_toInt hb, Int32.toInt_ofInt]
theorem i64_div {a b : Int} (ha : okJ a) (hb : okJ b) (hq : okJ (a.tdiv b)) : Int64.ofInt a / Int64.ofInt b = Int64.ofInt (a.tdiv b) := by
  rw [← Int64.toInt_inj, Int64.toInt_div, i64_toInt ha, i64_toInt hb, Int64.toInt_ofInt]
theorem i32_rem {a b : Int} (ha : okI a) (hb : okI b) (hq : okI (a.tdiv b)) : Int32.ofInt a - Int32.ofInt a / Int32.ofInt b * Int32.ofInt b = Int32.ofInt (a.tmod b) := by
  rw [i32_div ha hb hq, ← Int32.ofInt_mul, ← Int32.ofInt_sub]
  congr 1
  have := Int.tmod_def a b
  rw [this, Int.mul_comm]
theorem i64_rem {a b : Int} (ha : okJ a) (hb : okJ b) (hq : okJ (a.tdiv b)) : Int64.ofInt a - Int64.ofInt a / Int64.ofInt b * Int64.ofInt b = Int64.ofInt (a.tmod b) := by
  rw [i64_div ha hb hq, ← Int64.ofInt_mul, ← Int64.ofInt_sub]
  congr 1
  have := Int.tmod_def a b
  rw [this, Int.mul_comm]
theorem i32_i2l {a : Int} (ha : okI a) : (Int32.ofInt a).toInt64 = Int64.ofInt a := by
  rw [← Int64.toInt_inj, Int32.toInt_toInt64, i32_toInt ha, i64_toInt ⟨by have := ha.1; omega, by have := ha.2; omega⟩]
theorem i64_l2i {a : Int} (ha : okI a) : (Int64.ofInt a).toInt32 = Int32.ofInt a := by
  rw [← Int32.toInt_inj, Int64.toInt_toInt32, i32_toInt ha, i64_toInt ⟨by have := ha.1; omega, by have := ha.2; omega⟩]
  have h := Int32.toInt_ofInt (n := a)
  rw [i32_toInt ha] at h
  exact h.symm
theorem i32_in {a : Int} {n : Nat} (ha : okI a) (h0 : 0 ≤ a) (hn : a < n) : ¬ (Int32.ofInt a < 0 ∨ n ≤ (Int32.ofInt a).toNatClampNeg) := by
  have h1 : (Int32.ofInt a).toNatClampNeg = a.toNat := by rw [← Int32.toNat_toInt, i32_toInt ha]
  rw [h1]
  intro q
  rcases q with q | q
  · rw [Int32.lt_iff_toInt_lt, i32_toInt ha] at q
    have : (0 : Int32).toInt = 0 := rfl
    omega
  · omega
theorem i32_ix {a : Int} (ha : okI a) : (Int32.ofInt a).toNatClampNeg = a.toNat := by rw [← Int32.toNat_toInt, i32_toInt ha]
end
section
/-! What a method may count on beside the words: classes and their slots, array classes, text constants, Throwable's two statics, what is a subclass of what. -/
def tysL (w : XW) : List (ClassId × FieldType) := [(w.2.2 0, .int), (w.2.2 1, .long), (w.2.2 2, .boolean), (w.2.2 3, .object "HeatShares$Flat"), (w.2.2 4, .array .int)]
def uni (w : XW) (q : Nat) : Prop := ∃ t i, i < cntT t ∧ w.1 t i = q
def exN (k : Nat) : String := match k with
  | 0 => "java/lang/IllegalArgumentException"
  | 1 => "java/lang/IndexOutOfBoundsException"
  | 2 => "java/lang/IllegalStateException"
  | _ => "java/lang/UnsupportedOperationException"
/-- a static that holds a reference, in a cell that is no object of the universe -/
def SZ (w : XW) (C n d : String) (U : State) : Prop := ∃ (c : ClassId) (k : Class) (i : Nat) (f : Field) (a : Nat) (cell : Cell) (v : Value), U.vm.findClass C = some c ∧ U.fieldFound? C n d = some (c, k, i, f) ∧ f.isStatic = true ∧ k.statics = some a ∧ k.staticTypes[f.slot]? = some f.type ∧ U.heap[a]? = some cell ∧ cell.vm.isStatics = true ∧ cell.cls = c ∧ f.slot < cell.slots.size ∧ cell.slots[f.slot]? = some v ∧ v.isRef = true ∧ ¬ uni w a
theorem SZ.lays {w : XW} {C n d : String} {U : State} (h : SZ w C n d U) (A : Array Value) : (Cond.laysStatic C n d).before A U = true := by
  obtain ⟨c, k, i, f, a, cell, v, h1, h2, h3, h4, h5, h6, h7, h8, h9, -⟩ := h
  simp [Cond.before, Cond.holds, Cond.value, h1, h2, h3, h4, h5, h6, h7, h8, h9]
theorem SZ.isr {w : XW} {C n d : String} {U : State} (h : SZ w C n d U) (A : Array Value) : (Cond.isRef (.static C n d)).before A U = true := by
  obtain ⟨c, k, i, f, a, cell, v, h1, h2, h3, h4, h5, h6, h7, h8, h9, h10, h11, -⟩ := h
  have hv : (Term.static C n d).eval A U none [] U = some v := by
    simp [Term.eval, State.fieldNamed?, h2, h3, h4, h6, h7, h10]
  cases v <;> simp [Value.isRef] at h11 <;> simp [Cond.before, Cond.holds, Cond.value, hv]
theorem SZ.at {w : XW} {C n d : String} {s U : State} (h : SZ w C n d s) (hvm : s.vm.Alike U.vm) (hk : ∀ a : Nat, a < s.heap.size → ¬ uni w a → U.heap[a]? = s.heap[a]?) : SZ w C n d U := by
  obtain ⟨c, k, i, f, a, cell, v, h1, h2, h3, h4, h5, h6, h7, h8, h9, h10, h11, h12⟩ := h
  obtain ⟨k', hi', he⟩ := State.fieldFound?_setVm hvm h2
  exact ⟨c, k', i, f, a, cell, v, by rw [hvm.findClass]; exact h1, hi', h3, by rw [he]; exact h4, by rw [he]; exact h5, by rw [hk a (Array.getElem?_eq_some_iff.mp h6).1 h12]; exact h6, h7, h8, h9, h10, h11, h12⟩
abbrev upT : List String := ["java/lang/RuntimeException", "java/lang/Exception", "java/lang/Throwable"]
def KW (w : XW) (U : State) : Prop := va_K w.2.1 uCl (tysL w) U ∧ (∀ q ∈ strL, ∃ a, vk_R q.1 q.2.1 q.2.2 a U) ∧ SZ w Bundle.tN "UNASSIGNED_STACK" Bundle.steD U ∧ SZ w Bundle.tN "SUPPRESSED_SENTINEL" Bundle.listD U ∧ ((∀ k, k < 4 → va_Nw (.castable (exN k) (exN k)) U) ∧ ∀ Y ∈ upT, va_Nw (.declares (Bundle.initS Y)) U) ∧ (∀ j k, j < 4 → k < 4 → j ≠ k → va_Nc (exN j) (exN k) U)
theorem va_Nc_moved {C T : String} {u U : State} (hvm : u.vm.Alike U.vm) (h : va_Nc C T u) : va_Nc C T U := by
  obtain ⟨c, t, h1, h2, h3⟩ := h
  exact ⟨c, t, by rw [hvm.findClass]; exact h1, by rw [hvm.findClass]; exact h2, by rw [hvm.assignable]; exact h3⟩
theorem KW.at {w : XW} {s U : State} {locs : List Loc} (h : KW w s) (hW : s.WarmedH U.vm) (hS : va_S (inU w s.heap.size) s.heap U.heap locs) : KW w U := by
  have hk : ∀ a : Nat, a < s.heap.size → ¬ uni w a → U.heap[a]? = s.heap[a]? := fun a h1 h2 => hS.2.1 a h1 fun z => by
    rcases z with z | z
    · exact h2 z
    · omega
  exact ⟨va_K.moved hW.alike h.1, fun q hq => by
    obtain ⟨a, ha⟩ := h.2.1 q hq
    exact ⟨a, ha.warm hW⟩, h.2.2.1.at hW.alike hk, h.2.2.2.1.at hW.alike hk, ⟨fun k h1 => va_Nw.warmC hW (h.2.2.2.2.1.1 k h1), fun Y hY => va_Nw.warmD hW (h.2.2.2.2.1.2 Y hY)⟩, fun j k h1 h2 h3 => va_Nc_moved hW.alike (h.2.2.2.2.2 j k h1 h2 h3)⟩
end
section
abbrev MX : Type := Program × Launch × Env × Room × State × MethodId × Array Value × List Frame × Method × Code
abbrev MX.p (x : MX) : Program := x.1
abbrev MX.l (x : MX) : Launch := x.2.1
abbrev MX.e (x : MX) : Env := x.2.2.1
abbrev MX.R (x : MX) : Room := x.2.2.2.1
abbrev MX.s (x : MX) : State := x.2.2.2.2.1
abbrev MX.m (x : MX) : MethodId := x.2.2.2.2.2.1
abbrev MX.args (x : MX) : Array Value := x.2.2.2.2.2.2.1
abbrev MX.below (x : MX) : List Frame := x.2.2.2.2.2.2.2.1
abbrev MX.meth (x : MX) : Method := x.2.2.2.2.2.2.2.2.1
abbrev MX.c (x : MX) : Code := x.2.2.2.2.2.2.2.2.2
abbrev xW (x : MX) (H : Heap) (locs : List Loc) (cells slots : Nat) (Q : State → Prop) (g : JFrame) : Prop := W x.p x.l x.e x.R x.s x.m x.args x.below x.meth x.c H locs cells slots Q g
abbrev xStand (x : MX) (T : State) (locs : List Loc) (cells slots : Nat) : Prop := Stand x.p x.l x.e x.R x.s x.m x.args x.below x.meth x.c T locs cells slots
def subL (lv lv' : List (Nat × AV)) : Prop := match lv' with
  | [] => True
  | q :: r => lv.lookup q.1 = some q.2 ∧ subL lv r
theorem subL_mem {lv lv' : List (Nat × AV)} (h : subL lv lv') : ∀ q ∈ lv', q ∈ lv := by
  induction lv' with
  | nil => intro q hq; cases hq
  | cons a l ih =>
    intro q hq
    rcases List.mem_cons.mp hq with e | e
    · subst e; exact lk_mem h.1
    · exact ih h.2 q e
/-- what a walk of one invocation has at hand -/
def Cx (x : MX) (w : XW) (rm : Room) (own : String) (cc : ByteArray) (nL : Nat) (ret : Option FieldType) (hs : List (Nat × Nat × Nat × Nat)) : Prop :=
  x.p.tables.exec = Jvm.exec ∧ x.c.code = cc ∧ x.c.maxLocals = nL ∧ x.s.vm.findClass own = some x.m.cls ∧ x.meth.locks = false ∧ x.meth.sig.returnType = ret ∧ x.R = rm ∧ (∀ k ∈ GW, k.before x.args x.s = true) ∧ KW w x.s ∧ adInj w ∧ x.e.platform.stackTraces = false ∧ x.c.exceptionTable.toList = tableOf hs
section CX
variable {x : MX} {w : XW} {rm : Room} {own : String} {cc : ByteArray} {nL : Nat} {ret : Option FieldType} {hx : List (Nat × Nat × Nat × Nat)}
theorem Cx.ex (C : Cx x w rm own cc nL ret hx) : x.p.tables.exec = Jvm.exec := C.1
theorem Cx.by (C : Cx x w rm own cc nL ret hx) : x.c.code = cc := C.2.1
theorem Cx.ml (C : Cx x w rm own cc nL ret hx) : x.c.maxLocals = nL := C.2.2.1
theorem Cx.ow (C : Cx x w rm own cc nL ret hx) : x.s.vm.findClass own = some x.m.cls := C.2.2.2.1
theorem Cx.lk (C : Cx x w rm own cc nL ret hx) : x.meth.locks = false := C.2.2.2.2.1
theorem Cx.rt (C : Cx x w rm own cc nL ret hx) : x.meth.sig.returnType = ret := C.2.2.2.2.2.1
theorem Cx.ro (C : Cx x w rm own cc nL ret hx) : x.R = rm := C.2.2.2.2.2.2.1
theorem Cx.ws (C : Cx x w rm own cc nL ret hx) : ∀ k ∈ GW, k.before x.args x.s = true := C.2.2.2.2.2.2.2.1
theorem Cx.kw (C : Cx x w rm own cc nL ret hx) : KW w x.s := C.2.2.2.2.2.2.2.2.1
theorem Cx.ij (C : Cx x w rm own cc nL ret hx) : adInj w := C.2.2.2.2.2.2.2.2.2.1
theorem Cx.tr (C : Cx x w rm own cc nL ret hx) : x.e.platform.stackTraces = false := C.2.2.2.2.2.2.2.2.2.2.1
theorem Cx.tb (C : Cx x w rm own cc nL ret hx) : x.c.exceptionTable.toList = tableOf hx := C.2.2.2.2.2.2.2.2.2.2.2
end CX
def frS (cl : Bool) (x : MX) (w : XW) (H : Heap) (locs : List Loc) : Prop := if cl then (H = x.s.heap ∧ locs = []) else va_S (inU w x.s.heap.size) x.s.heap H locs
theorem frS.weak {cl : Bool} {x : MX} {w : XW} {H : Heap} {locs : List Loc} (h : frS cl x w H locs) : va_S (inU w x.s.heap.size) x.s.heap H locs := by
  cases cl with
  | false => exact h
  | true =>
    obtain ⟨h1, h2⟩ := h
    subst h1; subst h2
    exact va_S.rf
/-- the machine, at pc with these locals, this stack and this heap, comes to Q (cl: nothing has been written or made yet) -/
def AW (x : MX) (w : XW) (nL : Nat) (cl : Bool) (cells slots : Nat) (Q : State → Prop) (pc : Nat) (lv : List (Nat × AV)) (st : List AV) (h : AH) : Prop :=
  okH h → okL lv → okS st → ∀ (H : Heap) (ls : Array Slot) (locs : List Loc), HRep w h H → lv_has ls nL (lv.map (cP w)) → frS cl x w H locs → xW x H locs cells slots Q (F0 x.m pc ls (st.map (cV w)))
section ROWS
variable {x : MX} {w : XW} {rm : Room} {own : String} {cc : ByteArray} {nL : Nat} {ret : Option FieldType} {hx : List (Nat × Nat × Nat × Nat)} {cl : Bool} {cells slots pc : Nat} {Q : State → Prop} {lv : List (Nat × AV)} {st : List AV} {h : AH}
theorem AW.widen {k n : Nat} (h1 : cells ≤ k) (h2 : slots ≤ n) (kk : AW x w nL cl k n Q pc lv st h) : AW x w nL cl cells slots Q pc lv st h := fun hh hl hs H ls locs hR hv hS => W.widen h1 h2 (kk hh hl hs H ls locs hR hv hS)
/-- the locals that are still needed -/
theorem AW.lvs (lv' : List (Nat × AV)) (hs : subL lv lv') (kk : AW x w nL cl cells slots Q pc lv' st h) : AW x w nL cl cells slots Q pc lv st h := by
  intro hh hl hst H ls locs hR hv hS
  have hm := subL_mem hs
  refine kk hh (okL_of fun q hq => okL_mem hl q (hm q hq)) hst H ls locs hR ⟨hv.1, hv.2.1, fun q hq => ?_⟩ hS
  obtain ⟨q0, h0, rfl⟩ := List.mem_map.mp hq
  exact hv.2.2 _ (List.mem_map.mpr ⟨q0, hm q0 h0, rfl⟩)

theorem r_iconst (C : Cx x w rm own cc nL ret hx) {n : Int} (hdg : decode cc pc = .ok (.iconst n, 1)) (hn : okI n) (kk : AW x w nL cl cells slots Q (pc + 1) lv (vI n :: st) h) : AW x w nL cl cells slots Q pc lv (st) h := by
  intro hh hl hs H ls locs hR hv hS
  obtain ⟨p, l, e, R, s, m, args, below, meth, c⟩ := x
  exact lv_iconst C.ex C.by hdg rfl (kk hh hl ⟨hn, hs⟩ H ls locs hR hv hS)
theorem r_bipush (C : Cx x w rm own cc nL ret hx) {n : Int} (hdg : decode cc pc = .ok (.bipush n, 2)) (hn : okI n) (he : (Int8.ofInt n).toInt32 = Int32.ofInt n) (kk : AW x w nL cl cells slots Q (pc + 2) lv (vI n :: st) h) : AW x w nL cl cells slots Q pc lv (st) h := by
  intro hh hl hs H ls locs hR hv hS
  obtain ⟨p, l, e, R, s, m, args, below, meth, c⟩ := x
  exact lv_bipush C.ex C.by hdg he (kk hh hl ⟨hn, hs⟩ H ls locs hR hv hS)
theorem r_sipush (C : Cx x w rm own cc nL ret hx) {n : Int} (hdg : decode cc pc = .ok (.sipush n, 3)) (hn : okI n) (he : (Int16.ofInt n).toInt32 = Int32.ofInt n) (kk : AW x w nL cl cells slots Q (pc + 3) lv (vI n :: st) h) : AW x w nL cl cells slots Q pc lv (st) h := by
  intro hh hl hs H ls locs hR hv hS
  obtain ⟨p, l, e, R, s, m, args, below, meth, c⟩ := x
  exact lv_sipush C.ex C.by hdg he (kk hh hl ⟨hn, hs⟩ H ls locs hR hv hS)
theorem r_lconst (C : Cx x w rm own cc nL ret hx) {k : Fin 2} (n : Int) (hdg : decode cc pc = .ok (.lconst k, 1)) (hn : okJ n) (he : Int64.ofNat (k : Nat) = Int64.ofInt n) (kk : AW x w nL cl cells slots Q (pc + 1) lv (vL n :: st) h) : AW x w nL cl cells slots Q pc lv (st) h := by
  intro hh hl hs H ls locs hR hv hS
  obtain ⟨p, l, e, R, s, m, args, below, meth, c⟩ := x
  exact lv_lconst C.ex C.by hdg he (kk hh hl ⟨hn, hs⟩ H ls locs hR hv hS)
theorem r_ldc (C : Cx x w rm own cc nL ret hx) {index : Nat} {n : Int} (hdg : decode cc pc = .ok (.ldc index, 2)) (hw : Jvm.Cond.constant own index (Int32.ofInt n) ∈ GW) (hn : okI n) (kk : AW x w nL cl cells slots Q (pc + 2) lv (vI n :: st) h) : AW x w nL cl cells slots Q pc lv (st) h := by
  intro hh hl hs H ls locs hR hv hS
  obtain ⟨p, l, e, R, s, m, args, below, meth, c⟩ := x
  exact lv_ldc C.ex C.by C.ow (C.ws _ hw) hdg (kk hh hl ⟨hn, hs⟩ H ls locs hR hv hS)
theorem r_ldc2 (C : Cx x w rm own cc nL ret hx) {index : Nat} {n : Int} (hdg : decode cc pc = .ok (.ldc2_w index, 3)) (hw : Jvm.Cond.constantLong own index (Int64.ofInt n) ∈ GW) (hn : okJ n) (kk : AW x w nL cl cells slots Q (pc + 3) lv (vL n :: st) h) : AW x w nL cl cells slots Q pc lv (st) h := by
  intro hh hl hs H ls locs hR hv hS
  obtain ⟨p, l, e, R, s, m, args, below, meth, c⟩ := x
  exact lv_ldc2 C.ex C.by C.ow (C.ws _ hw) hdg (kk hh hl ⟨hn, hs⟩ H ls locs hR hv hS)
theorem r_iload_n (C : Cx x w rm own cc nL ret hx) {k : Fin 4} {i0 : Nat} {n : Int} (hdg : decode cc pc = .ok (.iload_n k, 1)) (hi : (k : Nat) = i0) (hk : lv.lookup i0 = some (vI n)) (kk : AW x w nL cl cells slots Q (pc + 1) lv (vI n :: st) h) : AW x w nL cl cells slots Q pc lv (st) h := by
  intro hh hl hs H ls locs hR hv hS
  obtain ⟨p, l, e, R, s, m, args, below, meth, c⟩ := x
  exact lv_iload_n C.ex C.by hdg hi (lk_has hv hk) (kk hh hl ⟨lk_ok hl hk, hs⟩ H ls locs hR hv hS)
theorem r_iload (C : Cx x w rm own cc nL ret hx) {i0 : Nat} {n : Int} (hdg : decode cc pc = .ok (.iload i0, 2)) (hk : lv.lookup i0 = some (vI n)) (kk : AW x w nL cl cells slots Q (pc + 2) lv (vI n :: st) h) : AW x w nL cl cells slots Q pc lv (st) h := by
  intro hh hl hs H ls locs hR hv hS
  obtain ⟨p, l, e, R, s, m, args, below, meth, c⟩ := x
  exact lv_iload C.ex C.by hdg (lk_has hv hk) (kk hh hl ⟨lk_ok hl hk, hs⟩ H ls locs hR hv hS)
theorem r_lload_n (C : Cx x w rm own cc nL ret hx) {k : Fin 4} {i0 : Nat} {n : Int} (hdg : decode cc pc = .ok (.lload_n k, 1)) (hi : (k : Nat) = i0) (hk : lv.lookup i0 = some (vL n)) (kk : AW x w nL cl cells slots Q (pc + 1) lv (vL n :: st) h) : AW x w nL cl cells slots Q pc lv (st) h := by
  intro hh hl hs H ls locs hR hv hS
  obtain ⟨p, l, e, R, s, m, args, below, meth, c⟩ := x
  exact lv_lload_n C.ex C.by hdg hi (lk_has hv hk) (kk hh hl ⟨lk_ok hl hk, hs⟩ H ls locs hR hv hS)
theorem r_lload (C : Cx x w rm own cc nL ret hx) {i0 : Nat} {n : Int} (hdg : decode cc pc = .ok (.lload i0, 2)) (hk : lv.lookup i0 = some (vL n)) (kk : AW x w nL cl cells slots Q (pc + 2) lv (vL n :: st) h) : AW x w nL cl cells slots Q pc lv (st) h := by
  intro hh hl hs H ls locs hR hv hS
  obtain ⟨p, l, e, R, s, m, args, below, meth, c⟩ := x
  exact lv_lload C.ex C.by hdg (lk_has hv hk) (kk hh hl ⟨lk_ok hl hk, hs⟩ H ls locs hR hv hS)
theorem r_aload_n (C : Cx x w rm own cc nL ret hx) {k : Fin 4} {i0 : Nat} {t i : Nat} (hdg : decode cc pc = .ok (.aload_n k, 1)) (hi : (k : Nat) = i0) (hk : lv.lookup i0 = some (vO t i)) (kk : AW x w nL cl cells slots Q (pc + 1) lv (vO t i :: st) h) : AW x w nL cl cells slots Q pc lv (st) h := by
  intro hh hl hs H ls locs hR hv hS
  obtain ⟨p, l, e, R, s, m, args, below, meth, c⟩ := x
  exact lv_aload_n C.ex C.by hdg hi (lk_has hv hk) (kk hh hl ⟨lk_ok hl hk, hs⟩ H ls locs hR hv hS)
theorem r_aload (C : Cx x w rm own cc nL ret hx) {i0 : Nat} {t i : Nat} (hdg : decode cc pc = .ok (.aload i0, 2)) (hk : lv.lookup i0 = some (vO t i)) (kk : AW x w nL cl cells slots Q (pc + 2) lv (vO t i :: st) h) : AW x w nL cl cells slots Q pc lv (st) h := by
  intro hh hl hs H ls locs hR hv hS
  obtain ⟨p, l, e, R, s, m, args, below, meth, c⟩ := x
  exact lv_aload C.ex C.by hdg (lk_has hv hk) (kk hh hl ⟨lk_ok hl hk, hs⟩ H ls locs hR hv hS)
theorem r_aload_nX (C : Cx x w rm own cc nL ret hx) {k : Fin 4} {i0 a : Nat} (hdg : decode cc pc = .ok (.aload_n k, 1)) (hi : (k : Nat) = i0) (hk : lv.lookup i0 = some (vX a)) (kk : AW x w nL cl cells slots Q (pc + 1) lv (vX a :: st) h) : AW x w nL cl cells slots Q pc lv (st) h := by
  intro hh hl hs H ls locs hR hv hS
  obtain ⟨p, l, e, R, s, m, args, below, meth, c⟩ := x
  exact lv_aload_n C.ex C.by hdg hi (lk_has hv hk) (kk hh hl ⟨trivial, hs⟩ H ls locs hR hv hS)
theorem r_aloadX (C : Cx x w rm own cc nL ret hx) {i0 a : Nat} (hdg : decode cc pc = .ok (.aload i0, 2)) (hk : lv.lookup i0 = some (vX a)) (kk : AW x w nL cl cells slots Q (pc + 2) lv (vX a :: st) h) : AW x w nL cl cells slots Q pc lv (st) h := by
  intro hh hl hs H ls locs hR hv hS
  obtain ⟨p, l, e, R, s, m, args, below, meth, c⟩ := x
  exact lv_aload C.ex C.by hdg (lk_has hv hk) (kk hh hl ⟨trivial, hs⟩ H ls locs hR hv hS)
theorem r_istore_n (C : Cx x w rm own cc nL ret hx) {k : Fin 4} {i0 : Nat} {n : Int} (hdg : decode cc pc = .ok (.istore_n k, 1)) (hi : (k : Nat) = i0) (hn : i0 < nL) (kk : AW x w nL cl cells slots Q (pc + 1) (lst lv i0 (vI n)) (st) h) : AW x w nL cl cells slots Q pc lv (vI n :: st) h := by
  intro hh hl hs H ls locs hR hv hS
  obtain ⟨p, l, e, R, s, m, args, below, meth, c⟩ := x
  exact lv_istore_n C.ex C.by hdg hi hv hn (lst_map w lv i0 (vI n)) fun ls1 h1 => kk hh (lst_ok hl hs.1) hs.2 H ls1 locs hR h1 hS
theorem r_istore (C : Cx x w rm own cc nL ret hx) {i0 : Nat} {n : Int} (hdg : decode cc pc = .ok (.istore i0, 2)) (hn : i0 < nL) (kk : AW x w nL cl cells slots Q (pc + 2) (lst lv i0 (vI n)) (st) h) : AW x w nL cl cells slots Q pc lv (vI n :: st) h := by
  intro hh hl hs H ls locs hR hv hS
  obtain ⟨p, l, e, R, s, m, args, below, meth, c⟩ := x
  exact lv_istore C.ex C.by hdg hv hn (lst_map w lv i0 (vI n)) fun ls1 h1 => kk hh (lst_ok hl hs.1) hs.2 H ls1 locs hR h1 hS
theorem r_astore_n (C : Cx x w rm own cc nL ret hx) {k : Fin 4} {i0 : Nat} {t i : Nat} (hdg : decode cc pc = .ok (.astore_n k, 1)) (hi : (k : Nat) = i0) (hn : i0 < nL) (kk : AW x w nL cl cells slots Q (pc + 1) (lst lv i0 (vO t i)) (st) h) : AW x w nL cl cells slots Q pc lv (vO t i :: st) h := by
  intro hh hl hs H ls locs hR hv hS
  obtain ⟨p, l, e, R, s, m, args, below, meth, c⟩ := x
  exact lv_astore_n C.ex C.by hdg hi hv hn (lst_map w lv i0 (vO t i)) fun ls1 h1 => kk hh (lst_ok hl hs.1) hs.2 H ls1 locs hR h1 hS
theorem r_astore (C : Cx x w rm own cc nL ret hx) {i0 : Nat} {t i : Nat} (hdg : decode cc pc = .ok (.astore i0, 2)) (hn : i0 < nL) (kk : AW x w nL cl cells slots Q (pc + 2) (lst lv i0 (vO t i)) (st) h) : AW x w nL cl cells slots Q pc lv (vO t i :: st) h := by
  intro hh hl hs H ls locs hR hv hS
  obtain ⟨p, l, e, R, s, m, args, below, meth, c⟩ := x
  exact lv_astore C.ex C.by hdg hv hn (lst_map w lv i0 (vO t i)) fun ls1 h1 => kk hh (lst_ok hl hs.1) hs.2 H ls1 locs hR h1 hS
theorem r_lstore_n (C : Cx x w rm own cc nL ret hx) {k : Fin 4} {i0 : Nat} {n : Int} (hdg : decode cc pc = .ok (.lstore_n k, 1)) (hi : (k : Nat) = i0) (hn : i0 + 1 < nL) (kk : AW x w nL cl cells slots Q (pc + 1) (lstL lv i0 (vL n)) (st) h) : AW x w nL cl cells slots Q pc lv (vL n :: st) h := by
  intro hh hl hs H ls locs hR hv hS
  obtain ⟨p, l, e, R, s, m, args, below, meth, c⟩ := x
  exact lv_lstore_n C.ex C.by hdg hi hv hn (lstL_map w lv i0 (vL n)) fun ls1 h1 => kk hh (lstL_ok hl hs.1) hs.2 H ls1 locs hR h1 hS
theorem r_lstore (C : Cx x w rm own cc nL ret hx) {i0 : Nat} {n : Int} (hdg : decode cc pc = .ok (.lstore i0, 2)) (hn : i0 + 1 < nL) (kk : AW x w nL cl cells slots Q (pc + 2) (lstL lv i0 (vL n)) (st) h) : AW x w nL cl cells slots Q pc lv (vL n :: st) h := by
  intro hh hl hs H ls locs hR hv hS
  obtain ⟨p, l, e, R, s, m, args, below, meth, c⟩ := x
  exact lv_lstore C.ex C.by hdg hv hn (lstL_map w lv i0 (vL n)) fun ls1 h1 => kk hh (lstL_ok hl hs.1) hs.2 H ls1 locs hR h1 hS
theorem r_astore_nX (C : Cx x w rm own cc nL ret hx) {k : Fin 4} {i0 a : Nat} (hdg : decode cc pc = .ok (.astore_n k, 1)) (hi : (k : Nat) = i0) (hn : i0 < nL) (kk : AW x w nL cl cells slots Q (pc + 1) (lst lv i0 (vX a)) (st) h) : AW x w nL cl cells slots Q pc lv (vX a :: st) h := by
  intro hh hl hs H ls locs hR hv hS
  obtain ⟨p, l, e, R, s, m, args, below, meth, c⟩ := x
  exact lv_astore_n C.ex C.by hdg hi hv hn (lst_map w lv i0 (vX a)) fun ls1 h1 => kk hh (lst_ok hl hs.1) hs.2 H ls1 locs hR h1 hS
theorem r_astoreX (C : Cx x w rm own cc nL ret hx) {i0 a : Nat} (hdg : decode cc pc = .ok (.astore i0, 2)) (hn : i0 < nL) (kk : AW x w nL cl cells slots Q (pc + 2) (lst lv i0 (vX a)) (st) h) : AW x w nL cl cells slots Q pc lv (vX a :: st) h := by
  intro hh hl hs H ls locs hR hv hS
  obtain ⟨p, l, e, R, s, m, args, below, meth, c⟩ := x
  exact lv_astore C.ex C.by hdg hv hn (lst_map w lv i0 (vX a)) fun ls1 h1 => kk hh (lst_ok hl hs.1) hs.2 H ls1 locs hR h1 hS
theorem r_iinc (C : Cx x w rm own cc nL ret hx) {i0 : Nat} {d n : Int} (hdg : decode cc pc = .ok (.iinc i0 d, 3)) (hk : lv.lookup i0 = some (vI n)) (hn : i0 < nL) (hr : okI (n + d)) (kk : AW x w nL cl cells slots Q (pc + 3) (lst lv i0 (vI (n + d))) st h) : AW x w nL cl cells slots Q pc lv st h := by
  intro hh hl hs H ls locs hR hv hS
  obtain ⟨p, l, e, R, s, m, args, below, meth, c⟩ := x
  obtain ⟨k0, hk0⟩ := List.getElem?_of_mem (List.mem_map.mpr ⟨(i0, vI n), lk_mem hk, rfl⟩ : cP w (i0, vI n) ∈ lv.map (cP w))
  exact lv_iinc C.ex C.by hdg hv hk0 (Int32.ofInt_add n d).symm hn (lst_map w lv i0 (vI (n + d))) fun ls1 h1 => kk hh (lst_ok hl hr) hs H ls1 locs hR h1 hS
theorem r_iadd (C : Cx x w rm own cc nL ret hx) {a b : Int} (hdg : decode cc pc = .ok (.iadd, 1)) (hr : okI (a + b)) (kk : AW x w nL cl cells slots Q (pc + 1) lv (vI (a + b) :: st) h) : AW x w nL cl cells slots Q pc lv (vI b :: vI a :: st) h := by
  intro hh hl hs H ls locs hR hv hS
  obtain ⟨p, l, e, R, s, m, args, below, meth, c⟩ := x
  refine lv_iadd C.ex C.by hdg ?_
  rw [← Int32.ofInt_add]
  exact kk hh hl ⟨hr, hs.2.2⟩ H ls locs hR hv hS
theorem r_isub (C : Cx x w rm own cc nL ret hx) {a b : Int} (hdg : decode cc pc = .ok (.isub, 1)) (hr : okI (a - b)) (kk : AW x w nL cl cells slots Q (pc + 1) lv (vI (a - b) :: st) h) : AW x w nL cl cells slots Q pc lv (vI b :: vI a :: st) h := by
  intro hh hl hs H ls locs hR hv hS
  obtain ⟨p, l, e, R, s, m, args, below, meth, c⟩ := x
  refine lv_isub C.ex C.by hdg ?_
  rw [← Int32.ofInt_sub]
  exact kk hh hl ⟨hr, hs.2.2⟩ H ls locs hR hv hS
theorem r_imul (C : Cx x w rm own cc nL ret hx) {a b : Int} (hdg : decode cc pc = .ok (.imul, 1)) (hr : okI (a * b)) (kk : AW x w nL cl cells slots Q (pc + 1) lv (vI (a * b) :: st) h) : AW x w nL cl cells slots Q pc lv (vI b :: vI a :: st) h := by
  intro hh hl hs H ls locs hR hv hS
  obtain ⟨p, l, e, R, s, m, args, below, meth, c⟩ := x
  refine lv_imul C.ex C.by hdg ?_
  rw [← Int32.ofInt_mul]
  exact kk hh hl ⟨hr, hs.2.2⟩ H ls locs hR hv hS
theorem r_ladd (C : Cx x w rm own cc nL ret hx) {a b : Int} (hdg : decode cc pc = .ok (.ladd, 1)) (hr : okJ (a + b)) (kk : AW x w nL cl cells slots Q (pc + 1) lv (vL (a + b) :: st) h) : AW x w nL cl cells slots Q pc lv (vL b :: vL a :: st) h := by
  intro hh hl hs H ls locs hR hv hS
  obtain ⟨p, l, e, R, s, m, args, below, meth, c⟩ := x
  refine lv_ladd C.ex C.by hdg ?_
  rw [← Int64.ofInt_add]
  exact kk hh hl ⟨hr, hs.2.2⟩ H ls locs hR hv hS
theorem r_lsub (C : Cx x w rm own cc nL ret hx) {a b : Int} (hdg : decode cc pc = .ok (.lsub, 1)) (hr : okJ (a - b)) (kk : AW x w nL cl cells slots Q (pc + 1) lv (vL (a - b) :: st) h) : AW x w nL cl cells slots Q pc lv (vL b :: vL a :: st) h := by
  intro hh hl hs H ls locs hR hv hS
  obtain ⟨p, l, e, R, s, m, args, below, meth, c⟩ := x
  refine lv_lsub C.ex C.by hdg ?_
  rw [← Int64.ofInt_sub]
  exact kk hh hl ⟨hr, hs.2.2⟩ H ls locs hR hv hS
theorem r_lmul (C : Cx x w rm own cc nL ret hx) {a b : Int} (hdg : decode cc pc = .ok (.lmul, 1)) (hr : okJ (a * b)) (kk : AW x w nL cl cells slots Q (pc + 1) lv (vL (a * b) :: st) h) : AW x w nL cl cells slots Q pc lv (vL b :: vL a :: st) h := by
  intro hh hl hs H ls locs hR hv hS
  obtain ⟨p, l, e, R, s, m, args, below, meth, c⟩ := x
  refine lv_lmul C.ex C.by hdg ?_
  rw [← Int64.ofInt_mul]
  exact kk hh hl ⟨hr, hs.2.2⟩ H ls locs hR hv hS
theorem r_idiv (C : Cx x w rm own cc nL ret hx) {a b : Int} (hdg : decode cc pc = .ok (.idiv, 1)) (hb0 : b ≠ 0) (hq : okI (a.tdiv b))  (kk : AW x w nL cl cells slots Q (pc + 1) lv (vI (a.tdiv b) :: st) h) : AW x w nL cl cells slots Q pc lv (vI b :: vI a :: st) h := by
  intro hh hl hs H ls locs hR hv hS
  obtain ⟨p, l, e, R, s, m, args, below, meth, c⟩ := x
  refine lv_idiv C.ex C.by hdg (fun q => hb0 ?_) ?_
  · have q1 : Int32.ofInt b = Int32.ofInt 0 := q
    rwa [i32_eq hs.1 ⟨by decide, by decide⟩] at q1
  · rw [i32_div hs.2.1 hs.1 hq]
    exact kk hh hl ⟨hq, hs.2.2⟩ H ls locs hR hv hS
theorem r_irem (C : Cx x w rm own cc nL ret hx) {a b : Int} (hdg : decode cc pc = .ok (.irem, 1)) (hb0 : b ≠ 0) (hq : okI (a.tdiv b)) (hr : okI (a.tmod b)) (kk : AW x w nL cl cells slots Q (pc + 1) lv (vI (a.tmod b) :: st) h) : AW x w nL cl cells slots Q pc lv (vI b :: vI a :: st) h := by
  intro hh hl hs H ls locs hR hv hS
  obtain ⟨p, l, e, R, s, m, args, below, meth, c⟩ := x
  refine lv_irem C.ex C.by hdg (fun q => hb0 ?_) ?_
  · have q1 : Int32.ofInt b = Int32.ofInt 0 := q
    rwa [i32_eq hs.1 ⟨by decide, by decide⟩] at q1
  · rw [i32_rem hs.2.1 hs.1 hq]
    exact kk hh hl ⟨hr, hs.2.2⟩ H ls locs hR hv hS
theorem r_ldiv (C : Cx x w rm own cc nL ret hx) {a b : Int} (hdg : decode cc pc = .ok (.ldiv, 1)) (hb0 : b ≠ 0) (hq : okJ (a.tdiv b))  (kk : AW x w nL cl cells slots Q (pc + 1) lv (vL (a.tdiv b) :: st) h) : AW x w nL cl cells slots Q pc lv (vL b :: vL a :: st) h := by
  intro hh hl hs H ls locs hR hv hS
  obtain ⟨p, l, e, R, s, m, args, below, meth, c⟩ := x
  refine lv_ldiv C.ex C.by hdg (fun q => hb0 ?_) ?_
  · have q1 : Int64.ofInt b = Int64.ofInt 0 := q
    rwa [i64_eq hs.1 ⟨by decide, by decide⟩] at q1
  · rw [i64_div hs.2.1 hs.1 hq]
    exact kk hh hl ⟨hq, hs.2.2⟩ H ls locs hR hv hS
theorem r_lrem (C : Cx x w rm own cc nL ret hx) {a b : Int} (hdg : decode cc pc = .ok (.lrem, 1)) (hb0 : b ≠ 0) (hq : okJ (a.tdiv b)) (hr : okJ (a.tmod b)) (kk : AW x w nL cl cells slots Q (pc + 1) lv (vL (a.tmod b) :: st) h) : AW x w nL cl cells slots Q pc lv (vL b :: vL a :: st) h := by
  intro hh hl hs H ls locs hR hv hS
  obtain ⟨p, l, e, R, s, m, args, below, meth, c⟩ := x
  refine lv_lrem C.ex C.by hdg (fun q => hb0 ?_) ?_
  · have q1 : Int64.ofInt b = Int64.ofInt 0 := q
    rwa [i64_eq hs.1 ⟨by decide, by decide⟩] at q1
  · rw [i64_rem hs.2.1 hs.1 hq]
    exact kk hh hl ⟨hr, hs.2.2⟩ H ls locs hR hv hS
theorem r_i2l (C : Cx x w rm own cc nL ret hx) {a : Int} (hdg : decode cc pc = .ok (.i2l, 1)) (kk : AW x w nL cl cells slots Q (pc + 1) lv (vL a :: st) h) : AW x w nL cl cells slots Q pc lv (vI a :: st) h := by
  intro hh hl hs H ls locs hR hv hS
  obtain ⟨p, l, e, R, s, m, args, below, meth, c⟩ := x
  exact lv_i2l C.ex C.by hdg (i32_i2l hs.1) (kk hh hl ⟨⟨by have := hs.1.1; omega, by have := hs.1.2; omega⟩, hs.2⟩ H ls locs hR hv hS)
theorem r_l2i (C : Cx x w rm own cc nL ret hx) {a : Int} (hdg : decode cc pc = .ok (.l2i, 1)) (hr : okI a) (kk : AW x w nL cl cells slots Q (pc + 1) lv (vI a :: st) h) : AW x w nL cl cells slots Q pc lv (vL a :: st) h := by
  intro hh hl hs H ls locs hR hv hS
  obtain ⟨p, l, e, R, s, m, args, below, meth, c⟩ := x
  exact lv_l2i C.ex C.by hdg (i64_l2i hr) (kk hh hl ⟨hr, hs.2⟩ H ls locs hR hv hS)
theorem r_dup (C : Cx x w rm own cc nL ret hx) {v : AV} (hdg : decode cc pc = .ok (.dup, 1)) (hc : isL v = false) (kk : AW x w nL cl cells slots Q (pc + 1) lv (v :: v :: st) h) : AW x w nL cl cells slots Q pc lv (v :: st) h := by
  intro hh hl hs H ls locs hR hv hS
  obtain ⟨p, l, e, R, s, m, args, below, meth, c⟩ := x
  exact lv_dup C.ex C.by hdg (cV_cat1 w v hc) (kk hh hl ⟨hs.1, hs⟩ H ls locs hR hv hS)
theorem r_pop (C : Cx x w rm own cc nL ret hx) {v : AV} (hdg : decode cc pc = .ok (.pop, 1)) (hc : isL v = false) (kk : AW x w nL cl cells slots Q (pc + 1) lv (st) h) : AW x w nL cl cells slots Q pc lv (v :: st) h := by
  intro hh hl hs H ls locs hR hv hS
  obtain ⟨p, l, e, R, s, m, args, below, meth, c⟩ := x
  exact lv_pop C.ex C.by hdg (cV_cat1 w v hc) (kk hh hl hs.2 H ls locs hR hv hS)
theorem r_dup2 (C : Cx x w rm own cc nL ret hx) {v u : AV} (hdg : decode cc pc = .ok (.dup2, 1)) (hc : isL v = false) (hd : isL u = false) (kk : AW x w nL cl cells slots Q (pc + 1) lv (v :: u :: v :: u :: st) h) : AW x w nL cl cells slots Q pc lv (v :: u :: st) h := by
  intro hh hl hs H ls locs hR hv hS
  obtain ⟨p, l, e, R, s, m, args, below, meth, c⟩ := x
  exact lv_dup2_11 C.ex C.by hdg (cV_cat1 w v hc) (cV_cat1 w u hd) (kk hh hl ⟨hs.1, hs.2.1, hs⟩ H ls locs hR hv hS)
theorem r_dup2L (C : Cx x w rm own cc nL ret hx) {n : Int} (hdg : decode cc pc = .ok (.dup2, 1)) (kk : AW x w nL cl cells slots Q (pc + 1) lv (vL n :: vL n :: st) h) : AW x w nL cl cells slots Q pc lv (vL n :: st) h := by
  intro hh hl hs H ls locs hR hv hS
  obtain ⟨p, l, e, R, s, m, args, below, meth, c⟩ := x
  exact lv_dup2_2 C.ex C.by hdg rfl (kk hh hl ⟨hs.1, hs⟩ H ls locs hR hv hS)
theorem r_dup_x1 (C : Cx x w rm own cc nL ret hx) {v u : AV} (hdg : decode cc pc = .ok (.dup_x1, 1)) (hc : isL v = false) (hd : isL u = false) (kk : AW x w nL cl cells slots Q (pc + 1) lv (v :: u :: v :: st) h) : AW x w nL cl cells slots Q pc lv (v :: u :: st) h := by
  intro hh hl hs H ls locs hR hv hS
  obtain ⟨p, l, e, R, s, m, args, below, meth, c⟩ := x
  exact lv_dup_x1 C.ex C.by hdg (cV_cat1 w v hc) (cV_cat1 w u hd) (kk hh hl ⟨hs.1, hs.2.1, hs.1, hs.2.2⟩ H ls locs hR hv hS)
theorem r_dup_x2 (C : Cx x w rm own cc nL ret hx) {v u t : AV} (hdg : decode cc pc = .ok (.dup_x2, 1)) (hc : isL v = false) (hd : isL u = false) (he : isL t = false) (kk : AW x w nL cl cells slots Q (pc + 1) lv (v :: u :: t :: v :: st) h) : AW x w nL cl cells slots Q pc lv (v :: u :: t :: st) h := by
  intro hh hl hs H ls locs hR hv hS
  obtain ⟨p, l, e, R, s, m, args, below, meth, c⟩ := x
  exact lv_dup_x2 C.ex C.by hdg (cV_cat1 w v hc) (cV_cat1 w u hd) (cV_cat1 w t he) (kk hh hl ⟨hs.1, hs.2.1, hs.2.2.1, hs.1, hs.2.2.2⟩ H ls locs hR hv hS)
theorem r_icmp_eq (C : Cx x w rm own cc nL ret hx) {a b off : Int} {tgt : Nat} (hdg : decode cc pc = .ok (.if_icmp .eq off, 3)) (ht : (pc : Int) + off = (tgt : Int)) (kt : a = b → AW x w nL cl cells slots Q tgt lv st h) (kf : ¬ a = b → AW x w nL cl cells slots Q (pc + 3) lv st h) : AW x w nL cl cells slots Q pc lv (vI b :: vI a :: st) h := by
  intro hh hl hs H ls locs hR hv hS
  obtain ⟨p, l, e, R, s, m, args, below, meth, c⟩ := x
  refine lv_icmp_eq C.ex C.by hdg ht (fun q => kt ?_ hh hl hs.2.2 H ls locs hR hv hS) (fun q => kf ?_ hh hl hs.2.2 H ls locs hR hv hS)
  · rwa [i32_eq hs.2.1 hs.1] at q
  · rwa [i32_eq hs.2.1 hs.1] at q
theorem r_if_eq (C : Cx x w rm own cc nL ret hx) {a off : Int} {tgt : Nat} (hdg : decode cc pc = .ok (.ifCond .eq off, 3)) (ht : (pc : Int) + off = (tgt : Int)) (kt : a = 0 → AW x w nL cl cells slots Q tgt lv st h) (kf : ¬ a = 0 → AW x w nL cl cells slots Q (pc + 3) lv st h) : AW x w nL cl cells slots Q pc lv (vI a :: st) h := by
  intro hh hl hs H ls locs hR hv hS
  obtain ⟨p, l, e, R, s, m, args, below, meth, c⟩ := x
  have z0 : okI 0 := ⟨by decide, by decide⟩
  have z1 : (0 : Int32) = Int32.ofInt 0 := rfl
  refine lv_if_eq C.ex C.by hdg ht (fun q => kt ?_ hh hl hs.2 H ls locs hR hv hS) (fun q => kf ?_ hh hl hs.2 H ls locs hR hv hS)
  · rw [z1] at q
    rwa [i32_eq hs.1 z0] at q
  · rw [z1] at q
    rwa [i32_eq hs.1 z0] at q
theorem r_icmp_ne (C : Cx x w rm own cc nL ret hx) {a b off : Int} {tgt : Nat} (hdg : decode cc pc = .ok (.if_icmp .ne off, 3)) (ht : (pc : Int) + off = (tgt : Int)) (kt : ¬ a = b → AW x w nL cl cells slots Q tgt lv st h) (kf : a = b → AW x w nL cl cells slots Q (pc + 3) lv st h) : AW x w nL cl cells slots Q pc lv (vI b :: vI a :: st) h := by
  intro hh hl hs H ls locs hR hv hS
  obtain ⟨p, l, e, R, s, m, args, below, meth, c⟩ := x
  refine lv_icmp_ne C.ex C.by hdg ht (fun q => kt ?_ hh hl hs.2.2 H ls locs hR hv hS) (fun q => kf ?_ hh hl hs.2.2 H ls locs hR hv hS)
  · rwa [i32_eq hs.2.1 hs.1] at q
  · rwa [i32_eq hs.2.1 hs.1] at q
theorem r_if_ne (C : Cx x w rm own cc nL ret hx) {a off : Int} {tgt : Nat} (hdg : decode cc pc = .ok (.ifCond .ne off, 3)) (ht : (pc : Int) + off = (tgt : Int)) (kt : ¬ a = 0 → AW x w nL cl cells slots Q tgt lv st h) (kf : a = 0 → AW x w nL cl cells slots Q (pc + 3) lv st h) : AW x w nL cl cells slots Q pc lv (vI a :: st) h := by
  intro hh hl hs H ls locs hR hv hS
  obtain ⟨p, l, e, R, s, m, args, below, meth, c⟩ := x
  have z0 : okI 0 := ⟨by decide, by decide⟩
  have z1 : (0 : Int32) = Int32.ofInt 0 := rfl
  refine lv_if_ne C.ex C.by hdg ht (fun q => kt ?_ hh hl hs.2 H ls locs hR hv hS) (fun q => kf ?_ hh hl hs.2 H ls locs hR hv hS)
  · rw [z1] at q
    rwa [i32_eq hs.1 z0] at q
  · rw [z1] at q
    rwa [i32_eq hs.1 z0] at q
theorem r_icmp_lt (C : Cx x w rm own cc nL ret hx) {a b off : Int} {tgt : Nat} (hdg : decode cc pc = .ok (.if_icmp .lt off, 3)) (ht : (pc : Int) + off = (tgt : Int)) (kt : a < b → AW x w nL cl cells slots Q tgt lv st h) (kf : ¬ a < b → AW x w nL cl cells slots Q (pc + 3) lv st h) : AW x w nL cl cells slots Q pc lv (vI b :: vI a :: st) h := by
  intro hh hl hs H ls locs hR hv hS
  obtain ⟨p, l, e, R, s, m, args, below, meth, c⟩ := x
  refine lv_icmp_lt C.ex C.by hdg ht (fun q => kt ?_ hh hl hs.2.2 H ls locs hR hv hS) (fun q => kf ?_ hh hl hs.2.2 H ls locs hR hv hS)
  · rwa [i32_lt hs.2.1 hs.1] at q
  · rwa [i32_lt hs.2.1 hs.1] at q
theorem r_if_lt (C : Cx x w rm own cc nL ret hx) {a off : Int} {tgt : Nat} (hdg : decode cc pc = .ok (.ifCond .lt off, 3)) (ht : (pc : Int) + off = (tgt : Int)) (kt : a < 0 → AW x w nL cl cells slots Q tgt lv st h) (kf : ¬ a < 0 → AW x w nL cl cells slots Q (pc + 3) lv st h) : AW x w nL cl cells slots Q pc lv (vI a :: st) h := by
  intro hh hl hs H ls locs hR hv hS
  obtain ⟨p, l, e, R, s, m, args, below, meth, c⟩ := x
  have z0 : okI 0 := ⟨by decide, by decide⟩
  have z1 : (0 : Int32) = Int32.ofInt 0 := rfl
  refine lv_if_lt C.ex C.by hdg ht (fun q => kt ?_ hh hl hs.2 H ls locs hR hv hS) (fun q => kf ?_ hh hl hs.2 H ls locs hR hv hS)
  · rw [z1] at q
    rwa [i32_lt hs.1 z0] at q
  · rw [z1] at q
    rwa [i32_lt hs.1 z0] at q
theorem r_icmp_ge (C : Cx x w rm own cc nL ret hx) {a b off : Int} {tgt : Nat} (hdg : decode cc pc = .ok (.if_icmp .ge off, 3)) (ht : (pc : Int) + off = (tgt : Int)) (kt : b ≤ a → AW x w nL cl cells slots Q tgt lv st h) (kf : ¬ b ≤ a → AW x w nL cl cells slots Q (pc + 3) lv st h) : AW x w nL cl cells slots Q pc lv (vI b :: vI a :: st) h := by
  intro hh hl hs H ls locs hR hv hS
  obtain ⟨p, l, e, R, s, m, args, below, meth, c⟩ := x
  refine lv_icmp_ge C.ex C.by hdg ht (fun q => kt ?_ hh hl hs.2.2 H ls locs hR hv hS) (fun q => kf ?_ hh hl hs.2.2 H ls locs hR hv hS)
  · rwa [i32_le hs.1 hs.2.1] at q
  · rwa [i32_le hs.1 hs.2.1] at q
theorem r_if_ge (C : Cx x w rm own cc nL ret hx) {a off : Int} {tgt : Nat} (hdg : decode cc pc = .ok (.ifCond .ge off, 3)) (ht : (pc : Int) + off = (tgt : Int)) (kt : 0 ≤ a → AW x w nL cl cells slots Q tgt lv st h) (kf : ¬ 0 ≤ a → AW x w nL cl cells slots Q (pc + 3) lv st h) : AW x w nL cl cells slots Q pc lv (vI a :: st) h := by
  intro hh hl hs H ls locs hR hv hS
  obtain ⟨p, l, e, R, s, m, args, below, meth, c⟩ := x
  have z0 : okI 0 := ⟨by decide, by decide⟩
  have z1 : (0 : Int32) = Int32.ofInt 0 := rfl
  refine lv_if_ge C.ex C.by hdg ht (fun q => kt ?_ hh hl hs.2 H ls locs hR hv hS) (fun q => kf ?_ hh hl hs.2 H ls locs hR hv hS)
  · rw [z1] at q
    rwa [i32_le z0 hs.1] at q
  · rw [z1] at q
    rwa [i32_le z0 hs.1] at q
theorem r_icmp_gt (C : Cx x w rm own cc nL ret hx) {a b off : Int} {tgt : Nat} (hdg : decode cc pc = .ok (.if_icmp .gt off, 3)) (ht : (pc : Int) + off = (tgt : Int)) (kt : b < a → AW x w nL cl cells slots Q tgt lv st h) (kf : ¬ b < a → AW x w nL cl cells slots Q (pc + 3) lv st h) : AW x w nL cl cells slots Q pc lv (vI b :: vI a :: st) h := by
  intro hh hl hs H ls locs hR hv hS
  obtain ⟨p, l, e, R, s, m, args, below, meth, c⟩ := x
  refine lv_icmp_gt C.ex C.by hdg ht (fun q => kt ?_ hh hl hs.2.2 H ls locs hR hv hS) (fun q => kf ?_ hh hl hs.2.2 H ls locs hR hv hS)
  · rwa [i32_lt hs.1 hs.2.1] at q
  · rwa [i32_lt hs.1 hs.2.1] at q
theorem r_if_gt (C : Cx x w rm own cc nL ret hx) {a off : Int} {tgt : Nat} (hdg : decode cc pc = .ok (.ifCond .gt off, 3)) (ht : (pc : Int) + off = (tgt : Int)) (kt : 0 < a → AW x w nL cl cells slots Q tgt lv st h) (kf : ¬ 0 < a → AW x w nL cl cells slots Q (pc + 3) lv st h) : AW x w nL cl cells slots Q pc lv (vI a :: st) h := by
  intro hh hl hs H ls locs hR hv hS
  obtain ⟨p, l, e, R, s, m, args, below, meth, c⟩ := x
  have z0 : okI 0 := ⟨by decide, by decide⟩
  have z1 : (0 : Int32) = Int32.ofInt 0 := rfl
  refine lv_if_gt C.ex C.by hdg ht (fun q => kt ?_ hh hl hs.2 H ls locs hR hv hS) (fun q => kf ?_ hh hl hs.2 H ls locs hR hv hS)
  · rw [z1] at q
    rwa [i32_lt z0 hs.1] at q
  · rw [z1] at q
    rwa [i32_lt z0 hs.1] at q
theorem r_icmp_le (C : Cx x w rm own cc nL ret hx) {a b off : Int} {tgt : Nat} (hdg : decode cc pc = .ok (.if_icmp .le off, 3)) (ht : (pc : Int) + off = (tgt : Int)) (kt : a ≤ b → AW x w nL cl cells slots Q tgt lv st h) (kf : ¬ a ≤ b → AW x w nL cl cells slots Q (pc + 3) lv st h) : AW x w nL cl cells slots Q pc lv (vI b :: vI a :: st) h := by
  intro hh hl hs H ls locs hR hv hS
  obtain ⟨p, l, e, R, s, m, args, below, meth, c⟩ := x
  refine lv_icmp_le C.ex C.by hdg ht (fun q => kt ?_ hh hl hs.2.2 H ls locs hR hv hS) (fun q => kf ?_ hh hl hs.2.2 H ls locs hR hv hS)
  · rwa [i32_le hs.2.1 hs.1] at q
  · rwa [i32_le hs.2.1 hs.1] at q
theorem r_if_le (C : Cx x w rm own cc nL ret hx) {a off : Int} {tgt : Nat} (hdg : decode cc pc = .ok (.ifCond .le off, 3)) (ht : (pc : Int) + off = (tgt : Int)) (kt : a ≤ 0 → AW x w nL cl cells slots Q tgt lv st h) (kf : ¬ a ≤ 0 → AW x w nL cl cells slots Q (pc + 3) lv st h) : AW x w nL cl cells slots Q pc lv (vI a :: st) h := by
  intro hh hl hs H ls locs hR hv hS
  obtain ⟨p, l, e, R, s, m, args, below, meth, c⟩ := x
  have z0 : okI 0 := ⟨by decide, by decide⟩
  have z1 : (0 : Int32) = Int32.ofInt 0 := rfl
  refine lv_if_le C.ex C.by hdg ht (fun q => kt ?_ hh hl hs.2 H ls locs hR hv hS) (fun q => kf ?_ hh hl hs.2 H ls locs hR hv hS)
  · rw [z1] at q
    rwa [i32_le hs.1 z0] at q
  · rw [z1] at q
    rwa [i32_le hs.1 z0] at q
def cmpJ (a b : Int) : Int := if b < a then 1 else if a = b then 0 else -1
theorem cmpJ_s (a b : Int) : (b < a ∧ cmpJ a b = 1) ∨ (a = b ∧ cmpJ a b = 0) ∨ (a < b ∧ cmpJ a b = -1) := by
  unfold cmpJ
  split
  · exact Or.inl ⟨by assumption, rfl⟩
  · split
    · exact Or.inr (Or.inl ⟨by assumption, rfl⟩)
    · exact Or.inr (Or.inr ⟨by omega, rfl⟩)
theorem cmpJ_ok (a b : Int) : okI (cmpJ a b) := by
  have := cmpJ_s a b
  exact ⟨by omega, by omega⟩
theorem lg_cmp_i {a b : Int} (ha : okJ a) (hb : okJ b) : lg_cmp (Int64.ofInt a) (Int64.ofInt b) = Int32.ofInt (cmpJ a b) := by
  unfold lg_cmp cmpJ
  have h1 : (Int64.ofInt a > Int64.ofInt b) = (b < a) := i64_lt hb ha
  have h2 : (Int64.ofInt a = Int64.ofInt b) = (a = b) := i64_eq ha hb
  simp only [h1, h2]
  split
  · rfl
  · split <;> rfl
theorem r_lcmp_eq (C : Cx x w rm own cc nL ret hx) {a b off : Int} {tgt : Nat} (hd1 : decode cc pc = .ok (.lcmp, 1)) (hdg : decode cc (pc + 1) = .ok (.ifCond .eq off, 3)) (ht : ((pc + 1 : Nat) : Int) + off = (tgt : Int)) (kt : a = b → AW x w nL cl cells slots Q tgt lv st h) (kf : ¬ a = b → AW x w nL cl cells slots Q (pc + 1 + 3) lv st h) : AW x w nL cl cells slots Q pc lv (vL b :: vL a :: st) h := by
  intro hh hl hs H ls locs hR hv hS
  refine W.lcmp C.ex C.by hd1 ?_
  rw [lg_cmp_i hs.2.1 hs.1]
  have hc := cmpJ_s a b
  refine r_if_eq (a := cmpJ a b) C hdg ht (fun q => kt ?_) (fun q => kf ?_) hh hl ⟨cmpJ_ok a b, hs.2.2⟩ H ls locs hR hv hS <;> omega
theorem r_lcmp_ne (C : Cx x w rm own cc nL ret hx) {a b off : Int} {tgt : Nat} (hd1 : decode cc pc = .ok (.lcmp, 1)) (hdg : decode cc (pc + 1) = .ok (.ifCond .ne off, 3)) (ht : ((pc + 1 : Nat) : Int) + off = (tgt : Int)) (kt : ¬ a = b → AW x w nL cl cells slots Q tgt lv st h) (kf : a = b → AW x w nL cl cells slots Q (pc + 1 + 3) lv st h) : AW x w nL cl cells slots Q pc lv (vL b :: vL a :: st) h := by
  intro hh hl hs H ls locs hR hv hS
  refine W.lcmp C.ex C.by hd1 ?_
  rw [lg_cmp_i hs.2.1 hs.1]
  have hc := cmpJ_s a b
  refine r_if_ne (a := cmpJ a b) C hdg ht (fun q => kt ?_) (fun q => kf ?_) hh hl ⟨cmpJ_ok a b, hs.2.2⟩ H ls locs hR hv hS <;> omega
theorem r_lcmp_lt (C : Cx x w rm own cc nL ret hx) {a b off : Int} {tgt : Nat} (hd1 : decode cc pc = .ok (.lcmp, 1)) (hdg : decode cc (pc + 1) = .ok (.ifCond .lt off, 3)) (ht : ((pc + 1 : Nat) : Int) + off = (tgt : Int)) (kt : a < b → AW x w nL cl cells slots Q tgt lv st h) (kf : ¬ a < b → AW x w nL cl cells slots Q (pc + 1 + 3) lv st h) : AW x w nL cl cells slots Q pc lv (vL b :: vL a :: st) h := by
  intro hh hl hs H ls locs hR hv hS
  refine W.lcmp C.ex C.by hd1 ?_
  rw [lg_cmp_i hs.2.1 hs.1]
  have hc := cmpJ_s a b
  refine r_if_lt (a := cmpJ a b) C hdg ht (fun q => kt ?_) (fun q => kf ?_) hh hl ⟨cmpJ_ok a b, hs.2.2⟩ H ls locs hR hv hS <;> omega
theorem r_lcmp_ge (C : Cx x w rm own cc nL ret hx) {a b off : Int} {tgt : Nat} (hd1 : decode cc pc = .ok (.lcmp, 1)) (hdg : decode cc (pc + 1) = .ok (.ifCond .ge off, 3)) (ht : ((pc + 1 : Nat) : Int) + off = (tgt : Int)) (kt : b ≤ a → AW x w nL cl cells slots Q tgt lv st h) (kf : ¬ b ≤ a → AW x w nL cl cells slots Q (pc + 1 + 3) lv st h) : AW x w nL cl cells slots Q pc lv (vL b :: vL a :: st) h := by
  intro hh hl hs H ls locs hR hv hS
  refine W.lcmp C.ex C.by hd1 ?_
  rw [lg_cmp_i hs.2.1 hs.1]
  have hc := cmpJ_s a b
  refine r_if_ge (a := cmpJ a b) C hdg ht (fun q => kt ?_) (fun q => kf ?_) hh hl ⟨cmpJ_ok a b, hs.2.2⟩ H ls locs hR hv hS <;> omega
theorem r_lcmp_gt (C : Cx x w rm own cc nL ret hx) {a b off : Int} {tgt : Nat} (hd1 : decode cc pc = .ok (.lcmp, 1)) (hdg : decode cc (pc + 1) = .ok (.ifCond .gt off, 3)) (ht : ((pc + 1 : Nat) : Int) + off = (tgt : Int)) (kt : b < a → AW x w nL cl cells slots Q tgt lv st h) (kf : ¬ b < a → AW x w nL cl cells slots Q (pc + 1 + 3) lv st h) : AW x w nL cl cells slots Q pc lv (vL b :: vL a :: st) h := by
  intro hh hl hs H ls locs hR hv hS
  refine W.lcmp C.ex C.by hd1 ?_
  rw [lg_cmp_i hs.2.1 hs.1]
  have hc := cmpJ_s a b
  refine r_if_gt (a := cmpJ a b) C hdg ht (fun q => kt ?_) (fun q => kf ?_) hh hl ⟨cmpJ_ok a b, hs.2.2⟩ H ls locs hR hv hS <;> omega
theorem r_lcmp_le (C : Cx x w rm own cc nL ret hx) {a b off : Int} {tgt : Nat} (hd1 : decode cc pc = .ok (.lcmp, 1)) (hdg : decode cc (pc + 1) = .ok (.ifCond .le off, 3)) (ht : ((pc + 1 : Nat) : Int) + off = (tgt : Int)) (kt : a ≤ b → AW x w nL cl cells slots Q tgt lv st h) (kf : ¬ a ≤ b → AW x w nL cl cells slots Q (pc + 1 + 3) lv st h) : AW x w nL cl cells slots Q pc lv (vL b :: vL a :: st) h := by
  intro hh hl hs H ls locs hR hv hS
  refine W.lcmp C.ex C.by hd1 ?_
  rw [lg_cmp_i hs.2.1 hs.1]
  have hc := cmpJ_s a b
  refine r_if_le (a := cmpJ a b) C hdg ht (fun q => kt ?_) (fun q => kf ?_) hh hl ⟨cmpJ_ok a b, hs.2.2⟩ H ls locs hR hv hS <;> omega
theorem r_goto (C : Cx x w rm own cc nL ret hx) {off : Int} {tgt : Nat} (hdg : decode cc pc = .ok (.goto off, 3)) (ht : (pc : Int) + off = (tgt : Int)) (kk : AW x w nL cl cells slots Q tgt lv st h) : AW x w nL cl cells slots Q pc lv st h := by
  intro hh hl hs H ls locs hR hv hS
  obtain ⟨p, l, e, R, s, m, args, below, meth, c⟩ := x
  exact lv_goto C.ex C.by hdg ht (kk hh hl hs H ls locs hR hv hS)
theorem r_tableIn (C : Cx x w rm own cc nL ret hx) {dflt lo hi : Int} {offs : Array Int} {len : Nat} {a off : Int} {tgt : Nat} (hdg : decode cc pc = .ok (.tableswitch dflt lo hi offs, len)) (h1 : lo ≤ a) (h2 : a ≤ hi) (ho : offs[(a - lo).toNat]? = some off) (ht : (pc : Int) + off = (tgt : Int)) (kk : AW x w nL cl cells slots Q tgt lv st h) : AW x w nL cl cells slots Q pc lv (vI a :: st) h := by
  intro hh hl hs H ls locs hR hv hS
  obtain ⟨p, l, e, R, s, m, args, below, meth, c⟩ := x
  have e1 : (Int32.ofInt a).toInt = a := i32_toInt hs.1
  exact lv_tableIn C.ex C.by hdg (by rw [e1]; omega) (by rw [e1]; omega) (by rw [e1]; exact ho) ht (kk hh hl hs.2 H ls locs hR hv hS)
theorem r_tableOut (C : Cx x w rm own cc nL ret hx) {dflt lo hi : Int} {offs : Array Int} {len : Nat} {a : Int} {tgt : Nat} (hdg : decode cc pc = .ok (.tableswitch dflt lo hi offs, len)) (h1 : a < lo ∨ hi < a) (ht : (pc : Int) + dflt = (tgt : Int)) (kk : AW x w nL cl cells slots Q tgt lv st h) : AW x w nL cl cells slots Q pc lv (vI a :: st) h := by
  intro hh hl hs H ls locs hR hv hS
  obtain ⟨p, l, e, R, s, m, args, below, meth, c⟩ := x
  have e1 : (Int32.ofInt a).toInt = a := i32_toInt hs.1
  exact lv_tableOut C.ex C.by hdg (by rw [e1]; exact h1) ht (kk hh hl hs.2 H ls locs hR hv hS)
theorem i32_and31 {a : Int} : Int32.ofInt a &&& Int32.ofInt 31 = Int32.ofInt (a % 32) := by
  have h := pk_and (Int32.ofInt a) (m := Int32.ofInt 31) 5 (by decide)
  rw [h]
  show Int32.ofNat _ = _
  rw [← Int32.ofInt_eq_ofNat]
  congr 1
  rw [Int32.toBitVec_ofInt, BitVec.toNat_ofInt]
  omega
theorem r_iand31 (C : Cx x w rm own cc nL ret hx) {a : Int} (hdg : decode cc pc = .ok (.iand, 1)) (kk : AW x w nL cl cells slots Q (pc + 1) lv (vI (a % 32) :: st) h) : AW x w nL cl cells slots Q pc lv (vI 31 :: vI a :: st) h := by
  intro hh hl hs H ls locs hR hv hS
  obtain ⟨p, l, e, R, s, m, args, below, meth, c⟩ := x
  refine lv_iand C.ex C.by hdg ?_
  rw [i32_and31]
  exact kk hh hl ⟨⟨by omega, by omega⟩, hs.2.2⟩ H ls locs hR hv hS
end ROWS
end
section
/-! Rows that read and write the heap. -/
section HROWS
variable {x : MX} {w : XW} {rm : Room} {own : String} {cc : ByteArray} {nL : Nat} {ret : Option FieldType} {hx : List (Nat × Nat × Nat × Nat)} {cl : Bool} {cells slots pc : Nat} {Q : State → Prop} {lv : List (Nat × AV)} {st : List AV} {h : AH}
theorem r_get (C : Cx x w rm own cc nL ret hx) {index t i j : Nat} (F : FLk own index t j) (hdg : decode cc pc = .ok (.getfield index, 3)) {v : AV} (hv0 : fv h t i j = v) (hok : okH h → i < cntT t → okV v) (kk : AW x w nL cl cells slots Q (pc + 3) lv (v :: st) h) : AW x w nL cl cells slots Q pc lv (vO t i :: st) h := by
  intro hh hl hs H ls locs hR hv hS
  obtain ⟨p, l, e, R, s, m, args, below, meth, c⟩ := x
  obtain ⟨Cn, T, N, hc, hk, rfl, hj, hin, hown, hlink⟩ := F
  obtain ⟨cell, q1, q2, q3, q4⟩ := cellR_obj hk (hR t i hs.1)
  obtain ⟨hS1, hfc, kC, hkC, hkind⟩ := C.kw.1.1 (clT t) _ hc
  obtain ⟨cf, kf, fi, f, hi, hsl⟩ := hS1 j hj
  refine W.getf C.ex C.by C.ow (C.ws _ hlink) (by rw [← hown]; exact hi) (u_facts hfc hkC (u_lays C.ws hin hj) hi).1 q1 (by rw [q3]; exact fun h => by cases h) (v := cV w v) ?_ rfl rfl hdg (kk hh hl ⟨hok hh hs.1, hs.2⟩ H ls locs hR hv hS)
  rw [hsl, q4 j hj]
  show some (cV w (fv h t i j)) = _
  rw [hv0]
theorem r_getI (C : Cx x w rm own cc nL ret hx) {index t i j : Nat} (F : FLk own index t j) (hdg : decode cc pc = .ok (.getfield index, 3)) (h0 : ftT t j = 0) (kk : AW x w nL cl cells slots Q (pc + 3) lv (vI (h t i j) :: st) h) : AW x w nL cl cells slots Q pc lv (vO t i :: st) h :=
  r_get C F hdg (fv_0 h0) (fun hh _ => (hh t i j).1 h0) kk
theorem r_getL (C : Cx x w rm own cc nL ret hx) {index t i j : Nat} (F : FLk own index t j) (hdg : decode cc pc = .ok (.getfield index, 3)) (h0 : ftT t j = 1) (kk : AW x w nL cl cells slots Q (pc + 3) lv (vL (h t i j) :: st) h) : AW x w nL cl cells slots Q pc lv (vO t i :: st) h :=
  r_get C F hdg (fv_1 h0) (fun hh _ => (hh t i j).2 h0) kk
theorem r_getO (C : Cx x w rm own cc nL ret hx) {index t i j t' i' : Nat} (F : FLk own index t j) (hdg : decode cc pc = .ok (.getfield index, 3)) (h0 : ftT t j = 2) (hr : rfT t i j = (t', i')) (ho : i < cntT t → i' < cntT t') (kk : AW x w nL cl cells slots Q (pc + 3) lv (vO t' i' :: st) h) : AW x w nL cl cells slots Q pc lv (vO t i :: st) h :=
  r_get (v := vO t' i') C F hdg (by rw [fv_2 h0, hr]) (fun _ hi => ho hi) kk
theorem r_put (C : Cx x w rm own cc nL ret hx) {index t i j : Nat} {ty : FieldType} (F : PLk own index t j ty) (hdg : decode cc pc = .ok (.putfield index, 3)) {v : AV} {n : Int} (hv0 : fv (hset h t i j n) t i j = v) (hok : okV v → (ftT t j = 0 → okI n) ∧ (ftT t j = 1 → okJ n)) (hn : narrow ty (cV w v) = cV w v) (hfit : fits ty (cV w v) = true) (kk : AW x w nL false cells slots Q (pc + 3) lv st (hset h t i j n)) : AW x w nL cl cells slots Q pc lv (v :: vO t i :: st) h := by
  intro hh hl hs H ls locs hR hv hS
  obtain ⟨p, l, e, R, s, m, args, below, meth, c⟩ := x
  obtain ⟨Cn, T, N, ty0, hc, hk, rfl, hj, hin, hown, hlink, hty, hnm, hfin, rfl⟩ := F
  have hap := va_apart (own := own) C.ws hin ty0 hty hnm C.kw.1 hc
  obtain ⟨cell, q1, q2, q3, q4⟩ := cellR_obj hk (hR t i hs.2.1)
  obtain ⟨hS1, hfc, kC, hkC, hkind⟩ := C.kw.1.1 (clT t) _ hc
  obtain ⟨cf, kf, fi, f, hi, hsl⟩ := hS1 j hj
  have hlay := C.ws _ (hin _ (u_in_lay hj))
  unfold u_lay at hlay
  rw [if_neg (by rw [hfin]; decide)] at hlay
  have hst := (u_facts hfc hkC (u_lays C.ws hin hj) hi).1
  have h6 := u_store hfc hkC hkind hlay hi (hty j hj) hn hfit
  refine W.putK C.ex C.by (f := f) ⟨C.ow, C.ws _ hlink, ⟨_, _, _, (by rw [← hown]; exact hi)⟩, hst⟩ (by rw [q2]; exact h6) q1 q3 (by rw [hsl]; exact k2_hasslot (q4 j hj)) rfl rfl hdg fun H' e1 e2 e3 => ?_
  rw [hsl] at e1 ⊢
  refine kk (hset_ok hh (hok hs.1).1 (hok hs.1).2) hl hs.2.2 H' ls _ (hR.set C.ij hs.2.1 (cellR_ofObj hk (t_OB.to (V := updV (fun j => cV w (fv h t i j)) j (cV w v)) ⟨_, e1, q2, q3, t_set q4 hap hj (cV w v)⟩ fun k' _ => ?_)) e3) hv (hS.weak.put e2 e3 (Or.inl ⟨t, i, hs.2.1, rfl⟩))
  exact congrFun (fv_upd hv0) k'
theorem r_putI (C : Cx x w rm own cc nL ret hx) {index t i j : Nat} {n : Int} (F : PLk own index t j .int) (hdg : decode cc pc = .ok (.putfield index, 3)) (h0 : ftT t j = 0) (kk : AW x w nL false cells slots Q (pc + 3) lv st (hset h t i j n)) : AW x w nL cl cells slots Q pc lv (vI n :: vO t i :: st) h :=
  r_put C F hdg (by rw [fv_0 h0, hset_same]) (fun q => ⟨fun _ => q, fun e => by rw [h0] at e; cases e⟩) rfl rfl kk
theorem r_putZ (C : Cx x w rm own cc nL ret hx) {index t i j : Nat} {n : Int} (F : PLk own index t j .boolean) (hdg : decode cc pc = .ok (.putfield index, 3)) (h0 : ftT t j = 0) (hz : n = 0 ∨ n = 1) (kk : AW x w nL false cells slots Q (pc + 3) lv st (hset h t i j n)) : AW x w nL cl cells slots Q pc lv (vI n :: vO t i :: st) h :=
  r_put C F hdg (by rw [fv_0 h0, hset_same]) (fun q => ⟨fun _ => q, fun e => by rw [h0] at e; cases e⟩) (by rcases hz with rfl | rfl <;> rfl) (by rcases hz with rfl | rfl <;> rfl) kk
theorem r_putL (C : Cx x w rm own cc nL ret hx) {index t i j : Nat} {n : Int} (F : PLk own index t j .long) (hdg : decode cc pc = .ok (.putfield index, 3)) (h0 : ftT t j = 1) (kk : AW x w nL false cells slots Q (pc + 3) lv st (hset h t i j n)) : AW x w nL cl cells slots Q pc lv (vL n :: vO t i :: st) h :=
  r_put C F hdg (by rw [fv_1 h0, hset_same]) (fun q => ⟨fun e => (by rw [h0] at e; cases e), fun _ => q⟩) rfl rfl kk
theorem r_iaload (C : Cx x w rm own cc nL ret hx) {t i : Nat} {a : Int} (hdg : decode cc pc = .ok (.iaload, 1)) (hk : kdT t = 1) (h0 : ∀ j, ftT t j = 0) {ln : Nat} (hln : lnT t = ln) (hi : 0 ≤ a ∧ a < (ln : Int)) (kk : AW x w nL cl cells slots Q (pc + 1) lv (vI (h t i a.toNat) :: st) h) : AW x w nL cl cells slots Q pc lv (vI a :: vO t i :: st) h := by
  intro hh hl hs H ls locs hR hv hS
  obtain ⟨p, l, e, R, s, m, args, below, meth, c⟩ := x
  subst hln
  have hc := cellR_arr hk (hR t i hs.2.1)
  refine W.iald C.ex C.by hc ((C.kw.1.2 0 (w.2.2 0, .int) rfl).1 _ _) (fun q => by cases q) (by rw [arrV_size]; exact i32_in hs.1 hi.1 hi.2) (v := cV w (vI (h t i a.toNat))) (by rw [i32_ix hs.1, arrV_read _ _ (by omega), fv_0 (h0 _)]) rfl rfl hdg (kk hh hl ⟨(hh t i _).1 (h0 _), hs.2.2⟩ H ls locs hR hv hS)
theorem r_laload (C : Cx x w rm own cc nL ret hx) {t i : Nat} {a : Int} (hdg : decode cc pc = .ok (.laload, 1)) (hk : kdT t = 2) (h0 : ∀ j, ftT t j = 1) {ln : Nat} (hln : lnT t = ln) (hi : 0 ≤ a ∧ a < (ln : Int)) (kk : AW x w nL cl cells slots Q (pc + 1) lv (vL (h t i a.toNat) :: st) h) : AW x w nL cl cells slots Q pc lv (vI a :: vO t i :: st) h := by
  intro hh hl hs H ls locs hR hv hS
  obtain ⟨p, l, e, R, s, m, args, below, meth, c⟩ := x
  subst hln
  have hc := cellR_arr hk (hR t i hs.2.1)
  refine W.lald C.ex C.by hc ((C.kw.1.2 1 (w.2.2 1, .long) rfl).1 _ _) (fun q => by cases q) (by rw [arrV_size]; exact i32_in hs.1 hi.1 hi.2) (v := cV w (vL (h t i a.toNat))) (by rw [i32_ix hs.1, arrV_read _ _ (by omega), fv_1 (h0 _)]) rfl rfl hdg (kk hh hl ⟨(hh t i _).2 (h0 _), hs.2.2⟩ H ls locs hR hv hS)
theorem r_zaload (C : Cx x w rm own cc nL ret hx) {t i : Nat} {a : Int} (hdg : decode cc pc = .ok (.baload, 1)) (hk : kdT t = 3) (h0 : ∀ j, ftT t j = 0) {ln : Nat} (hln : lnT t = ln) (hi : 0 ≤ a ∧ a < (ln : Int)) (kk : AW x w nL cl cells slots Q (pc + 1) lv (vI (h t i a.toNat) :: st) h) : AW x w nL cl cells slots Q pc lv (vI a :: vO t i :: st) h := by
  intro hh hl hs H ls locs hR hv hS
  obtain ⟨p, l, e, R, s, m, args, below, meth, c⟩ := x
  subst hln
  have hc := cellR_arr hk (hR t i hs.2.1)
  refine W.zald C.ex C.by hc ((C.kw.1.2 2 (w.2.2 2, .boolean) rfl).1 _ _) (fun q => by cases q) (by rw [arrV_size]; exact i32_in hs.1 hi.1 hi.2) (v := cV w (vI (h t i a.toNat))) (by rw [i32_ix hs.1, arrV_read _ _ (by omega), fv_0 (h0 _)]) rfl rfl hdg (kk hh hl ⟨(hh t i _).1 (h0 _), hs.2.2⟩ H ls locs hR hv hS)
theorem r_aaload (C : Cx x w rm own cc nL ret hx) {t i t' i' : Nat} {a : Int} (hdg : decode cc pc = .ok (.aaload, 1)) {k : Nat} {ty : FieldType} (hk : kdT t = k + 1) (hty : (tysL w)[k]? = some (w.2.2 k, ty)) (hir : ty.isReference = true) (h0 : ∀ j, ftT t j = 2) (hi : 0 ≤ a ∧ a < lnT t) (hr : rfT t i a.toNat = (t', i')) (ho : i < cntT t → 0 ≤ a ∧ a < lnT t → i' < cntT t') (kk : AW x w nL cl cells slots Q (pc + 1) lv (vO t' i' :: st) h) : AW x w nL cl cells slots Q pc lv (vI a :: vO t i :: st) h := by
  intro hh hl hs H ls locs hR hv hS
  obtain ⟨p, l, e, R, s, m, args, below, meth, c⟩ := x
  have hc := cellR_arr hk (hR t i hs.2.1)
  refine W.aald C.ex C.by hc ((C.kw.1.2 k _ hty).1 _ _) hir (fun q => by cases q) (by rw [arrV_size]; exact i32_in hs.1 hi.1 hi.2) (v := cV w (vO t' i')) (by rw [i32_ix hs.1, arrV_read _ _ (by omega), fv_2 (h0 _), hr]) rfl rfl hdg (kk hh hl ⟨ho hs.2.1 hi, hs.2.2⟩ H ls locs hR hv hS)
theorem r_alen (C : Cx x w rm own cc nL ret hx) {t i : Nat} (hdg : decode cc pc = .ok (.arraylength, 1)) {k : Nat} {ty : FieldType} (hk : kdT t = k + 1) (hty : (tysL w)[k]? = some (w.2.2 k, ty)) (hn : (lnT t : Int) ≤ 2147483647) (kk : AW x w nL cl cells slots Q (pc + 1) lv (vI (lnT t : Int) :: st) h) : AW x w nL cl cells slots Q pc lv (vO t i :: st) h := by
  intro hh hl hs H ls locs hR hv hS
  obtain ⟨p, l, e, R, s, m, args, below, meth, c⟩ := x
  have hc := cellR_arr hk (hR t i hs.1)
  refine W.alen C.ex C.by hc ((C.kw.1.2 k _ hty).1 _ _) (n := Int32.ofInt (lnT t : Int)) ?_ rfl rfl hdg (kk hh hl ⟨⟨by omega, hn⟩, hs.2⟩ H ls locs hR hv hS)
  rw [arrV_size, Int32.ofInt_eq_ofNat]
theorem r_iastore (C : Cx x w rm own cc nL ret hx) {t i : Nat} {a n : Int} (hdg : decode cc pc = .ok (.iastore, 1)) (hk : kdT t = 1) (h0 : ∀ j, ftT t j = 0) {ln : Nat} (hln : lnT t = ln) (hi : 0 ≤ a ∧ a < (ln : Int)) (kk : AW x w nL false cells slots Q (pc + 1) lv st (hset h t i a.toNat n)) : AW x w nL cl cells slots Q pc lv (vI n :: vI a :: vO t i :: st) h := by
  intro hh hl hs H ls locs hR hv hS
  obtain ⟨p, l, e, R, s, m, args, below, meth, c⟩ := x
  subst hln
  have hc := cellR_arr hk (hR t i hs.2.2.1)
  refine W.iast C.ex C.by hc ((C.kw.1.2 0 (w.2.2 0, .int) rfl).1 _ _) (fun q => by cases q) (by rw [arrV_size]; exact i32_in hs.2.1 hi.1 hi.2) rfl rfl hdg fun H1 e1 z oq => ?_
  rw [i32_ix hs.2.1] at e1 ⊢
  exact kk (hset_ok hh (fun _ => hs.1) (fun q => by rw [h0] at q; cases q)) hl hs.2.2.2 H1 ls _ (hR.setA C.ij hs.2.2.1 hk (v := vI n) (by rw [fv_0 (h0 _), hset_same]) e1 oq) hv (hS.weak.put z oq (Or.inl ⟨t, i, hs.2.2.1, rfl⟩))
theorem r_lastore (C : Cx x w rm own cc nL ret hx) {t i : Nat} {a n : Int} (hdg : decode cc pc = .ok (.lastore, 1)) (hk : kdT t = 2) (h0 : ∀ j, ftT t j = 1) {ln : Nat} (hln : lnT t = ln) (hi : 0 ≤ a ∧ a < (ln : Int)) (kk : AW x w nL false cells slots Q (pc + 1) lv st (hset h t i a.toNat n)) : AW x w nL cl cells slots Q pc lv (vL n :: vI a :: vO t i :: st) h := by
  intro hh hl hs H ls locs hR hv hS
  obtain ⟨p, l, e, R, s, m, args, below, meth, c⟩ := x
  subst hln
  have hc := cellR_arr hk (hR t i hs.2.2.1)
  refine W.last C.ex C.by hc ((C.kw.1.2 1 (w.2.2 1, .long) rfl).1 _ _) (fun q => by cases q) (by rw [arrV_size]; exact i32_in hs.2.1 hi.1 hi.2) rfl rfl hdg fun H1 e1 z oq => ?_
  rw [i32_ix hs.2.1] at e1 ⊢
  exact kk (hset_ok hh (fun q => by rw [h0] at q; cases q) (fun _ => hs.1)) hl hs.2.2.2 H1 ls _ (hR.setA C.ij hs.2.2.1 hk (v := vL n) (by rw [fv_1 (h0 _), hset_same]) e1 oq) hv (hS.weak.put z oq (Or.inl ⟨t, i, hs.2.2.1, rfl⟩))
theorem r_zastore (C : Cx x w rm own cc nL ret hx) {t i : Nat} {a n : Int} (hdg : decode cc pc = .ok (.bastore, 1)) (hk : kdT t = 3) (h0 : ∀ j, ftT t j = 0) (hz : n = 0 ∨ n = 1) {ln : Nat} (hln : lnT t = ln) (hi : 0 ≤ a ∧ a < (ln : Int)) (kk : AW x w nL false cells slots Q (pc + 1) lv st (hset h t i a.toNat n)) : AW x w nL cl cells slots Q pc lv (vI n :: vI a :: vO t i :: st) h := by
  intro hh hl hs H ls locs hR hv hS
  obtain ⟨p, l, e, R, s, m, args, below, meth, c⟩ := x
  subst hln
  have hc := cellR_arr hk (hR t i hs.2.2.1)
  have hnz : narrow .boolean (.int (Int32.ofInt n)) = .int (Int32.ofInt n) := by rcases hz with rfl | rfl <;> rfl
  refine W.zast C.ex C.by hc ((C.kw.1.2 2 (w.2.2 2, .boolean) rfl).1 _ _) (fun q => by cases q) (by rw [arrV_size]; exact i32_in hs.2.1 hi.1 hi.2) rfl rfl hdg fun H1 e1 z oq => ?_
  rw [i32_ix hs.2.1] at e1 ⊢
  rw [hnz] at e1
  exact kk (hset_ok hh (fun _ => hs.1) (fun q => by rw [h0] at q; cases q)) hl hs.2.2.2 H1 ls _ (hR.setA C.ij hs.2.2.1 hk (v := vI n) (by rw [fv_0 (h0 _), hset_same]) e1 oq) hv (hS.weak.put z oq (Or.inl ⟨t, i, hs.2.2.1, rfl⟩))
/-- a flat of the row of flats -/
theorem r_aaF (C : Cx x w rm own cc nL ret hx) {i : Nat} {a : Int} (hdg : decode cc pc = .ok (.aaload, 1)) (hi : 0 ≤ a ∧ a < 6) (kk : AW x w nL cl cells slots Q (pc + 1) lv (vO 4 a.toNat :: st) h) : AW x w nL cl cells slots Q pc lv (vI a :: vO 3 i :: st) h :=
  r_aaload (k := 3) (ty := .object "HeatShares$Flat") C hdg rfl rfl rfl (fun _ => rfl) hi rfl (fun _ _ => show a.toNat < 6 by omega) kk
/-- a row of what is owed -/
theorem r_aaW (C : Cx x w rm own cc nL ret hx) {i : Nat} {a : Int} (hdg : decode cc pc = .ok (.aaload, 1)) (hi : 0 ≤ a ∧ a < 3) (kk : AW x w nL cl cells slots Q (pc + 1) lv (vO 25 a.toNat :: st) h) : AW x w nL cl cells slots Q pc lv (vI a :: vO 24 i :: st) h :=
  r_aaload (k := 4) (ty := .array .int) C hdg rfl rfl rfl (fun _ => rfl) hi rfl (fun _ _ => show a.toNat < 3 by omega) kk
end HROWS
end
section
/-! Contracts, calls, ends. -/
abbrev AO : Type := Option AV ⊕ Nat
def excR (k a : Nat) (t : State) : Prop := ∃ cell : Cell, t.heap[a]? = some cell ∧ cell.vm.isStatics = false ∧ t.vm.findClass (exN k) = some cell.cls
def outR (w : XW) (t : State) (ao : AO) (o : Outcome) : Prop := match ao with
  | .inl none => o = .returned none
  | .inl (some v) => o = .returned (some (cV w v)) ∧ okV v
  | .inr k => ∃ a, o = .threw a ∧ excR k a t
def QA (w : XW) (Qa : AO → AH → Prop) (s : State) (o : Outcome) (t : State) : Prop := ∃ ao h', Qa ao h' ∧ okH h' ∧ outR w t ao o ∧ HRep w h' t.heap ∧ va_F (inU w s.heap.size) s t
def FE (pu : Bool) (w : XW) (s : State) (o : Outcome) (t : State) (mc ms : Nat) : Prop := s.WarmedH t.vm ∧ (∃ L, s.sameButNew ({ t with vm := s.vm } : State) L mc ms ∧ ∀ q ∈ L, inU w s.heap.size q.base) ∧ (pu = true → ∀ v, o = .returned v → t.heap = s.heap ∧ s.sameButNew ({ t with vm := s.vm } : State) [] 0 0)
def AQ (x : MX) (w : XW) (pu : Bool) (mc ms : Nat) (Qa : AO → AH → Prop) : State → Prop := fun t => ∃ o, t.status = .running ∧ Ended t x.below o ∧ QA w Qa x.s o t ∧ FE pu w x.s o t mc ms
/-- a method's contract, at these arguments and this heap -/
def AM (l : Launch) (y : MethodName) (ws : List Cond) (pu : Bool) (rm : Room) (w : XW) (as : List AV) (h : AH) (Qa : AO → AH → Prop) : Prop :=
  okH h → okS as → adInj w → MetFree l y (headSpec ws rm) (fun a U => a = (as.map (cV w)).toArray ∧ HRep w h U.heap ∧ KW w U) (fun _ _ _ _ _ => True) (fun _ st o t => QA w Qa st o t ∧ FE pu w st o t rm.cells rm.slots)
def wsM (y : MethodName) (cc : ByteArray) (nL : Nat) (ret : Option FieldType) (hs : List (Nat × Nat × Nat × Nat)) : List Cond := codeW y cc nL ret hs :: GW
theorem codeW_spec {y : MethodName} {cc : ByteArray} {nL : Nat} {ret : Option FieldType} {hs : List (Nat × Nat × Nat × Nat)} {args : Array Value} {s : State} {m : MethodId} (hn : s.methodNamed? y = some m) (h : (codeW y cc nL ret hs).before args s = true) :
    ∃ meth c, s.vm.method? m = some meth ∧ meth.code = some c ∧ c.code = cc ∧ c.maxLocals = nL ∧ meth.sig.returnType = ret ∧ meth.locks = false ∧ c.exceptionTable.toList = tableOf hs ∧ parseMethodDescriptor y.desc = some meth.sig := by
  cases hs with
  | nil =>
    obtain ⟨meth, c, h1, h2, h3, h4, h5, h6, h7, h8⟩ := Cond.code_spec hn h
    refine ⟨meth, c, h1, h2, h3, h4, h5, h6, ?_, h8⟩
    have h0 : c.exceptionTable.size = 0 := by simpa [Array.isEmpty] using h7
    exact List.eq_nil_of_length_eq_zero (by simpa using h0)
  | cons a b =>
    obtain ⟨m', meth, c, hn', h1, h2, h3, h4, h7, h5, h6, h8⟩ := Cond.codeWith_spec h
    cases hn.symm.trans hn'
    exact ⟨meth, c, h1, h2, h3, h4, h5, h6, by rw [← h7, table_eq], h8⟩
theorem aargs_map (w : XW) (as : List AV) : ∀ k, (aargs k as).map (cP w) = lv_args k (as.map (cV w)) := by
  induction as with
  | nil => intro k; rfl
  | cons v as ih =>
    intro k
    show cP w (k, v) :: (aargs _ as).map (cP w) = (k, cV w v) :: lv_args _ _
    rw [ih]
    have e : (if isL v = true then k + 2 else k + 1) = (if (cV w v).category = 2 then k + 2 else k + 1) := by rcases v with n | n | o | a <;> rfl
    rw [e]
    rfl
def nargs (as : List AV) : Nat := match as with
  | [] => 0
  | v :: as => (if isL v then 2 else 1) + nargs as
theorem nargs_len (w : XW) (as : List AV) : (lg_sl (as.map (cV w))).length = nargs as := by
  induction as with
  | nil => rfl
  | cons v as ih =>
    show (lg_sl (cV w v :: as.map (cV w))).length = _
    have e : lg_sl (cV w v :: as.map (cV w)) = (if (cV w v).category = 2 then [Slot.val (cV w v), Slot.second] else [Slot.val (cV w v)]) ++ lg_sl (as.map (cV w)) := rfl
    rw [e, List.length_append, ih]
    rcases v with n | n | o | a <;> rfl
theorem sum_cat (w : XW) (st : List AV) : ((st.map (cV w)).map fun v => v.category).sum = nargs st := by
  induction st with
  | nil => rfl
  | cons v st ih =>
    show (cV w v).category + ((st.map (cV w)).map fun v => v.category).sum = _
    rw [ih]
    rcases v with n | n | o | a <;> rfl
theorem AM.of {l : Launch} (hl : l.stackTraces = false) {y : MethodName} {pu : Bool} {rm : Room} {w : XW} {as : List AV} {h : AH} {Qa : AO → AH → Prop} {cc : ByteArray} {nL : Nat} {ret : Option FieldType} {hs : List (Nat × Nat × Nat × Nat)}
    (hy : plainFor y = true) (hn : nargs as ≤ nL) (body : ∀ x : MX, x.l.stackTraces = false → Cx x w rm y.cls cc nL ret hs → (x.meth.name = y.name) → AW x w nL true 0 0 (AQ x w pu rm.cells rm.slots Qa) 0 (aargs 0 as) [] h) : AM l y (wsM y cc nL ret hs) pu rm w as h Qa := by
  intro hh has hij
  refine MetFree.of_bodySF (code := cc) (maxLocals := nL) (ret := ret) hy ?_ ?_
  · intro args s m hp hnm
    obtain ⟨meth, c, h1, h2, h3, h4, h5, h6, -, -⟩ := codeW_spec hnm (atoms_spec (ws := wsM y cc nL ret hs) hp _ List.mem_cons_self)
    exact ⟨meth, c, h1, h2, h3, h4, h5, h6⟩
  · intro p e s m args below meth c s₁ B hml hP _
    obtain ⟨rfl, hR, hK⟩ := hP
    have hts := atoms_spec (ws := wsM y cc nL ret hs) B.pre
    have hh0 : s₁.heap = s.heap := by rw [B.state]; rfl
    obtain ⟨meth', c', h1, h2, h3, h4, h5, h6, h7, h8⟩ := codeW_spec B.named (hts _ List.mem_cons_self)
    have hcc : c' = c := by
      have h9 := (Stand.of_body B).code
      cases h1.symm.trans B.method
      exact Option.some.inj (h2.symm.trans h9)
    subst hcc
    have X0 := Stand.of_body B
    have htr : e.platform.stackTraces = false := by rw [X0.admits.platform]; exact hl
    have C : Cx (p, l, e, rm, s, m, (as.map (cV w)).toArray, below, meth, c') w rm y.cls cc nL ret hs :=
      ⟨B.exec, B.bytes, hml, findClass_of_methodNamed B.named, B.notSynchronized, B.returns, rfl, fun k hk => hts k (List.mem_cons_of_mem _ hk), hK, hij, htr, h7⟩
    have hlv := lv_entry (as.map (cV w)) (n := nL) (by rw [nargs_len]; exact hn)
    rw [← aargs_map] at hlv
    have k := body _ hl C (name_of_methodNamed B.named B.method).1 hh (aargs_ok has 0) trivial s.heap _ [] hR hlv ⟨rfl, rfl⟩
    rw [lg_entry_eq]
    obtain ⟨t, a1, o, b1, b2, b3, b4⟩ := k s₁ hh0 X0
    exact ⟨t, o, a1, b1, b2, b3, b4⟩
section ENDS
variable {x : MX} {w : XW} {rm : Room} {own : String} {cc : ByteArray} {nL : Nat} {ret : Option FieldType} {hx : List (Nat × Nat × Nat × Nat)} {cl pu : Bool} {cells slots mc ms pc : Nat} {Q : State → Prop} {lv : List (Nat × AV)} {st : List AV} {h : AH} {Qa : AO → AH → Prop}
theorem x_mq {o0 : Outcome} {ao : AO} {H : Heap} {locs : List Loc} (hq : Qa ao h) (hh : okH h) (ho : ∀ t, outR w t ao o0) (hR : HRep w h H) (hS : frS cl x w H locs) (hc : cells ≤ mc ∧ slots ≤ ms) (hpu : pu = true → cl = true ∧ cells = 0 ∧ slots = 0) {t : State}
    (hm : MQ x.below (fun _ _ o t => o = o0 ∧ t.heap = H) x.args x.s cells slots (fun b => ∃ l ∈ locs, l.base = b) t) : AQ x w pu mc ms Qa t := by
  obtain ⟨o, h1, h2, ⟨rfl, hH⟩, L, ⟨-, hW, hsame⟩, hL⟩ := hm
  refine ⟨o, h1, h2, ⟨ao, h, hq, hh, ho t, by rw [hH]; exact hR, hS.weak.F hH⟩, hW, ⟨L, hsame.mono hc.1 hc.2, fun q hq => ?_⟩, fun hp v _ => ?_⟩
  · obtain ⟨l, h3, h4⟩ := hL q hq
    rw [← h4]
    exact hS.weak.2.2 l h3
  · obtain ⟨e1, e2, e3⟩ := hpu hp
    subst e1; subst e2; subst e3
    obtain ⟨e4, e5⟩ := hS
    subst e5
    have hL0 : L = [] := List.eq_nil_iff_forall_not_mem.mpr fun q hq => by
      obtain ⟨l, h3, -⟩ := hL q hq
      cases h3
    subst hL0
    exact ⟨by rw [hH, e4], hsame⟩
theorem xW.mono {H : Heap} {locs : List Loc} {Q1 Q2 : State → Prop} {g : JFrame} (k : xW x H locs cells slots Q1 g) (f : ∀ t, Q1 t → Q2 t) : xW x H locs cells slots Q2 g := fun T hT X => by
  obtain ⟨t, a, b⟩ := k T hT X
  exact ⟨t, a, f t b⟩
theorem r_iret (C : Cx x w rm own cc nL (some .int) hx) {n : Int} (hdg : decode cc pc = .ok (.ireturn, 1)) (hq : okI n → Qa (.inl (some (vI n))) h) (hc : cells ≤ mc ∧ slots ≤ ms) (hpu : pu = true → cl = true ∧ cells = 0 ∧ slots = 0) : AW x w nL cl cells slots (AQ x w pu mc ms Qa) pc lv [vI n] h := by
  intro hh hl hs H ls locs hR hv hS
  have hlocks : x.meth.locks = false := C.lk
  exact xW.mono (W.iret (Qc := fun _ _ o t => o = .returned (some (.int (Int32.ofInt n))) ∧ t.heap = H) (free := fun b => ∃ l ∈ locs, l.base = b) C.ex C.by C.rt (fun t ht _ => ⟨rfl, ht⟩) (fun q hq => ⟨q, hq, rfl⟩) hdg hlocks) fun t ht => x_mq (ao := .inl (some (vI n))) (hq hs.1) hh (fun _ => ⟨rfl, hs.1⟩) hR hS hc hpu ht
theorem r_zret (C : Cx x w rm own cc nL (some .boolean) hx) {n : Int} (hdg : decode cc pc = .ok (.ireturn, 1)) (hz : n = 0 ∨ n = 1) (hq : Qa (.inl (some (vI n))) h) (hc : cells ≤ mc ∧ slots ≤ ms) (hpu : pu = true → cl = true ∧ cells = 0 ∧ slots = 0) : AW x w nL cl cells slots (AQ x w pu mc ms Qa) pc lv [vI n] h := by
  intro hh hl hs H ls locs hR hv hS
  have hlocks : x.meth.locks = false := C.lk
  have hnz : narrow .boolean (.int (Int32.ofInt n)) = .int (Int32.ofInt n) := by rcases hz with rfl | rfl <;> rfl
  exact xW.mono (W.zret (Qc := fun _ _ o t => o = .returned (some (.int (Int32.ofInt n))) ∧ t.heap = H) (free := fun b => ∃ l ∈ locs, l.base = b) C.ex C.by C.rt hnz (fun t ht _ => ⟨rfl, ht⟩) (fun q hq => ⟨q, hq, rfl⟩) hdg hlocks) fun t ht => x_mq (ao := .inl (some (vI n))) hq hh (fun _ => ⟨rfl, hs.1⟩) hR hS hc hpu ht
theorem r_lret (C : Cx x w rm own cc nL (some .long) hx) {n : Int} (hdg : decode cc pc = .ok (.lreturn, 1)) (hq : okJ n → Qa (.inl (some (vL n))) h) (hc : cells ≤ mc ∧ slots ≤ ms) (hpu : pu = true → cl = true ∧ cells = 0 ∧ slots = 0) : AW x w nL cl cells slots (AQ x w pu mc ms Qa) pc lv [vL n] h := by
  intro hh hl hs H ls locs hR hv hS
  have hlocks : x.meth.locks = false := C.lk
  exact xW.mono (W.lret (Qc := fun _ _ o t => o = .returned (some (.long (Int64.ofInt n))) ∧ t.heap = H) (free := fun b => ∃ l ∈ locs, l.base = b) C.ex C.by C.rt (fun t ht _ => ⟨rfl, ht⟩) (fun q hq => ⟨q, hq, rfl⟩) hdg hlocks) fun t ht => x_mq (ao := .inl (some (vL n))) (hq hs.1) hh (fun _ => ⟨rfl, hs.1⟩) hR hS hc hpu ht
theorem r_vret (C : Cx x w rm own cc nL none hx) (hdg : decode cc pc = .ok (.return_, 1)) (hq : Qa (.inl none) h) (hc : cells ≤ mc ∧ slots ≤ ms) (hpu : pu = true → cl = true ∧ cells = 0 ∧ slots = 0) : AW x w nL cl cells slots (AQ x w pu mc ms Qa) pc lv [] h := by
  intro hh hl hs H ls locs hR hv hS
  have hlocks : x.meth.locks = false := C.lk
  exact xW.mono (W.vret (Qc := fun _ _ o t => o = .returned none ∧ t.heap = H) (free := fun b => ∃ l ∈ locs, l.base = b) C.ex C.by C.rt (fun t ht _ => ⟨rfl, ht⟩) (fun q hq => ⟨q, hq, rfl⟩) hdg hlocks) fun t ht => x_mq (ao := .inl none) hq hh (fun _ => rfl) hR hS hc hpu ht
end ENDS
/-! Calls. -/
def xB (U t : State) : State := ({ U with heap := t.heap, slotsUsed := t.slotsUsed } : State).setVm t.vm
theorem x_back {l : Launch} {R : Room} {p : Program} {e : Env} {below : List Frame} {s : State} {sargs : Array Value} {y : MethodName} {len Wd maxL : Nat} {S : Spec} {P : Array Value → State → Prop} {Qm : Array Value → State → Outcome → State → Prop}
    (hM : MetFree l y S P (fun _ _ _ _ _ => True) Qm) (hframes : S.room.frames + 1 ≤ R.frames) (hlocals : Wd + (maxL + 11) + S.room.locals ≤ R.locals)
    {m : MethodId} {meth : Method} {c : Code} {U : State} {Ls : List Loc} {c0 s0 : Nat} (X : Stand p l e R s m sargs below meth c U Ls c0 s0) {g : JFrame} (hg : g.method = m) (hsize : g.locals.size = c.maxLocals) {ig : Instr} (hdg : decode c.code g.pc = .ok (ig, len))
    (hW : 2 * g.monitorRoom + (g.stack.map fun v => v.category).sum ≤ Wd) {mk : MethodId} (hn : U.methodNamed? y = some mk) {a : Array Value} (h1 : S.pre.before a U = true)
    {methY : Method} {cY : Code} (hmY : U.vm.method? mk = some methY) (hcY : methY.code = some cY) (hlY : cY.maxLocals = maxL) (h3 : (Cond.initialized y.cls).before a U = true) (h4 : c0 + S.room.cells ≤ R.cells) (h5 : s0 + S.room.slots ≤ R.slots) (hP : P a (U.calling g mk a)) :
    ∃ (o : Outcome) (t : State), Qm a (U.calling g mk a) o t ∧ ∀ (L : List Loc) (k n : Nat), U.WarmedH t.vm → (U.calling g mk a).sameButNew ({ t with vm := (U.calling g mk a).vm } : State) L k n →
      Stand p l e R s m sargs below meth c (xB U t) (Ls ++ L) (c0 + k) (s0 + n) ∧
      (∀ v, o = .returned v → Steps p.tables e below (doInvoke e (U.setTop g) [] mk a).1 ((xB U t).setTop { g with pc := g.pc + len, stack := v.toList ++ g.stack })) ∧
      (∀ z, o = .threw z → Steps p.tables e below (doInvoke e (U.setTop g) [] mk a).1 (((xB U t).setTop g).pushFrame (.throwing z))) := by
  obtain ⟨kY, hkY, -⟩ := className_of_methodNamed hn
  have hinitY : kY.init = .initialized := Cond.initialized_spec (findClass_of_methodNamed hn) hkY h3
  have h : At U g.method c below := by rw [hg]; exact X.here
  have happ : S.appliesLoose y e.platform (U.calling g mk a) = true :=
    Spec.appliesLoose_calling (g := g) h hdg hn hkY hinitY
      (X.room_calling (g := g) (R' := S.room) hsize hmY hcY hframes (by rw [hlY]; omega) h4 h5) h1
  obtain ⟨mid, hmid⟩ := h.above
  have hfr : (U.setTop g).frames = (.java g :: mid) ++ below := by rw [State.frames_setTop' g h.top, hmid]; rfl
  obtain ⟨o, t, hsteps, -, hend, hq⟩ := Steps.callFree hM p X.admits X.cas X.clock (acts := []) hfr happ hP trivial
  refine ⟨o, t, hq, fun L k n hW' hsb => ?_⟩
  obtain ⟨e2, q2, q3, q4, q5, q6⟩ := id hsb
  rw [State.frames_setTop' g h.top] at hend
  obtain ⟨g₀, hg0⟩ := Option.isSome_iff_exists.mp h.top
  obtain ⟨r, hr⟩ := State.topJava?_eq_some.mp hg0
  have e3 : t = ({ (U.calling g mk a).setFrames t.frames with heap := t.heap, slotsUsed := t.slotsUsed } : State).setVm t.vm := by
    have : t = ({ t with vm := (U.calling g mk a).vm } : State).setVm t.vm := rfl
    rw [e2] at this
    exact this
  have hr' : (xB U t).frames = .java g₀ :: r := hr
  have hsame : U.sameButNew ({ U with heap := t.heap, slotsUsed := t.slotsUsed } : State) L k n := by
    refine ⟨?_, q2, q3, q4, q5, q6⟩
    obtain ⟨th, ht, -⟩ := State.frames_cons hr
    show ({ U with heap := t.heap, slotsUsed := t.slotsUsed } : State) = { U.setFrames U.frames with heap := t.heap, slotsUsed := t.slotsUsed }
    rw [State.setFrames_self ht]
  refine ⟨⟨X.admits, X.cas, X.clock, X.frames, X.room, X.hears, X.method, X.code, (X.here.setHeapUsed t.heap t.slotsUsed).setVm hW'.alike, X.tail, State.WarmedH.trans X.warmed hW', X.limits, X.bytes, X.same.trans (hsame.setVm s.vm)⟩, fun v hv => ?_, fun z hz => ?_⟩
  · subst hv
    obtain ⟨c₂, i₂, len₂, hc₂, hd₂, hf₂⟩ := hend
    have hcc : c₂ = c := by
      have h1 : t.code? g.method = U.code? g.method := by
        rw [State.code?_eq, State.code?_eq, hW'.alike.method?]
      exact Option.some.inj (hc₂.symm.trans (h1.trans h.code))
    subst hcc
    have hlen : len₂ = len := by rw [hdg] at hd₂; cases hd₂; rfl
    subst hlen
    have hs₂ : t = (xB U t).setTop { g with pc := g.pc + len₂, stack := v.toList ++ g.stack } := by
      refine e3.trans ?_
      rw [hf₂, State.calling_eq h.top, State.setFrames_setFrames, State.setTop_of_frames _ hr', hr]
      rfl
    rw [← hs₂]
    exact hsteps
  · subst hz
    have hf₂ : t.frames = .throwing z :: .java g :: U.frames.tail := hend
    have hs₂ : t = ((xB U t).setTop g).pushFrame (.throwing z) := by
      refine e3.trans ?_
      rw [hf₂, State.calling_eq h.top, State.setFrames_setFrames, State.pushFrame, State.frames_setTop _ hr', State.setTop_of_frames _ hr', State.setFrames_setFrames, hr]
      rfl
    rw [← hs₂]
    exact hsteps
/-- an invoking instruction goes to the method y -/
def Inv (x : MX) (y : MethodName) (T : State) (locs : List Loc) (cells slots : Nat) (g : JFrame) (a rest : List Value) : Prop :=
  ∃ (vm₁ : Vm) (mk : MethodId), xStand x (T.setVm vm₁) locs cells slots ∧ (T.setVm vm₁).methodNamed? y = some mk ∧ ∀ target, Steps x.p.tables x.e x.below (doInvoke x.e ((T.setVm vm₁).setTop { g with stack := rest }) [] mk a.toArray).1 target → Steps x.p.tables x.e x.below (T.setTop g) target
section CALLS
variable {x : MX} {w : XW} {rm : Room} {own : String} {cc : ByteArray} {nL : Nat} {ret : Option FieldType} {hx : List (Nat × Nat × Nat × Nat)} {cl : Bool} {cells slots pc : Nat} {Q : State → Prop} {lv : List (Nat × AV)} {st : List AV} {h : AH}
variable {y : MethodName} {cY : ByteArray} {nY : Nat} {retY : Option FieldType} {hY : List (Nat × Nat × Nat × Nat)} {index n : Nat}
theorem CLk.len (L : CLk own index y cY nY retY hY n) : ∀ sig, parseMethodDescriptor y.desc = some sig → n = sig.parameters.length := by
  intro sig hsig
  have h2 := L.2.2.2.2.2
  rw [hsig] at h2
  exact (Option.some.inj h2).symm
theorem CLk.sig (L : CLk own index y cY nY retY hY n) (C : Cx x w rm own cc nL ret hx) {mk : MethodId} (hn : x.s.methodNamed? y = some mk) {methM : Method} (hm : x.s.vm.method? mk = some methM) : parseMethodDescriptor y.desc = some methM.sig := by
  obtain ⟨meth, c, h1, -, -, -, -, -, -, h8⟩ := codeW_spec hn (C.ws _ L.2.1)
  cases hm.symm.trans h1
  exact h8
theorem inv_V (C : Cx x w rm own cc nL ret hx) (L : CLk own index y cY nY retY hY n) (hi : Cond.instanceMethod y ∈ GW) (hsl : Cond.selects y.cls y y ∈ GW) {T : State} {locs : List Loc} (X : xStand x T locs cells slots) {b : Addr} {cellB : Cell} (hcell : T.heap[b]? = some cellB) (hobj : cellB.vm.isStatics = false) (hcls : x.s.vm.findClass y.cls = some cellB.cls)
    {g : JFrame} (hg : g.method = x.m) {argsL rest : List Value} (hlen : argsL.length = n) (hstack : g.stack = argsL.reverse ++ .ref b :: rest) (hdg : decode cc g.pc = .ok (.invokevirtual index, 3)) : Inv x y T locs cells slots g (.ref b :: argsL) rest := by
  obtain ⟨p, l, e, R, s, m, args, below, meth, c⟩ := x
  obtain ⟨mk, methM, hnamed, hmethM, hstM, habM⟩ := Cond.instanceMethod_spec (C.ws _ hi)
  have hsigM := L.sig C hnamed hmethM
  have hy : y.cls ≠ "java/lang/invoke/MethodHandle" ∧ y.cls ≠ "java/lang/invoke/VarHandle" := ⟨L.2.2.2.1, L.2.2.2.2.1⟩
  obtain ⟨c2, r2, m2, q1, q2, q3, q4, kP, hkP, hkPi⟩ := Cond.selects_spec (C.ws _ hsl)
  cases hcls.symm.trans q1
  cases (State.methodFound?_of_named hnamed hy).symm.trans q2
  cases hnamed.symm.trans q3
  have hselP : selectMethod e.platform s.vm cellB.cls mk = .method mk := by rw [Launch.admits_selectMethod X.admits]; exact q4
  obtain ⟨vm₁, X₁, hstep₁⟩ := X.invokevirtual C.ex C.ow (C.ws _ L.1) hnamed hmethM hstM hkP hkPi hy (a := b) (cell := cellB) hcell
    (fun z h => by rw [h] at hobj; cases hobj) hselP hmethM habM hkP hkPi (g := g) hg (argsL := argsL) (rest := rest) (hlen.trans (L.len _ hsigM)) hstack (by rw [C.by]; exact hdg)
  exact ⟨vm₁, mk, X₁, X₁.named hnamed, fun target h => hstep₁ _ fun acts => by rw [doInvoke_state]; exact h⟩
theorem inv_S (C : Cx x w rm own cc nL ret hx) (L : CLk own index y cY nY retY hY n) (hi : Cond.static y ∈ GW) {T : State} {locs : List Loc} (X : xStand x T locs cells slots)
    {g : JFrame} (hg : g.method = x.m) {argsL rest : List Value} (hlen : argsL.length = n) (hstack : g.stack = argsL.reverse ++ rest) (hdg : decode cc g.pc = .ok (.invokestatic index, 3)) : Inv x y T locs cells slots g argsL rest := by
  obtain ⟨p, l, e, R, s, m, args, below, meth, c⟩ := x
  have hy : y.cls ≠ "java/lang/invoke/MethodHandle" ∧ y.cls ≠ "java/lang/invoke/VarHandle" := ⟨L.2.2.2.1, L.2.2.2.2.1⟩
  obtain ⟨kk, hkk, hcode⟩ : ∃ mk, s.methodNamed? y = some mk ∧ True := by
    have hcw := C.ws _ L.2.1
    cases hY with
    | nil => obtain ⟨mk, h⟩ := Cond.code_named hcw; exact ⟨mk, h, trivial⟩
    | cons a b => obtain ⟨mk, -, -, h, -⟩ := Cond.codeWith_spec hcw; exact ⟨mk, h, trivial⟩
  obtain ⟨methM, cM, hmethM, -, -, -, -, -, -, hsigM⟩ := codeW_spec hkk (C.ws _ L.2.1)
  have hstatic : methM.isStatic = true := Cond.static_spec hkk hmethM (C.ws _ hi)
  obtain ⟨kP, hkP, -⟩ := className_of_methodNamed hkk
  have hinitP : kP.init = .initialized := Cond.initialized_spec (findClass_of_methodNamed hkk) hkP (C.ws _ L.2.2.1)
  obtain ⟨vm₁, X₁, hstep₁⟩ := X.invokestatic C.ex C.ow (C.ws _ L.1) hkk hmethM hstatic hkP hinitP hy (g := g) hg (argsL := argsL) (rest := rest) (hlen.trans (L.len _ hsigM)) hstack (by rw [C.by]; exact hdg)
  exact ⟨vm₁, kk, X₁, X₁.named hkk, fun target h => hstep₁ _ fun acts => by rw [doInvoke_state]; exact h⟩
/-- an exception on its way out of the frame at pc -/
def AT (x : MX) (w : XW) (nL : Nat) (cells slots : Nat) (Q : State → Prop) (pc : Nat) (lv : List (Nat × AV)) (h : AH) (k : Nat) : Prop :=
  okH h → okL lv → ∀ (T : State) (ls : Array Slot) (locs : List Loc) (a : Nat) (rest : List Value), HRep w h T.heap → lv_has ls nL (lv.map (cP w)) → va_S (inU w x.s.heap.size) x.s.heap T.heap locs → xStand x T locs cells slots → excR k a T → ∃ t, Steps x.p.tables x.e x.below ((T.setTop (F0 x.m pc ls rest)).pushFrame (.throwing a)) t ∧ Q t
theorem a_call (C : Cx x w rm own cc nL ret hx) (L : CLk own index y cY nY retY hY n) {pu : Bool} {rmY : Room} {as : List AV} {Qy : AO → AH → Prop} (hM : AM x.l y (wsM y cY nY retY hY) pu rmY w as h Qy) (has : okS as) {len : Nat} {ig : Instr} (hdg : decode cc pc = .ok (ig, len))
    (hrm : rmY.frames + 1 ≤ rm.frames ∧ 8 + (nY + 11) + rmY.locals ≤ rm.locals ∧ cells + rmY.cells ≤ rm.cells ∧ slots + rmY.slots ≤ rm.slots) (hst : ((st.map (cV w)).map fun v => v.category).sum ≤ 8)
    {st0 : List AV} (hinv : ∀ (T : State) (locs : List Loc) (ls : Array Slot), HRep w h T.heap → xStand x T locs cells slots → ls.size = nL → Inv x y T locs cells slots (F0 x.m pc ls (st0.map (cV w))) (as.map (cV w)) (st.map (cV w)))
    (k1 : ∀ v h', Qy (.inl v) h' → AW x w nL (cl && pu) (if pu then cells else cells + rmY.cells) (if pu then slots else slots + rmY.slots) Q (pc + len) lv (v.toList ++ st) h')
    (k2 : ∀ k h', Qy (.inr k) h' → AT x w nL (cells + rmY.cells) (slots + rmY.slots) Q pc lv h' k) (hs0 : okS st) (hh : okH h) (hl : okL lv) {H : Heap} {ls : Array Slot} {locs : List Loc} (hR : HRep w h H) (hv : lv_has ls nL (lv.map (cP w))) (hS : frS cl x w H locs) : xW x H locs cells slots Q (F0 x.m pc ls (st0.map (cV w))) := by
  intro T hT X
  subst hT
  obtain ⟨vm₁, mk, X₁, hn, hstep⟩ := hinv T locs ls hR X hv.1
  have hcw := C.ws _ L.2.1
  have hpay : ∀ k ∈ GW, ∀ (a' : Array Value) (U : State), x.s.WarmedH U.vm → k.before a' U = true := fun k hk a' U hW => word_at hW (GWgood k hk) (C.ws k hk)
  have hcode1 : (codeW y cY nY retY hY).before (as.map (cV w)).toArray (T.setVm vm₁) = true := hpay _ L.2.1 _ _ X₁.warmed
  obtain ⟨methY, cY', hmY, hcY, -, hlY, -, -, -, -⟩ := codeW_spec hn hcode1
  have hRm : x.R = rm := C.ro
  obtain ⟨o, t, ⟨⟨ao, h', hqa, hok', ho, hR', hF⟩, hWt, ⟨L', hsb, hL'⟩, hpu⟩, hgo⟩ := x_back (g := { F0 x.m pc ls (st0.map (cV w)) with stack := st.map (cV w) }) (len := len) (Wd := 8) (maxL := nY) (hM hh has C.ij)
    (by rw [hRm]; exact hrm.1) (by rw [hRm]; exact hrm.2.1) X₁ rfl (by rw [C.ml]; exact hv.1) (ig := ig) (by rw [C.by]; exact hdg) (by simpa using hst) hn
    (atoms_intro fun k hk => by
      rcases List.mem_cons.mp hk with e | e
      · rw [e]; exact hcode1
      · exact hpay k e _ _ X₁.warmed) hmY hcY hlY (hpay _ L.2.2.1 _ _ X₁.warmed) (by rw [hRm]; exact hrm.2.2.1) (by rw [hRm]; exact hrm.2.2.2)
    ⟨rfl, hR, KW.at (U := (T.setVm vm₁).calling { F0 x.m pc ls (st0.map (cV w)) with stack := st.map (cV w) } mk (as.map (cV w)).toArray) C.kw X₁.warmed hS.weak⟩
  have hWt' : (T.setVm vm₁).WarmedH t.vm := hWt
  have hF' : va_F (inU w T.heap.size) T t := hF
  have hs1 : va_S (inU w x.s.heap.size) x.s.heap t.heap (locs ++ L') := by
    obtain ⟨f1, f2⟩ := hF'
    obtain ⟨g1, g2, g3⟩ := hS.weak
    refine ⟨Nat.le_trans g1 f1, fun q h1 h2 => ?_, fun q hq => ?_⟩
    · rw [f2 q (Nat.lt_of_lt_of_le h1 g1) fun z => h2 (by
        rcases z with z | z
        · exact Or.inl z
        · exact Or.inr (by omega)), g2 q h1 h2]
    · rcases List.mem_append.mp hq with z | z
      · exact g3 q z
      · rcases hL' q z with z | z
        · exact Or.inl z
        · exact Or.inr (Nat.le_trans g1 z)
  match ao, o, ho with
  | .inl v, o, ho =>
    obtain ⟨v', hv', ho'⟩ : ∃ v' : Option Value, o = .returned v' ∧ (v'.toList = (v.toList).map (cV w)) ∧ okS v.toList := by
      cases v with
      | none => exact ⟨none, ho, rfl, trivial⟩
      | some v => exact ⟨some (cV w v), ho.1, rfl, ho.2, trivial⟩
    have hmid : ∀ (locs2 : List Loc) (c2 s2 : Nat) (cl2 : Bool), xStand x (xB (T.setVm vm₁) t) locs2 c2 s2 → frS cl2 x w t.heap locs2 → AW x w nL cl2 c2 s2 Q (pc + len) lv (v.toList ++ st) h' → Steps x.p.tables x.e x.below (doInvoke x.e ((T.setVm vm₁).setTop { F0 x.m pc ls (st0.map (cV w)) with stack := st.map (cV w) }) [] mk (as.map (cV w)).toArray).1 ((xB (T.setVm vm₁) t).setTop { F0 x.m pc ls (st0.map (cV w)) with pc := pc + len, stack := v'.toList ++ st.map (cV w) }) → ∃ t, Steps x.p.tables x.e x.below (T.setTop (F0 x.m pc ls (st0.map (cV w)))) t ∧ Q t := by
      intro locs2 c2 s2 cl2 X2 hS2 hA hst2
      have hk := hA hok' hl (okS_of fun u hu => by
        rcases List.mem_append.mp hu with z | z
        · exact okS_mem ho'.2 u z
        · exact okS_mem hs0 u z) t.heap ls locs2 hR' hv hS2
      obtain ⟨t2, a2, b2⟩ := hk (xB (T.setVm vm₁) t) rfl X2
      refine ⟨t2, hstep _ (hst2.trans ?_), b2⟩
      rw [List.map_append, ← ho'.1] at a2
      exact a2
    cases pu with
    | false =>
      obtain ⟨X2, g1, -⟩ := hgo L' rmY.cells rmY.slots hWt' hsb
      refine hmid _ _ _ _ X2 ?_ (k1 v h' hqa) (g1 v' hv')
      rw [Bool.and_false]
      exact hs1
    | true =>
      obtain ⟨z1, z2⟩ := hpu rfl v' hv'
      obtain ⟨X2, g1, -⟩ := hgo [] 0 0 hWt' z2
      refine hmid _ _ _ cl X2 ?_ (by have := k1 v h' hqa; rwa [Bool.and_true] at this) (g1 v' hv')
      have z3 : t.heap = T.heap := z1
      rw [z3, List.append_nil]
      exact hS
  | .inr k, o, ho =>
    obtain ⟨a, rfl, hexc⟩ := ho
    obtain ⟨X2, -, g2⟩ := hgo L' rmY.cells rmY.slots hWt' hsb
    obtain ⟨t2, a2, b2⟩ := k2 k h' hqa hok' hl (xB (T.setVm vm₁) t) ls (locs ++ L') a (st.map (cV w)) hR' hv hs1 X2 hexc
    exact ⟨t2, hstep _ ((g2 a rfl).trans a2), b2⟩
end CALLS
section CALLROWS
variable {x : MX} {w : XW} {rm : Room} {own : String} {cc : ByteArray} {nL : Nat} {ret : Option FieldType} {hx : List (Nat × Nat × Nat × Nat)} {cl : Bool} {cells slots pc : Nat} {Q : State → Prop} {lv : List (Nat × AV)} {st : List AV} {h : AH}
variable {y : MethodName} {cY : ByteArray} {nY : Nat} {retY : Option FieldType} {hY : List (Nat × Nat × Nat × Nat)} {index n : Nat} {pu : Bool} {rmY : Room} {as : List AV} {Qy : AO → AH → Prop} {st0 : List AV}
theorem r_callS (C : Cx x w rm own cc nL ret hx) (L : CLk own index y cY nY retY hY n) (hi : Cond.static y ∈ GW) (hM : AM x.l y (wsM y cY nY retY hY) pu rmY w as h Qy) (hn : as.length = n) (hst0 : as.reverse ++ st = st0) (hdg : decode cc pc = .ok (.invokestatic index, 3))
    (hrm : rmY.frames + 1 ≤ rm.frames ∧ 8 + (nY + 11) + rmY.locals ≤ rm.locals ∧ cells + rmY.cells ≤ rm.cells ∧ slots + rmY.slots ≤ rm.slots) (hst : nargs st ≤ 8)
    (k1 : ∀ v h', Qy (.inl v) h' → AW x w nL (cl && pu) (if pu then cells else cells + rmY.cells) (if pu then slots else slots + rmY.slots) Q (pc + 3) lv (v.toList ++ st) h')
    (k2 : ∀ k h', Qy (.inr k) h' → AT x w nL (cells + rmY.cells) (slots + rmY.slots) Q pc lv h' k) : AW x w nL cl cells slots Q pc lv st0 h := by
  intro hh hl hs H ls locs hR hv hS
  subst hst0
  have ha := okS_app hs
  refine a_call C L hM (okS_rev ha.1) hdg hrm (by rw [sum_cat]; exact hst) (fun T locs ls hR X hsz => ?_) k1 k2 ha.2 hh hl hR hv hS
  exact inv_S C L hi X rfl (by rw [List.length_map]; exact hn) (by show (as.reverse ++ st).map (cV w) = _; rw [List.map_append, List.map_reverse]) hdg
theorem r_callV (C : Cx x w rm own cc nL ret hx) (L : CLk own index y cY nY retY hY n) (hi : Cond.instanceMethod y ∈ GW ∧ Cond.selects y.cls y y ∈ GW) {t i : Nat} (hk : kdT t = 0) {T0 : u_T} {N0 : Nat} (hcl : uCl[clT t]? = some (y.cls, T0, N0)) (hM : AM x.l y (wsM y cY nY retY hY) pu rmY w (vO t i :: as) h Qy) (hn : as.length = n) (hst0 : as.reverse ++ vO t i :: st = st0) (hdg : decode cc pc = .ok (.invokevirtual index, 3))
    (hrm : rmY.frames + 1 ≤ rm.frames ∧ 8 + (nY + 11) + rmY.locals ≤ rm.locals ∧ cells + rmY.cells ≤ rm.cells ∧ slots + rmY.slots ≤ rm.slots) (hst : nargs st ≤ 8)
    (k1 : ∀ v h', Qy (.inl v) h' → AW x w nL (cl && pu) (if pu then cells else cells + rmY.cells) (if pu then slots else slots + rmY.slots) Q (pc + 3) lv (v.toList ++ st) h')
    (k2 : ∀ k h', Qy (.inr k) h' → AT x w nL (cells + rmY.cells) (slots + rmY.slots) Q pc lv h' k) : AW x w nL cl cells slots Q pc lv st0 h := by
  intro hh hl hs H ls locs hR hv hS
  subst hst0
  have ha := okS_app hs
  refine a_call C L hM ⟨ha.2.1, okS_rev ha.1⟩ hdg hrm (by rw [sum_cat]; exact hst) (fun T locs ls hR X hsz => ?_) k1 k2 ha.2.2 hh hl hR hv hS
  obtain ⟨cell, q1, q2, q3, q4⟩ := cellR_obj hk (hR t i ha.2.1)
  obtain ⟨hS1, hfc, -⟩ := C.kw.1.1 (clT t) _ hcl
  exact inv_V C L hi.1 hi.2 X q1 (by rw [q3]; rfl) (by rw [q2]; exact hfc) rfl (by rw [List.length_map]; exact hn) (by show (as.reverse ++ vO t i :: st).map (cV w) = _; rw [List.map_append, List.map_reverse]; rfl) hdg
theorem t_out (C : Cx x w rm own cc nL ret []) {mc ms k : Nat} {Qa : AO → AH → Prop} (hq : Qa (.inr k) h) (hc : cells ≤ mc ∧ slots ≤ ms) : AT x w nL cells slots (AQ x w pu mc ms Qa) pc lv h k := by
  intro hh hl T ls locs a rest hR hv hS X he
  obtain ⟨h1, h2, h3, h4, h5⟩ := X.leaveThrown a (g := F0 x.m pc ls rest) rfl rfl rfl (by rw [C.tb]; intro z hz; cases hz) C.lk
  exact ⟨_, h1, .threw a, h2, h3, ⟨.inr k, h, hq, hh, ⟨a, rfl, he⟩, hR, hS.F rfl⟩, h4, ⟨locs, h5.mono hc.1 hc.2, hS.2.2⟩, fun _ v hv => by cases hv⟩
end CALLROWS
end
section
/-! Plain mathematics: sums, orders of fractions, Euclid's comparison. -/
def Ret (v : Option AV) (h0 : AH) : AO → AH → Prop := fun o h' => o = .inl v ∧ h' = h0
def sumF (n : Nat) (g : Nat → Int) : Int := match n with
  | 0 => 0
  | n + 1 => sumF n g + g n
theorem sumF_succ (n : Nat) (g : Nat → Int) : sumF (n + 1) g = sumF n g + g n := rfl
theorem sumF_congr {g g' : Nat → Int} : ∀ {n : Nat}, (∀ k, k < n → g k = g' k) → sumF n g = sumF n g' := by
  intro n
  induction n with
  | zero => intro _; rfl
  | succ n ih =>
    intro h
    rw [sumF_succ, sumF_succ, ih fun k hk => h k (by omega), h n (by omega)]
theorem sumF_nn {g : Nat → Int} : ∀ {n : Nat}, (∀ k, k < n → 0 ≤ g k) → 0 ≤ sumF n g := by
  intro n
  induction n with
  | zero => intro _; exact Int.le_refl 0
  | succ n ih =>
    intro h
    have h1 := ih fun k hk => h k (by omega)
    have h2 := h n (by omega)
    rw [sumF_succ]; omega
theorem sumF_le {g : Nat → Int} {M : Int} : ∀ {n : Nat}, (∀ k, k < n → g k ≤ M) → sumF n g ≤ M * n := by
  intro n
  induction n with
  | zero => intro _; simp [sumF]
  | succ n ih =>
    intro h
    have h1 := ih fun k hk => h k (by omega)
    have h2 := h n (by omega)
    rw [sumF_succ]
    have e : M * ((n + 1 : Nat) : Int) = M * (n : Int) + M := by rw [Int.natCast_add, Int.mul_add]; simp
    rw [e]; omega
theorem sumF_mono {g g' : Nat → Int} : ∀ {n : Nat}, (∀ k, k < n → g k ≤ g' k) → sumF n g ≤ sumF n g' := by
  intro n
  induction n with
  | zero => intro _; exact Int.le_refl 0
  | succ n ih =>
    intro h
    have h1 := ih fun k hk => h k (by omega)
    have h2 := h n (by omega)
    rw [sumF_succ, sumF_succ]; omega
theorem sumF_add (g g' : Nat → Int) : ∀ n : Nat, sumF n (fun k => g k + g' k) = sumF n g + sumF n g' := by
  intro n
  induction n with
  | zero => rfl
  | succ n ih => rw [sumF_succ, sumF_succ, sumF_succ, ih]; omega
theorem sumF_mul (c : Int) (g : Nat → Int) : ∀ n : Nat, sumF n (fun k => c * g k) = c * sumF n g := by
  intro n
  induction n with
  | zero => simp [sumF]
  | succ n ih => rw [sumF_succ, sumF_succ, ih, Int.mul_add]
theorem sumF_upd (g : Nat → Int) (j : Nat) (v : Int) : ∀ n : Nat, sumF n (fun k => if k = j then v else g k) = if j < n then sumF n g - g j + v else sumF n g := by
  intro n
  induction n with
  | zero => rfl
  | succ n ih =>
    rw [sumF_succ, sumF_succ, ih]
    by_cases h1 : n = j
    · subst h1
      simp
    · by_cases h2 : j < n
      · rw [if_pos h2, if_neg h1, if_pos (by omega)]; omega
      · rw [if_neg h2, if_neg h1, if_neg (by omega)]
/-- how many k < n have P -/
def cntF (n : Nat) (P : Nat → Bool) : Int := sumF n (fun k => if P k then 1 else 0)
/-- p / q > r / s, said without division -/
theorem mul_pos' {a b : Int} (ha : 0 < a) (hb : 0 < b) : 0 < a * b := Int.mul_pos ha hb
theorem mul_nn' {a b : Int} (ha : 0 ≤ a) (hb : 0 ≤ b) : 0 ≤ a * b := Int.mul_nonneg ha hb
theorem mul_le' {a b c d : Int} (h1 : a ≤ c) (h2 : b ≤ d) (ha : 0 ≤ b) (hc : 0 ≤ c) : a * b ≤ c * d := Int.le_trans (Int.mul_le_mul_of_nonneg_right h1 ha) (Int.mul_le_mul_of_nonneg_left h2 hc)
/-- one turn of Euclid: the whole parts are the same -/
theorem euc_step {p q r s : Int} (hq : 0 < q) (hs : 0 < s) (he : p / q = r / s) : (r * q < p * s ↔ (r % s) * q < (p % q) * s) ∧ (p * s < r * q ↔ (p % q) * s < (r % s) * q) := by
  have h1 := Int.emod_add_mul_ediv p q
  have h2 := Int.emod_add_mul_ediv r s
  have e1 : p * s = (p % q) * s + (p / q) * (q * s) := by
    conv => lhs; rw [← h1]
    rw [Int.add_mul, Int.mul_comm q (p / q), Int.mul_assoc]
  have e2 : r * q = (r % s) * q + (r / s) * (q * s) := by
    conv => lhs; rw [← h2]
    rw [Int.add_mul, Int.mul_comm s (r / s), Int.mul_assoc, Int.mul_comm s q]
  rw [e1, e2, he]
  omega
/-- the whole parts differ: they decide -/
theorem euc_end {p q r s : Int} (hq : 0 < q) (hs : 0 < s) (hne : ¬ p / q = r / s) : (r * q < p * s ↔ r / s < p / q) ∧ (p * s < r * q ↔ p / q < r / s) := by
  have key : ∀ {p q r s : Int}, 0 < q → 0 < s → r / s < p / q → r * q < p * s := by
    intro p q r s hq hs h
    have h1 := Int.emod_add_mul_ediv p q
    have h2 := Int.emod_add_mul_ediv r s
    have a1 := Int.emod_nonneg p (Int.ne_of_gt hq)
    have a2 := Int.emod_lt_of_pos r hs
    have b1 : r < s * (r / s + 1) := by rw [Int.mul_add]; omega
    have b2 : q * (p / q) ≤ p := by omega
    have c1 : r * q < s * (r / s + 1) * q := Int.mul_lt_mul_of_pos_right b1 hq
    have c2 : q * (p / q) * s ≤ p * s := Int.mul_le_mul_of_nonneg_right b2 (Int.le_of_lt hs)
    have c3 : s * (r / s + 1) * q ≤ q * (p / q) * s := by
      have d : r / s + 1 ≤ p / q := h
      have d1 : (r / s + 1) * (q * s) ≤ (p / q) * (q * s) := Int.mul_le_mul_of_nonneg_right d (Int.le_of_lt (Int.mul_pos hq hs))
      have f1 : s * (r / s + 1) * q = (r / s + 1) * (q * s) := by rw [Int.mul_comm s, Int.mul_assoc, Int.mul_comm s q]
      have f2 : q * (p / q) * s = (p / q) * (q * s) := by rw [Int.mul_comm q, Int.mul_assoc]
      rw [f1, f2]; exact d1
    omega
  have k1 := @key p q r s hq hs
  have k2 := @key r s p q hs hq
  constructor
  · constructor
    · intro h
      rcases Int.lt_trichotomy (r / s) (p / q) with z | z | z
      · exact z
      · exact absurd z.symm hne
      · have := k2 z; omega
    · exact k1
  · constructor
    · intro h
      rcases Int.lt_trichotomy (r / s) (p / q) with z | z | z
      · have := k1 z; omega
      · exact absurd z.symm hne
      · exact z
    · exact k2
/-- the least remainder is 0: it decides -/
theorem euc_zero {x y q s : Int} (hq : 0 < q) (hs : 0 < s) (hx : 0 ≤ x) (hy : 0 ≤ y) (h0 : x = 0 ∨ y = 0) : (y * q < x * s ↔ y < x) ∧ (x * s < y * q ↔ x < y) := by
  rcases h0 with h | h
  · subst h
    rw [Int.zero_mul]
    have h1 : 0 ≤ y * q := Int.mul_nonneg hy (Int.le_of_lt hq)
    refine ⟨by omega, ?_⟩
    constructor
    · intro h
      rcases Int.lt_or_eq_of_le hy with z | z
      · exact z
      · rw [← z, Int.zero_mul] at h; omega
    · intro h; exact Int.mul_pos h hq
  · subst h
    rw [Int.zero_mul]
    have h1 : 0 ≤ x * s := Int.mul_nonneg hx (Int.le_of_lt hs)
    refine ⟨?_, by omega⟩
    constructor
    · intro h
      rcases Int.lt_or_eq_of_le hx with z | z
      · exact z
      · rw [← z, Int.zero_mul] at h; omega
    · intro h; exact Int.mul_pos h hs
theorem tdiv_nn {a b : Int} (ha : 0 ≤ a) : a.tdiv b = a / b := Int.tdiv_eq_ediv_of_nonneg ha
theorem tmod_nn {a b : Int} (ha : 0 ≤ a) : a.tmod b = a % b := Int.tmod_eq_emod_of_nonneg ha
theorem ediv_le_self' {a b : Int} (ha : 0 ≤ a) (hb : 0 < b) : 0 ≤ a / b ∧ a / b ≤ a := ⟨Int.ediv_nonneg ha (Int.le_of_lt hb), Int.ediv_le_self b ha⟩
end
section
/-! Calls of methods that always return. -/
def rmV (lev c : Nat) : Room := { frames := 6 + lev, cells := c, slots := 8 * c, locals := 90 + 45 * lev }
def RetP (v : Option AV) (P : AH → Prop) : AO → AH → Prop := fun o h' => o = .inl v ∧ P h'
section CALL2
variable {x : MX} {w : XW} {rm : Room} {own : String} {cc : ByteArray} {nL : Nat} {ret : Option FieldType} {hx : List (Nat × Nat × Nat × Nat)} {cl : Bool} {cells slots pc : Nat} {Q : State → Prop} {lv : List (Nat × AV)} {st : List AV} {h h0 : AH}
variable {y : MethodName} {cY : ByteArray} {nY : Nat} {retY : Option FieldType} {hY : List (Nat × Nat × Nat × Nat)} {index n : Nat} {rmY : Room} {as : List AV} {st0 : List AV} {v : AV} {P : AH → Prop}
/-- a pure static method with an answer -/
theorem r_callSp (C : Cx x w rm own cc nL ret hx) (L : CLk own index y cY nY retY hY n) (hi : Cond.static y ∈ GW) (hM : AM x.l y (wsM y cY nY retY hY) true rmY w as h (Ret (some v) h)) (hn : as.length = n) (hst0 : as.reverse ++ st = st0) (hdg : decode cc pc = .ok (.invokestatic index, 3))
    (hrm : rmY.frames + 1 ≤ rm.frames ∧ 8 + (nY + 11) + rmY.locals ≤ rm.locals ∧ cells + rmY.cells ≤ rm.cells ∧ slots + rmY.slots ≤ rm.slots) (hst : nargs st ≤ 8)
    (k1 : AW x w nL cl cells slots Q (pc + 3) lv (v :: st) h) : AW x w nL cl cells slots Q pc lv st0 h := by
  refine r_callS C L hi hM hn hst0 hdg hrm hst (fun v' h' q => ?_) (fun k h' q => ?_)
  · obtain ⟨e1, e2⟩ := q
    cases e1; subst e2
    rw [Bool.and_true]
    exact k1
  · cases q.1
theorem r_callVp (C : Cx x w rm own cc nL ret hx) (L : CLk own index y cY nY retY hY n) (hi : Cond.instanceMethod y ∈ GW ∧ Cond.selects y.cls y y ∈ GW) {t i : Nat} (hk : kdT t = 0) {T0 : u_T} {N0 : Nat} (hcl : uCl[clT t]? = some (y.cls, T0, N0)) (hM : AM x.l y (wsM y cY nY retY hY) true rmY w (vO t i :: as) h (Ret (some v) h)) (hn : as.length = n) (hst0 : as.reverse ++ vO t i :: st = st0) (hdg : decode cc pc = .ok (.invokevirtual index, 3))
    (hrm : rmY.frames + 1 ≤ rm.frames ∧ 8 + (nY + 11) + rmY.locals ≤ rm.locals ∧ cells + rmY.cells ≤ rm.cells ∧ slots + rmY.slots ≤ rm.slots) (hst : nargs st ≤ 8)
    (k1 : AW x w nL cl cells slots Q (pc + 3) lv (v :: st) h) : AW x w nL cl cells slots Q pc lv st0 h := by
  refine r_callV C L hi hk hcl hM hn hst0 hdg hrm hst (fun v' h' q => ?_) (fun k h' q => ?_)
  · obtain ⟨e1, e2⟩ := q
    cases e1; subst e2
    rw [Bool.and_true]
    exact k1
  · cases q.1
/-- methods that write: their answer is v; of the heap behind them P holds -/
theorem r_callSw (C : Cx x w rm own cc nL ret hx) (L : CLk own index y cY nY retY hY n) (hi : Cond.static y ∈ GW) {v : Option AV} (hM : AM x.l y (wsM y cY nY retY hY) false rmY w as h (RetP v P)) (hn : as.length = n) (hst0 : as.reverse ++ st = st0) (hdg : decode cc pc = .ok (.invokestatic index, 3))
    (hrm : rmY.frames + 1 ≤ rm.frames ∧ 8 + (nY + 11) + rmY.locals ≤ rm.locals ∧ rmY.cells = 0 ∧ rmY.slots = 0) (hr2 : cells ≤ rm.cells ∧ slots ≤ rm.slots) (hst : nargs st ≤ 8)
    (k1 : ∀ h', P h' → AW x w nL false cells slots Q (pc + 3) lv (v.toList ++ st) h') : AW x w nL cl cells slots Q pc lv st0 h := by
  refine r_callS C L hi hM hn hst0 hdg ⟨hrm.1, hrm.2.1, by rw [hrm.2.2.1]; exact hr2.1, by rw [hrm.2.2.2]; exact hr2.2⟩ hst (fun v' h' q => ?_) (fun k h' q => ?_)
  · obtain ⟨e1, e2⟩ := q
    cases e1
    rw [Bool.and_false, hrm.2.2.1, hrm.2.2.2]
    exact k1 h' e2
  · cases q.1
theorem r_callVw (C : Cx x w rm own cc nL ret hx) (L : CLk own index y cY nY retY hY n) (hi : Cond.instanceMethod y ∈ GW ∧ Cond.selects y.cls y y ∈ GW) {t i : Nat} (hk : kdT t = 0) {T0 : u_T} {N0 : Nat} (hcl : uCl[clT t]? = some (y.cls, T0, N0)) {v : Option AV} (hM : AM x.l y (wsM y cY nY retY hY) false rmY w (vO t i :: as) h (RetP v P)) (hn : as.length = n) (hst0 : as.reverse ++ vO t i :: st = st0) (hdg : decode cc pc = .ok (.invokevirtual index, 3))
    (hrm : rmY.frames + 1 ≤ rm.frames ∧ 8 + (nY + 11) + rmY.locals ≤ rm.locals ∧ rmY.cells = 0 ∧ rmY.slots = 0) (hr2 : cells ≤ rm.cells ∧ slots ≤ rm.slots) (hst : nargs st ≤ 8)
    (k1 : ∀ h', P h' → AW x w nL false cells slots Q (pc + 3) lv (v.toList ++ st) h') : AW x w nL cl cells slots Q pc lv st0 h := by
  refine r_callV C L hi hk hcl hM hn hst0 hdg ⟨hrm.1, hrm.2.1, by rw [hrm.2.2.1]; exact hr2.1, by rw [hrm.2.2.2]; exact hr2.2⟩ hst (fun v' h' q => ?_) (fun k h' q => ?_)
  · obtain ⟨e1, e2⟩ := q
    cases e1
    rw [Bool.and_false, hrm.2.2.1, hrm.2.2.2]
    exact k1 h' e2
  · cases q.1
end CALL2
end
section
/-! Throwing a new exception with a text. -/
abbrev upN : List String := ["java/lang/RuntimeException", "java/lang/Exception"]
theorem HRep.old {w : XW} {h : AH} {H H' : Heap} (hR : HRep w h H) (hk : ∀ (a : Nat) (c : Cell), H[a]? = some c → H'[a]? = some c) : HRep w h H' := by
  intro t i hi
  have hc := hR t i hi
  have hq : ∃ c, H[w.1 t i]? = some c := by
    unfold cellR at hc
    split at hc
    · obtain ⟨cell, q, -⟩ := hc; exact ⟨cell, q⟩
    · exact ⟨_, hc⟩
  obtain ⟨c, hc1⟩ := hq
  exact cellR_kept hc (by rw [hk _ _ hc1, hc1]) fun _ => rfl
def TLk (own : String) (ix is ic k : Nat) (tx : String) : Prop := k < 4 ∧ Cond.classLink own ix (exN k) ∈ GW ∧ Cond.instantiable (exN k) 6 ∈ GW ∧ Cond.initialized (exN k) ∈ GW ∧ (own, is, tx) ∈ strL ∧
  (∀ a ∈ Bundle.ownAtoms own ic (exN k) upN, a ∈ GW ∨ (∃ Y ∈ upT, a = .declares (Bundle.initS Y)) ∨ a = .castable (exN k) (exN k) ∨ a = .laysStatic Bundle.tN "UNASSIGNED_STACK" Bundle.steD ∨ a = .laysStatic Bundle.tN "SUPPRESSED_SENTINEL" Bundle.listD ∨ a = .isRef (.static Bundle.tN "UNASSIGNED_STACK" Bundle.steD) ∨ a = .isRef (.static Bundle.tN "SUPPRESSED_SENTINEL" Bundle.listD)) ∧ Bundle.fit (exN k) = true
section THROW
variable {x : MX} {w : XW} {rm : Room} {own : String} {cc : ByteArray} {nL : Nat} {ret : Option FieldType} {pu : Bool} {mc ms pc : Nat} {lv : List (Nat × AV)} {st : List AV} {h : AH} {Qa : AO → AH → Prop}
theorem r_throw (C : Cx x w rm own cc nL ret []) {ix is ic k : Nat} {tx : String} (L : TLk own ix is ic k tx) (hd0 : decode cc pc = .ok (.new ix, 3)) (hd3 : decode cc (pc + 3) = .ok (.dup, 1)) (hd4 : decode cc (pc + 4) = .ok (.ldc is, 2)) (hd6 : decode cc (pc + 6) = .ok (.invokespecial ic, 3)) (hd9 : decode cc (pc + 9) = .ok (.athrow, 1))
    (hrm : 1 ≤ rm.cells ∧ 6 ≤ rm.slots ∧ 5 < rm.frames ∧ 90 ≤ rm.locals) (hc : 1 ≤ mc ∧ 6 ≤ ms) (hst : nargs st ≤ 4) (hq : Qa (.inr k) h) : AW x w nL true 0 0 (AQ x w pu mc ms Qa) pc lv st h := by
  intro hh hl hs H ls locs hR hv hS
  obtain ⟨rfl, rfl⟩ := hS
  obtain ⟨hk4, hcl, hin, hini, hstr, hat, hfit⟩ := L
  obtain ⟨p, l, e, R, s, m, args, below, meth, c⟩ := x
  have hRm : R = rm := C.ro
  subst hRm
  obtain ⟨q, hq0⟩ := C.kw.2.1 _ hstr
  intro T hT X
  obtain ⟨vm₁, cX, kX, hfX, hkX, -, -, X₁, st1⟩ := X.newCold C.ex C.ow (C.ws _ hcl) (C.ws _ hin) (C.ws _ hini) (g := F0 m pc ls (st.map (cV w))) rfl (by rw [C.by]; exact hd0) (by show 0 + 1 ≤ R.cells; omega) (by show 0 + 6 ≤ R.slots; omega)
  generalize hT1 : (T.setVm vm₁).pushCell { cls := cX, slots := kX.instanceTypes.map defaultValue, vm := .none } = T1 at X₁ st1
  have hcellA : T1.heap[T.heap.size]? = some (freshCell cX kX) := by rw [← hT1]; exact State.heap_pushCell_size _ _
  have fin : W p l e R s m args below meth c T1.heap [] 1 6 (AQ (p, l, e, R, s, m, args, below, meth, c) w pu mc ms Qa) (F0 m (pc + 6) ls (.ref q :: .ref T.heap.size :: .ref T.heap.size :: st.map (cV w))) := by
    intro T2 hT2 X2
    have hlocks : meth.locks = false := C.lk
    obtain ⟨U, hsteps, hrun, hend, hW, hsame, ce, hce, K⟩ := X2.ctorThrowS C.ex C.tr (cls := exN k) (names := upN) (ic := ic) C.ow hfit (by decide +kernel)
      (fun a ha => by
        rcases hat a ha with z | ⟨Y, hY, z⟩ | z | z | z | z | z
        · exact C.ws _ z
        · rw [z]; exact va_Nw.use rfl (C.kw.2.2.2.2.1.2 Y hY)
        · rw [z]; exact va_Nw.use rfl (C.kw.2.2.2.2.1.1 k hk4)
        · rw [z]; exact C.kw.2.2.1.lays _
        · rw [z]; exact C.kw.2.2.2.1.lays _
        · rw [z]; exact C.kw.2.2.1.isr _
        · rw [z]; exact C.kw.2.2.2.1.isr _) (fun z hz => by cases hz) hfX hkX (a := T.heap.size) (by rw [hT2]; exact hcellA) (by rw [hT]; exact Nat.le_refl _) (msg := .ref q) rfl
      (g := F0 m (pc + 6) ls (.ref q :: .ref T.heap.size :: .ref T.heap.size :: st.map (cV w))) rfl (by rw [C.ml]; exact hv.1) rfl rfl (rest := st.map (cV w)) rfl
      (by rw [C.by]; exact hd6) (by rw [C.by]; exact hd9) (by rw [C.tb]; intro z hz; cases hz) (by show 2 + 3 < R.frames; omega)
      (by
        have h5 : ((Value.ref T.heap.size :: st.map (cV w)).map fun v => v.category).sum = 1 + nargs st := by
          rw [← sum_cat w st]; rfl
        rw [h5]
        show 2 * 0 + (1 + nargs st) + (13 * (2 + 1) + 42) ≤ R.locals
        omega)
    have hold : ∀ (a : Nat) (c0 : Cell), s.heap[a]? = some c0 → U.heap[a]? = some c0 := fun a c0 h0 => hsame.old_cell h0
    refine ⟨U, hsteps, .threw T.heap.size, hrun, hend, ⟨.inr k, h, hq, hh, ⟨T.heap.size, rfl, ce, hce, by rw [K.vm]; rfl, by rw [hW.alike.findClass]; exact K.cls⟩, hR.old hold, hsame.2.1, fun a h1 _ => ?_⟩, hW, ⟨[], hsame.mono hc.1 hc.2, fun z hz => by cases hz⟩, fun _ v hv => by cases hv⟩
    obtain ⟨c0, h0⟩ : ∃ c0, s.heap[a]? = some c0 := ⟨_, Array.getElem?_eq_getElem h1⟩
    rw [hold a c0 h0, h0]
  have wk : W p l e R s m args below meth c T1.heap [] 1 6 (AQ (p, l, e, R, s, m, args, below, meth, c) w pu mc ms Qa) (F0 m (pc + 3) ls (.ref T.heap.size :: st.map (cV w))) := by
    refine lv_dup C.ex C.by hd3 rfl ?_
    refine va_ldcS C.ex C.by C.ow hq0 hd4 ?_
    exact fin
  obtain ⟨t, a1, b1⟩ := wk T1 rfl X₁
  exact ⟨t, st1 t a1, b1⟩
end THROW
end
section
/-! Throws of the class: their words. -/
set_option maxRecDepth 100000 in
theorem tb_0 : ∀ a ∈ Bundle.ownAtoms R_H 83 (exN 0) upN, (a ∈ tables_1 ∧ goodWord a = true) ∨ (∃ Y ∈ upT, a = .declares (Bundle.initS Y)) ∨ a = .castable (exN 0) (exN 0) ∨ a = .laysStatic Bundle.tN "UNASSIGNED_STACK" Bundle.steD ∨ a = .laysStatic Bundle.tN "SUPPRESSED_SENTINEL" Bundle.listD ∨ a = .isRef (.static Bundle.tN "UNASSIGNED_STACK" Bundle.steD) ∨ a = .isRef (.static Bundle.tN "SUPPRESSED_SENTINEL" Bundle.listD) := by decide +kernel
theorem ta_0 : ∀ a ∈ Bundle.ownAtoms R_H 83 (exN 0) upN, a ∈ GW ∨ (∃ Y ∈ upT, a = .declares (Bundle.initS Y)) ∨ a = .castable (exN 0) (exN 0) ∨ a = .laysStatic Bundle.tN "UNASSIGNED_STACK" Bundle.steD ∨ a = .laysStatic Bundle.tN "SUPPRESSED_SENTINEL" Bundle.listD ∨ a = .isRef (.static Bundle.tN "UNASSIGNED_STACK" Bundle.steD) ∨ a = .isRef (.static Bundle.tN "SUPPRESSED_SENTINEL" Bundle.listD) := fun a ha => (tb_0 a ha).imp (fun z => List.mem_filter.mpr ⟨List.mem_append_right _ z.1, z.2⟩) (fun z => z)
set_option maxRecDepth 100000 in
theorem tb_1 : ∀ a ∈ Bundle.ownAtoms R_H 106 (exN 1) upN, (a ∈ tables_1 ∧ goodWord a = true) ∨ (∃ Y ∈ upT, a = .declares (Bundle.initS Y)) ∨ a = .castable (exN 1) (exN 1) ∨ a = .laysStatic Bundle.tN "UNASSIGNED_STACK" Bundle.steD ∨ a = .laysStatic Bundle.tN "SUPPRESSED_SENTINEL" Bundle.listD ∨ a = .isRef (.static Bundle.tN "UNASSIGNED_STACK" Bundle.steD) ∨ a = .isRef (.static Bundle.tN "SUPPRESSED_SENTINEL" Bundle.listD) := by decide +kernel
theorem ta_1 : ∀ a ∈ Bundle.ownAtoms R_H 106 (exN 1) upN, a ∈ GW ∨ (∃ Y ∈ upT, a = .declares (Bundle.initS Y)) ∨ a = .castable (exN 1) (exN 1) ∨ a = .laysStatic Bundle.tN "UNASSIGNED_STACK" Bundle.steD ∨ a = .laysStatic Bundle.tN "SUPPRESSED_SENTINEL" Bundle.listD ∨ a = .isRef (.static Bundle.tN "UNASSIGNED_STACK" Bundle.steD) ∨ a = .isRef (.static Bundle.tN "SUPPRESSED_SENTINEL" Bundle.listD) := fun a ha => (tb_1 a ha).imp (fun z => List.mem_filter.mpr ⟨List.mem_append_right _ z.1, z.2⟩) (fun z => z)
set_option maxRecDepth 100000 in
theorem tb_2 : ∀ a ∈ Bundle.ownAtoms R_H 248 (exN 2) upN, (a ∈ tables_1 ∧ goodWord a = true) ∨ (∃ Y ∈ upT, a = .declares (Bundle.initS Y)) ∨ a = .castable (exN 2) (exN 2) ∨ a = .laysStatic Bundle.tN "UNASSIGNED_STACK" Bundle.steD ∨ a = .laysStatic Bundle.tN "SUPPRESSED_SENTINEL" Bundle.listD ∨ a = .isRef (.static Bundle.tN "UNASSIGNED_STACK" Bundle.steD) ∨ a = .isRef (.static Bundle.tN "SUPPRESSED_SENTINEL" Bundle.listD) := by decide +kernel
theorem ta_2 : ∀ a ∈ Bundle.ownAtoms R_H 248 (exN 2) upN, a ∈ GW ∨ (∃ Y ∈ upT, a = .declares (Bundle.initS Y)) ∨ a = .castable (exN 2) (exN 2) ∨ a = .laysStatic Bundle.tN "UNASSIGNED_STACK" Bundle.steD ∨ a = .laysStatic Bundle.tN "SUPPRESSED_SENTINEL" Bundle.listD ∨ a = .isRef (.static Bundle.tN "UNASSIGNED_STACK" Bundle.steD) ∨ a = .isRef (.static Bundle.tN "SUPPRESSED_SENTINEL" Bundle.listD) := fun a ha => (tb_2 a ha).imp (fun z => List.mem_filter.mpr ⟨List.mem_append_right _ z.1, z.2⟩) (fun z => z)
set_option maxRecDepth 100000 in
theorem tb_3 : ∀ a ∈ Bundle.ownAtoms R_H 93 (exN 3) upN, (a ∈ tables_1 ∧ goodWord a = true) ∨ (∃ Y ∈ upT, a = .declares (Bundle.initS Y)) ∨ a = .castable (exN 3) (exN 3) ∨ a = .laysStatic Bundle.tN "UNASSIGNED_STACK" Bundle.steD ∨ a = .laysStatic Bundle.tN "SUPPRESSED_SENTINEL" Bundle.listD ∨ a = .isRef (.static Bundle.tN "UNASSIGNED_STACK" Bundle.steD) ∨ a = .isRef (.static Bundle.tN "SUPPRESSED_SENTINEL" Bundle.listD) := by decide +kernel
theorem ta_3 : ∀ a ∈ Bundle.ownAtoms R_H 93 (exN 3) upN, a ∈ GW ∨ (∃ Y ∈ upT, a = .declares (Bundle.initS Y)) ∨ a = .castable (exN 3) (exN 3) ∨ a = .laysStatic Bundle.tN "UNASSIGNED_STACK" Bundle.steD ∨ a = .laysStatic Bundle.tN "SUPPRESSED_SENTINEL" Bundle.listD ∨ a = .isRef (.static Bundle.tN "UNASSIGNED_STACK" Bundle.steD) ∨ a = .isRef (.static Bundle.tN "SUPPRESSED_SENTINEL" Bundle.listD) := fun a ha => (tb_3 a ha).imp (fun z => List.mem_filter.mpr ⟨List.mem_append_right _ z.1, z.2⟩) (fun z => z)
theorem tl_H_flat_29 : TLk R_H 79 81 83 0 "area, water area or factor" := ⟨by decide, gwT 458 (by decide +kernel) (by decide +kernel), gwT 459 (by decide +kernel) (by decide +kernel), gwT 14 (by decide +kernel) (by decide +kernel), by decide +kernel, ta_0, by decide +kernel⟩
theorem tl_H_flat_51 : TLk R_H 89 91 93 3 "six flats" := ⟨by decide, gwT 527 (by decide +kernel) (by decide +kernel), gwT 528 (by decide +kernel) (by decide +kernel), gwT 15 (by decide +kernel) (by decide +kernel), by decide +kernel, ta_3, by decide +kernel⟩
theorem tl_H_reading_15 : TLk R_H 102 104 106 1 "time" := ⟨by decide, gwT 559 (by decide +kernel) (by decide +kernel), gwT 560 (by decide +kernel) (by decide +kernel), gwT 16 (by decide +kernel) (by decide +kernel), by decide +kernel, ta_1, by decide +kernel⟩
theorem tl_H_reading_35 : TLk R_H 79 107 83 0 "value" := ⟨by decide, gwT 458 (by decide +kernel) (by decide +kernel), gwT 459 (by decide +kernel) (by decide +kernel), gwT 14 (by decide +kernel) (by decide +kernel), by decide +kernel, ta_0, by decide +kernel⟩
theorem tl_H_enter_18 : TLk R_H 89 125 93 3 "twenty tenants" := ⟨by decide, gwT 527 (by decide +kernel) (by decide +kernel), gwT 528 (by decide +kernel) (by decide +kernel), gwT 15 (by decide +kernel) (by decide +kernel), by decide +kernel, ta_3, by decide +kernel⟩
theorem tl_H_deliver_22 : TLk R_H 79 134 83 0 "units or cents" := ⟨by decide, gwT 458 (by decide +kernel) (by decide +kernel), gwT 459 (by decide +kernel) (by decide +kernel), gwT 14 (by decide +kernel) (by decide +kernel), by decide +kernel, ta_0, by decide +kernel⟩
theorem tl_H_deliver_44 : TLk R_H 89 139 93 3 "twelve layers" := ⟨by decide, gwT 527 (by decide +kernel) (by decide +kernel), gwT 528 (by decide +kernel) (by decide +kernel), gwT 15 (by decide +kernel) (by decide +kernel), by decide +kernel, ta_3, by decide +kernel⟩
theorem tl_H_endStock_15 : TLk R_H 79 147 83 0 "units" := ⟨by decide, gwT 458 (by decide +kernel) (by decide +kernel), gwT 459 (by decide +kernel) (by decide +kernel), gwT 14 (by decide +kernel) (by decide +kernel), by decide +kernel, ta_0, by decide +kernel⟩
theorem tl_H_sideCosts_11 : TLk R_H 79 152 83 0 "cents" := ⟨by decide, gwT 458 (by decide +kernel) (by decide +kernel), gwT 459 (by decide +kernel) (by decide +kernel), gwT 14 (by decide +kernel) (by decide +kernel), by decide +kernel, ta_0, by decide +kernel⟩
theorem tl_H_water_20 : TLk R_H 79 155 83 0 "litres or gap" := ⟨by decide, gwT 458 (by decide +kernel) (by decide +kernel), gwT 459 (by decide +kernel) (by decide +kernel), gwT 14 (by decide +kernel) (by decide +kernel), by decide +kernel, ta_0, by decide +kernel⟩
theorem tl_H_permille_13 : TLk R_H 79 157 83 0 "permille" := ⟨by decide, gwT 458 (by decide +kernel) (by decide +kernel), gwT 459 (by decide +kernel) (by decide +kernel), gwT 14 (by decide +kernel) (by decide +kernel), by decide +kernel, ta_0, by decide +kernel⟩
theorem tl_H_degrees_10 : TLk R_H 102 159 106 1 "month" := ⟨by decide, gwT 559 (by decide +kernel) (by decide +kernel), gwT 560 (by decide +kernel) (by decide +kernel), gwT 16 (by decide +kernel) (by decide +kernel), by decide +kernel, ta_1, by decide +kernel⟩
theorem tl_H_degrees_30 : TLk R_H 79 161 83 0 "degrees" := ⟨by decide, gwT 458 (by decide +kernel) (by decide +kernel), gwT 459 (by decide +kernel) (by decide +kernel), gwT 14 (by decide +kernel) (by decide +kernel), by decide +kernel, ta_0, by decide +kernel⟩
theorem tl_H_prepay_32 : TLk R_H 79 152 83 0 "cents" := ⟨by decide, gwT 458 (by decide +kernel) (by decide +kernel), gwT 459 (by decide +kernel) (by decide +kernel), gwT 14 (by decide +kernel) (by decide +kernel), by decide +kernel, ta_0, by decide +kernel⟩
theorem tl_H_amount_18 : TLk R_H 102 205 106 1 "what" := ⟨by decide, gwT 559 (by decide +kernel) (by decide +kernel), gwT 560 (by decide +kernel) (by decide +kernel), gwT 16 (by decide +kernel) (by decide +kernel), by decide +kernel, ta_1, by decide +kernel⟩
theorem tl_H_part_13 : TLk R_H 102 205 106 1 "what" := ⟨by decide, gwT 559 (by decide +kernel) (by decide +kernel), gwT 560 (by decide +kernel) (by decide +kernel), gwT 16 (by decide +kernel) (by decide +kernel), by decide +kernel, ta_1, by decide +kernel⟩
theorem tl_H_needFlat_17 : TLk R_H 102 238 106 1 "flat" := ⟨by decide, gwT 559 (by decide +kernel) (by decide +kernel), gwT 560 (by decide +kernel) (by decide +kernel), gwT 16 (by decide +kernel) (by decide +kernel), by decide +kernel, ta_1, by decide +kernel⟩
theorem tl_H_needRoomForChange_15 : TLk R_H 102 104 106 1 "time" := ⟨by decide, gwT 559 (by decide +kernel) (by decide +kernel), gwT 560 (by decide +kernel) (by decide +kernel), gwT 16 (by decide +kernel) (by decide +kernel), by decide +kernel, ta_1, by decide +kernel⟩
theorem tl_H_needRoomForChange_41 : TLk R_H 244 246 248 2 "a change at that time" := ⟨by decide, gwT 590 (by decide +kernel) (by decide +kernel), gwT 591 (by decide +kernel) (by decide +kernel), gwT 17 (by decide +kernel) (by decide +kernel), by decide +kernel, ta_2, by decide +kernel⟩
theorem tl_H_needTenant_17 : TLk R_H 102 249 106 1 "tenant" := ⟨by decide, gwT 559 (by decide +kernel) (by decide +kernel), gwT 560 (by decide +kernel) (by decide +kernel), gwT 16 (by decide +kernel) (by decide +kernel), by decide +kernel, ta_1, by decide +kernel⟩
theorem tl_H_needTenantOrLandlord_17 : TLk R_H 102 249 106 1 "tenant" := ⟨by decide, gwT 559 (by decide +kernel) (by decide +kernel), gwT 560 (by decide +kernel) (by decide +kernel), gwT 16 (by decide +kernel) (by decide +kernel), by decide +kernel, ta_1, by decide +kernel⟩
theorem tl_H_needBill_7 : TLk R_H 244 251 248 2 "no bill" := ⟨by decide, gwT 590 (by decide +kernel) (by decide +kernel), gwT 591 (by decide +kernel) (by decide +kernel), gwT 17 (by decide +kernel) (by decide +kernel), by decide +kernel, ta_2, by decide +kernel⟩
/-- how a method ends that may throw: e is the exception's number, if any -/
def Out (e : Option Nat) (v : Option AV) (h : AH) (P : AH → Prop) : AO → AH → Prop := fun o h' => (∃ k, e = some k ∧ o = .inr k ∧ h' = h) ∨ (e = none ∧ o = .inl v ∧ P h')
theorem Out.thr {e : Option Nat} {v : Option AV} {h : AH} {P : AH → Prop} {k : Nat} (he : e = some k) : Out e v h P (.inr k) h := Or.inl ⟨k, he, rfl, rfl⟩
theorem Out.ret {e : Option Nat} {v : Option AV} {h h' : AH} {P : AH → Prop} (he : e = none) (hp : P h') : Out e v h P (.inl v) h' := Or.inr ⟨he, rfl, hp⟩
section CALL3
variable {x : MX} {w : XW} {rm : Room} {own : String} {cc : ByteArray} {nL : Nat} {ret : Option FieldType} {cl pu : Bool} {cells slots mc ms pc : Nat} {lv : List (Nat × AV)} {st : List AV} {h : AH} {Qa : AO → AH → Prop}
variable {y : MethodName} {cY : ByteArray} {nY : Nat} {retY : Option FieldType} {hY : List (Nat × Nat × Nat × Nat)} {index n : Nat} {rmY : Room} {as : List AV} {st0 : List AV} {v : Option AV} {e : Option Nat}
/-- a method that writes nothing and may throw, called where nothing is caught -/
theorem r_callVt (C : Cx x w rm own cc nL ret []) (L : CLk own index y cY nY retY hY n) (hi : Cond.instanceMethod y ∈ GW ∧ Cond.selects y.cls y y ∈ GW) {t i : Nat} (hk : kdT t = 0) {T0 : u_T} {N0 : Nat} (hcl : uCl[clT t]? = some (y.cls, T0, N0)) (hM : AM x.l y (wsM y cY nY retY hY) true rmY w (vO t i :: as) h (Out e v h (fun h' => h' = h))) (hn : as.length = n) (hst0 : as.reverse ++ vO t i :: st = st0) (hdg : decode cc pc = .ok (.invokevirtual index, 3))
    (hrm : rmY.frames + 1 ≤ rm.frames ∧ 8 + (nY + 11) + rmY.locals ≤ rm.locals ∧ cells + rmY.cells ≤ rm.cells ∧ slots + rmY.slots ≤ rm.slots) (hst : nargs st ≤ 8) (hc : cells + rmY.cells ≤ mc ∧ slots + rmY.slots ≤ ms)
    (hq : ∀ k, e = some k → Qa (.inr k) h) (k1 : e = none → AW x w nL cl cells slots (AQ x w pu mc ms Qa) (pc + 3) lv (v.toList ++ st) h) : AW x w nL cl cells slots (AQ x w pu mc ms Qa) pc lv st0 h := by
  refine r_callV C L hi hk hcl hM hn hst0 hdg hrm hst (fun v' h' q => ?_) (fun k h' q => ?_)
  · rcases q with ⟨k, -, q, -⟩ | ⟨e1, e2, e3⟩
    · cases q
    · cases e2; subst e3
      rw [Bool.and_true]
      exact k1 e1
  · rcases q with ⟨k', e1, q, e3⟩ | ⟨-, q, -⟩
    · cases q; subst e3
      exact t_out C (hq _ e1) hc
    · cases q
end CALL3
end
section
/-! Stretches of an array that hold one number; how a call of the reference ends. -/
def hfill (h : AH) (t i lo n : Nat) (v : Int) : AH := fun t' i' j' => if t' = t ∧ i' = i ∧ lo ≤ j' ∧ j' < lo + n then v else h t' i' j'
theorem hfill_zero (h : AH) (t i lo : Nat) (v : Int) : hfill h t i lo 0 v = h := by
  funext t' i' j'
  unfold hfill
  rw [if_neg (by omega)]
theorem hfill_succ (h : AH) (t i lo n : Nat) (v : Int) : hset (hfill h t i lo n v) t i (lo + n) v = hfill h t i lo (n + 1) v := by
  funext t' i' j'
  unfold hset hfill
  by_cases e : t' = t ∧ i' = i ∧ j' = lo + n
  · rw [if_pos e, if_pos (by omega)]
  · rw [if_neg e]
    by_cases e2 : t' = t ∧ i' = i ∧ lo ≤ j' ∧ j' < lo + n
    · rw [if_pos e2, if_pos (by omega)]
    · rw [if_neg e2, if_neg (by omega)]
theorem hfill_tag (h : AH) {t t' : Nat} (i lo n : Nat) (v : Int) (e : t' ≠ t) : hfill h t i lo n v t' = h t' := by
  funext i' j'
  unfold hfill
  rw [if_neg (by omega)]
theorem hset_fr (h : AH) {t t' : Nat} (i j : Nat) (v : Int) (e : t' ≠ t) : hset h t i j v t' = h t' := by
  funext i' j'
  unfold hset
  rw [if_neg (by omega)]
theorem hset_num (h : AH) {t i i' : Nat} (j : Nat) (v : Int) (e : i' ≠ i) : hset h t i j v t i' = h t i' := by
  funext j'
  unfold hset
  rw [if_neg (by omega)]
/-- E: what the reference writes down as thrown -/
def Rout (E : Int) (r0 r1 : Option AV) (h : AH) (P : AH → Prop) : AO → AH → Prop := fun o h' => (E ≠ 0 ∧ o = .inl r0 ∧ h' = hset h 40 0 0 E) ∨ (E = 0 ∧ o = .inl r1 ∧ P h')
theorem Rout.thr {E v : Int} {r0 r1 : Option AV} {h : AH} {P : AH → Prop} (hv : v = E) (h0 : v ≠ 0) : Rout E r0 r1 h P (.inl r0) (hset h 40 0 0 v) := by
  subst hv
  exact Or.inl ⟨h0, rfl, rfl⟩
theorem Rout.ret {E : Int} {r0 r1 : Option AV} {h h' : AH} {P : AH → Prop} (hv : 0 = E) (hp : P h') : Rout E r0 r1 h P (.inl r1) h' := Or.inr ⟨hv.symm, rfl, hp⟩
theorem hset_slot (h : AH) {t i j t' i' j' : Nat} (n : Int) (e : j' ≠ j) : hset h t i j n t' i' j' = h t' i' j' := if_neg fun q => e q.2.2
theorem hset_numb (h : AH) {t i j t' i' j' : Nat} (n : Int) (e : i' ≠ i) : hset h t i j n t' i' j' = h t' i' j' := if_neg fun q => e q.2.1
theorem hfill_tag3 (h : AH) {t i lo n t' i' j' : Nat} (v : Int) (e : t' ≠ t) : hfill h t i lo n v t' i' j' = h t' i' j' := if_neg fun q => e q.1
theorem Rout.retv {E : Int} {r0 r1 r : Option AV} {h h' : AH} {P : AH → Prop} (hv : 0 = E) (hr : r = r1) (hp : P h') : Rout E r0 r1 h P (.inl r) h' := Or.inr ⟨hv.symm, by rw [hr], hp⟩
end
section
/-! Contracts: leaves. -/
theorem sumF_int {g : Nat → Int} {i : Int} (hi : 0 ≤ i) : sumF (i + 1).toNat g = sumF i.toNat g + g i.toNat := by
  have e : (i + 1).toNat = i.toNat + 1 := by omega
  rw [e]; rfl
theorem vi_e {a b : Int} (h : a = b) : (Sum.inl (some (vI a)) : AO) = Sum.inl (some (vI b)) := by rw [h]
theorem vl_e {a b : Int} (h : a = b) : (Sum.inl (some (vL a)) : AO) = Sum.inl (some (vL b)) := by rw [h]
set_option maxHeartbeats 1000000 in
theorem c_H_isOutside {l : Launch} (hl : l.stackTraces = false) {w : XW} {h : AH} {a b c : Int} : AM l y_H_isOutside (wsM y_H_isOutside b_H_isOutside 3 (some .boolean) []) true (rmV 0 0) w [vI a, vI b, vI c] h (Ret (some (vI (if a < b ∨ c < a then 1 else 0))) h) := by
  refine AM.of hl (by decide +kernel) (Nat.le_of_ble_eq_true rfl) fun x hx C _ => ?_
  refine r_iload_n (i0 := 0) C d_H_isOutside_0 rfl rfl ?_
  refine r_iload_n (i0 := 1) C d_H_isOutside_1 rfl rfl ?_
  refine r_icmp_lt (tgt := 10) C d_H_isOutside_2 (by decide) (fun q2 => ?_) (fun q2 => ?_)
  · refine r_iconst C d_H_isOutside_10 (by decide) ?_
    refine r_goto (tgt := 15) C d_H_isOutside_11 (by decide) ?_
    exact r_zret C d_H_isOutside_15 (by omega) (⟨vi_e (by split <;> omega), rfl⟩) (by decide) (fun _ => ⟨rfl, rfl, rfl⟩)
  · refine r_iload_n (i0 := 0) C d_H_isOutside_5 rfl rfl ?_
    refine r_iload_n (i0 := 2) C d_H_isOutside_6 rfl rfl ?_
    refine r_icmp_le (tgt := 14) C d_H_isOutside_7 (by decide) (fun q7 => ?_) (fun q7 => ?_)
    · refine r_iconst C d_H_isOutside_14 (by decide) ?_
      exact r_zret C d_H_isOutside_15 (by omega) (⟨vi_e (by split <;> omega), rfl⟩) (by decide) (fun _ => ⟨rfl, rfl, rfl⟩)
    · refine r_iconst C d_H_isOutside_10 (by decide) ?_
      refine r_goto (tgt := 15) C d_H_isOutside_11 (by decide) ?_
      exact r_zret C d_H_isOutside_15 (by omega) (⟨vi_e (by split <;> omega), rfl⟩) (by decide) (fun _ => ⟨rfl, rfl, rfl⟩)
set_option maxHeartbeats 1000000 in
theorem c_R_within {l : Launch} (hl : l.stackTraces = false) {w : XW} {h : AH} {a b c : Int} : AM l y_R_within (wsM y_R_within b_R_within 3 (some .boolean) []) true (rmV 0 0) w [vI a, vI b, vI c] h (Ret (some (vI (if b ≤ a ∧ a ≤ c then 1 else 0))) h) := by
  refine AM.of hl (by decide +kernel) (Nat.le_of_ble_eq_true rfl) fun x hx C _ => ?_
  refine r_iload_n (i0 := 0) C d_R_within_0 rfl rfl ?_
  refine r_iload_n (i0 := 1) C d_R_within_1 rfl rfl ?_
  refine r_icmp_lt (tgt := 14) C d_R_within_2 (by decide) (fun q2 => ?_) (fun q2 => ?_)
  · refine r_iconst C d_R_within_14 (by decide) ?_
    exact r_zret C d_R_within_15 (by omega) (⟨vi_e (by split <;> omega), rfl⟩) (by decide) (fun _ => ⟨rfl, rfl, rfl⟩)
  · refine r_iload_n (i0 := 0) C d_R_within_5 rfl rfl ?_
    refine r_iload_n (i0 := 2) C d_R_within_6 rfl rfl ?_
    refine r_icmp_gt (tgt := 14) C d_R_within_7 (by decide) (fun q7 => ?_) (fun q7 => ?_)
    · refine r_iconst C d_R_within_14 (by decide) ?_
      exact r_zret C d_R_within_15 (by omega) (⟨vi_e (by split <;> omega), rfl⟩) (by decide) (fun _ => ⟨rfl, rfl, rfl⟩)
    · refine r_iconst C d_R_within_10 (by decide) ?_
      refine r_goto (tgt := 15) C d_R_within_11 (by decide) ?_
      exact r_zret C d_R_within_15 (by omega) (⟨vi_e (by split <;> omega), rfl⟩) (by decide) (fun _ => ⟨rfl, rfl, rfl⟩)
set_option maxHeartbeats 1000000 in
theorem c_R_isFlat {l : Launch} (hl : l.stackTraces = false) {w : XW} {h : AH} {a : Int} : AM l y_R_isFlat (wsM y_R_isFlat b_R_isFlat 2 (some .boolean) []) true (rmV 0 0) w [vO 40 0, vI a] h (Ret (some (vI (if 0 ≤ a ∧ a < h 40 0 1 then 1 else 0))) h) := by
  refine AM.of hl (by decide +kernel) (Nat.le_of_ble_eq_true rfl) fun x hx C _ => ?_
  refine r_iload_n (i0 := 1) C d_R_isFlat_0 rfl rfl ?_
  refine r_if_lt (tgt := 16) C d_R_isFlat_1 (by decide) (fun q1 => ?_) (fun q1 => ?_)
  · refine r_iconst C d_R_isFlat_16 (by decide) ?_
    exact r_zret C d_R_isFlat_17 (by omega) (⟨vi_e (by split <;> omega), rfl⟩) (by decide) (fun _ => ⟨rfl, rfl, rfl⟩)
  · refine r_iload_n (i0 := 1) C d_R_isFlat_4 rfl rfl ?_
    refine r_aload_n (i0 := 0) C d_R_isFlat_5 rfl rfl ?_
    refine r_getI C fl_R_88 d_R_isFlat_6 rfl ?_
    refine r_icmp_ge (tgt := 16) C d_R_isFlat_9 (by decide) (fun q9 => ?_) (fun q9 => ?_)
    · refine r_iconst C d_R_isFlat_16 (by decide) ?_
      exact r_zret C d_R_isFlat_17 (by omega) (⟨vi_e (by split <;> omega), rfl⟩) (by decide) (fun _ => ⟨rfl, rfl, rfl⟩)
    · refine r_iconst C d_R_isFlat_12 (by decide) ?_
      refine r_goto (tgt := 17) C d_R_isFlat_13 (by decide) ?_
      exact r_zret C d_R_isFlat_17 (by omega) (⟨vi_e (by split <;> omega), rfl⟩) (by decide) (fun _ => ⟨rfl, rfl, rfl⟩)
set_option maxHeartbeats 1000000 in
theorem c_R_isTenant {l : Launch} (hl : l.stackTraces = false) {w : XW} {h : AH} {a : Int} : AM l y_R_isTenant (wsM y_R_isTenant b_R_isTenant 2 (some .boolean) []) true (rmV 0 0) w [vO 40 0, vI a] h (Ret (some (vI (if 0 ≤ a ∧ a < h 40 0 9 then 1 else 0))) h) := by
  refine AM.of hl (by decide +kernel) (Nat.le_of_ble_eq_true rfl) fun x hx C _ => ?_
  refine r_iload_n (i0 := 1) C d_R_isTenant_0 rfl rfl ?_
  refine r_if_lt (tgt := 16) C d_R_isTenant_1 (by decide) (fun q1 => ?_) (fun q1 => ?_)
  · refine r_iconst C d_R_isTenant_16 (by decide) ?_
    exact r_zret C d_R_isTenant_17 (by omega) (⟨vi_e (by split <;> omega), rfl⟩) (by decide) (fun _ => ⟨rfl, rfl, rfl⟩)
  · refine r_iload_n (i0 := 1) C d_R_isTenant_4 rfl rfl ?_
    refine r_aload_n (i0 := 0) C d_R_isTenant_5 rfl rfl ?_
    refine r_getI C fl_R_91 d_R_isTenant_6 rfl ?_
    refine r_icmp_ge (tgt := 16) C d_R_isTenant_9 (by decide) (fun q9 => ?_) (fun q9 => ?_)
    · refine r_iconst C d_R_isTenant_16 (by decide) ?_
      exact r_zret C d_R_isTenant_17 (by omega) (⟨vi_e (by split <;> omega), rfl⟩) (by decide) (fun _ => ⟨rfl, rfl, rfl⟩)
    · refine r_iconst C d_R_isTenant_12 (by decide) ?_
      refine r_goto (tgt := 17) C d_R_isTenant_13 (by decide) ?_
      exact r_zret C d_R_isTenant_17 (by omega) (⟨vi_e (by split <;> omega), rfl⟩) (by decide) (fun _ => ⟨rfl, rfl, rfl⟩)
set_option maxHeartbeats 1000000 in
theorem c_J_maxI {l : Launch} (hl : l.stackTraces = false) {w : XW} {h : AH} {a b : Int} : AM l y_J_maxI (wsM y_J_maxI b_J_maxI 2 (some .int) []) true (rmV 0 0) w [vI a, vI b] h (Ret (some (vI (if a < b then b else a))) h) := by
  refine AM.of hl (by decide +kernel) (Nat.le_of_ble_eq_true rfl) fun x hx C _ => ?_
  refine r_iload_n (i0 := 0) C d_J_maxI_0 rfl rfl ?_
  refine r_iload_n (i0 := 1) C d_J_maxI_1 rfl rfl ?_
  refine r_icmp_lt (tgt := 9) C d_J_maxI_2 (by decide) (fun q2 => ?_) (fun q2 => ?_)
  · refine r_iload_n (i0 := 1) C d_J_maxI_9 rfl rfl ?_
    exact r_iret C d_J_maxI_10 (fun _ => ⟨vi_e (by split <;> omega), rfl⟩) (by decide) (fun _ => ⟨rfl, rfl, rfl⟩)
  · refine r_iload_n (i0 := 0) C d_J_maxI_5 rfl rfl ?_
    refine r_goto (tgt := 10) C d_J_maxI_6 (by decide) ?_
    exact r_iret C d_J_maxI_10 (fun _ => ⟨vi_e (by split <;> omega), rfl⟩) (by decide) (fun _ => ⟨rfl, rfl, rfl⟩)
set_option maxHeartbeats 1000000 in
theorem c_J_minI {l : Launch} (hl : l.stackTraces = false) {w : XW} {h : AH} {a b : Int} : AM l y_J_minI (wsM y_J_minI b_J_minI 2 (some .int) []) true (rmV 0 0) w [vI a, vI b] h (Ret (some (vI (if b < a then b else a))) h) := by
  refine AM.of hl (by decide +kernel) (Nat.le_of_ble_eq_true rfl) fun x hx C _ => ?_
  refine r_iload_n (i0 := 0) C d_J_minI_0 rfl rfl ?_
  refine r_iload_n (i0 := 1) C d_J_minI_1 rfl rfl ?_
  refine r_icmp_gt (tgt := 9) C d_J_minI_2 (by decide) (fun q2 => ?_) (fun q2 => ?_)
  · refine r_iload_n (i0 := 1) C d_J_minI_9 rfl rfl ?_
    exact r_iret C d_J_minI_10 (fun _ => ⟨vi_e (by split <;> omega), rfl⟩) (by decide) (fun _ => ⟨rfl, rfl, rfl⟩)
  · refine r_iload_n (i0 := 0) C d_J_minI_5 rfl rfl ?_
    refine r_goto (tgt := 10) C d_J_minI_6 (by decide) ?_
    exact r_iret C d_J_minI_10 (fun _ => ⟨vi_e (by split <;> omega), rfl⟩) (by decide) (fun _ => ⟨rfl, rfl, rfl⟩)
set_option maxHeartbeats 1000000 in
theorem c_J_minJ {l : Launch} (hl : l.stackTraces = false) {w : XW} {h : AH} {a b : Int} : AM l y_J_minJ (wsM y_J_minJ b_J_minJ 4 (some .long) []) true (rmV 0 0) w [vL a, vL b] h (Ret (some (vL (if b < a then b else a))) h) := by
  refine AM.of hl (by decide +kernel) (Nat.le_of_ble_eq_true rfl) fun x hx C _ => ?_
  refine r_lload_n (i0 := 0) C d_J_minJ_0 rfl rfl ?_
  refine r_lload_n (i0 := 2) C d_J_minJ_1 rfl rfl ?_
  refine r_lcmp_gt (tgt := 10) C d_J_minJ_2 d_J_minJ_3 (by decide) (fun q2 => ?_) (fun q2 => ?_)
  · refine r_lload_n (i0 := 2) C d_J_minJ_10 rfl rfl ?_
    exact r_lret C d_J_minJ_11 (fun _ => ⟨vl_e (by split <;> omega), rfl⟩) (by decide) (fun _ => ⟨rfl, rfl, rfl⟩)
  · refine r_lload_n (i0 := 0) C d_J_minJ_6 rfl rfl ?_
    refine r_goto (tgt := 11) C d_J_minJ_7 (by decide) ?_
    exact r_lret C d_J_minJ_11 (fun _ => ⟨vl_e (by split <;> omega), rfl⟩) (by decide) (fun _ => ⟨rfl, rfl, rfl⟩)
set_option maxHeartbeats 1000000 in
theorem c_R_thrown {l : Launch} (hl : l.stackTraces = false) {w : XW} {h : AH}  : AM l y_R_thrown (wsM y_R_thrown b_R_thrown 1 (some .int) []) true (rmV 0 0) w [vO 40 0] h (Ret (some (vI (h 40 0 0))) h) := by
  refine AM.of hl (by decide +kernel) (Nat.le_of_ble_eq_true rfl) fun x hx C _ => ?_
  refine r_aload_n (i0 := 0) C d_R_thrown_0 rfl rfl ?_
  refine r_getI C fl_R_85 d_R_thrown_1 rfl ?_
  exact r_iret C d_R_thrown_4 (fun _ => ⟨rfl, rfl⟩) (by decide) (fun _ => ⟨rfl, rfl, rfl⟩)
set_option maxHeartbeats 1000000 in
theorem c_U_allUnits {l : Launch} (hl : l.stackTraces = false) {w : XW} {h : AH} (hn : 0 ≤ h 7 0 2 ∧ h 7 0 2 ≤ 12) (hu : ∀ k : Nat, (k : Int) < h 7 0 2 → 0 ≤ h 8 0 k ∧ h 8 0 k ≤ 1000) : AM l y_U_allUnits (wsM y_U_allUnits b_U_allUnits 3 (some .int) []) true (rmV 0 0) w [vO 7 0] h (Ret (some (vI (sumF (h 7 0 2).toNat (h 8 0)))) h) := by
  refine AM.of hl (by decide +kernel) (Nat.le_of_ble_eq_true rfl) fun x hx C _ => ?_
  have loop : ∀ (m : Nat) (i : Int), 0 ≤ i → i ≤ h 7 0 2 → (h 7 0 2 - i).toNat = m → AW x w 3 true 0 0 (AQ x w true 0 0 (Ret (some (vI (sumF (h 7 0 2).toNat (h 8 0)))) h)) 4 [(2, vI i), (1, vI (sumF i.toNat (h 8 0))), (0, vO 7 0)] [] h := by
    intro m
    induction m using Nat.strongRecOn with
    | _ m ih =>
    intro i hi0 hi1 hm
    refine r_iload_n (i0 := 2) C d_U_allUnits_4 rfl rfl ?_
    refine r_aload_n (i0 := 0) C d_U_allUnits_5 rfl rfl ?_
    refine r_getI C fl_U_18 d_U_allUnits_6 rfl ?_
    refine r_icmp_ge (tgt := 27) C d_U_allUnits_9 (by decide) (fun q9 => ?_) (fun q9 => ?_)
    · refine r_iload_n (i0 := 1) C d_U_allUnits_27 rfl rfl ?_
      exact r_iret C d_U_allUnits_28 (fun _ => ⟨vi_e (by have e : i.toNat = (h 7 0 2).toNat := (by omega); rw [e]), rfl⟩) (by decide) (fun _ => ⟨rfl, rfl, rfl⟩)
    · refine r_iload_n (i0 := 1) C d_U_allUnits_12 rfl rfl ?_
      refine r_aload_n (i0 := 0) C d_U_allUnits_13 rfl rfl ?_
      refine r_getO C fl_U_9 d_U_allUnits_14 rfl rfl (fun hi => hi) ?_
      refine r_iload_n (i0 := 2) C d_U_allUnits_17 rfl rfl ?_
      refine r_iaload (ln := 12) C d_U_allUnits_18 rfl (fun _ => rfl) rfl (by omega) ?_
      refine r_iadd C d_U_allUnits_19 (by have b1 := sumF_nn (n := i.toNat) (g := h 8 0) (fun k hk => by have := hu k (by omega); omega); have b2 := sumF_le (n := i.toNat) (g := h 8 0) (M := 1000) (fun k hk => by have := hu k (by omega); omega); have b3 := hu i.toNat (by omega); omega) ?_
      refine r_istore_n (i0 := 1) C d_U_allUnits_20 rfl (by decide) ?_
      refine r_iinc C d_U_allUnits_21 rfl (by decide) (by omega) ?_
      refine r_goto (tgt := 4) C d_U_allUnits_24 (by decide) ?_
      rw [← sumF_int hi0]
      exact ih (m - 1) (by omega) (i + 1) (by omega) (by omega) (by omega)
  refine r_iconst C d_U_allUnits_0 (by decide) ?_
  refine r_istore_n (i0 := 1) C d_U_allUnits_1 rfl (by decide) ?_
  refine r_iconst C d_U_allUnits_2 (by decide) ?_
  refine r_istore_n (i0 := 2) C d_U_allUnits_3 rfl (by decide) ?_
  exact loop _ 0 (by omega) (by omega) rfl
set_option maxHeartbeats 1000000 in
theorem c_R_allUnits {l : Launch} (hl : l.stackTraces = false) {w : XW} {h : AH} (hn : 0 ≤ h 40 0 10 ∧ h 40 0 10 ≤ 12) (hu : ∀ k : Nat, (k : Int) < h 40 0 10 → 0 ≤ h 48 0 k ∧ h 48 0 k ≤ 1000) : AM l y_R_allUnits (wsM y_R_allUnits b_R_allUnits 3 (some .int) []) true (rmV 0 0) w [vO 40 0] h (Ret (some (vI (sumF (h 40 0 10).toNat (h 48 0)))) h) := by
  refine AM.of hl (by decide +kernel) (Nat.le_of_ble_eq_true rfl) fun x hx C _ => ?_
  have loop : ∀ (m : Nat) (i : Int), 0 ≤ i → i ≤ h 40 0 10 → (h 40 0 10 - i).toNat = m → AW x w 3 true 0 0 (AQ x w true 0 0 (Ret (some (vI (sumF (h 40 0 10).toNat (h 48 0)))) h)) 4 [(2, vI i), (1, vI (sumF i.toNat (h 48 0))), (0, vO 40 0)] [] h := by
    intro m
    induction m using Nat.strongRecOn with
    | _ m ih =>
    intro i hi0 hi1 hm
    refine r_iload_n (i0 := 2) C d_R_allUnits_4 rfl rfl ?_
    refine r_aload_n (i0 := 0) C d_R_allUnits_5 rfl rfl ?_
    refine r_getI C fl_R_110 d_R_allUnits_6 rfl ?_
    refine r_icmp_ge (tgt := 27) C d_R_allUnits_9 (by decide) (fun q9 => ?_) (fun q9 => ?_)
    · refine r_iload_n (i0 := 1) C d_R_allUnits_27 rfl rfl ?_
      exact r_iret C d_R_allUnits_28 (fun _ => ⟨vi_e (by have e : i.toNat = (h 40 0 10).toNat := (by omega); rw [e]), rfl⟩) (by decide) (fun _ => ⟨rfl, rfl, rfl⟩)
    · refine r_iload_n (i0 := 1) C d_R_allUnits_12 rfl rfl ?_
      refine r_aload_n (i0 := 0) C d_R_allUnits_13 rfl rfl ?_
      refine r_getO C fl_R_31 d_R_allUnits_14 rfl rfl (fun hi => hi) ?_
      refine r_iload_n (i0 := 2) C d_R_allUnits_17 rfl rfl ?_
      refine r_iaload (ln := 12) C d_R_allUnits_18 rfl (fun _ => rfl) rfl (by omega) ?_
      refine r_iadd C d_R_allUnits_19 (by have b1 := sumF_nn (n := i.toNat) (g := h 48 0) (fun k hk => by have := hu k (by omega); omega); have b2 := sumF_le (n := i.toNat) (g := h 48 0) (M := 1000) (fun k hk => by have := hu k (by omega); omega); have b3 := hu i.toNat (by omega); omega) ?_
      refine r_istore_n (i0 := 1) C d_R_allUnits_20 rfl (by decide) ?_
      refine r_iinc C d_R_allUnits_21 rfl (by decide) (by omega) ?_
      refine r_goto (tgt := 4) C d_R_allUnits_24 (by decide) ?_
      rw [← sumF_int hi0]
      exact ih (m - 1) (by omega) (i + 1) (by omega) (by omega) (by omega)
  refine r_iconst C d_R_allUnits_0 (by decide) ?_
  refine r_istore_n (i0 := 1) C d_R_allUnits_1 rfl (by decide) ?_
  refine r_iconst C d_R_allUnits_2 (by decide) ?_
  refine r_istore_n (i0 := 2) C d_R_allUnits_3 rfl (by decide) ?_
  exact loop _ 0 (by omega) (by omega) rfl
end
section
/-! Contracts: the checks of the class, and what writes little. -/
set_option maxHeartbeats 1000000 in
theorem c_H_needFlat {l : Launch} (hl : l.stackTraces = false) {w : XW} {h : AH} {a : Int} (hc : 0 ≤ h 2 0 1 ∧ h 2 0 1 ≤ 6) : AM l y_H_needFlat (wsM y_H_needFlat b_H_needFlat 2 none []) true (rmV 1 1) w [vO 1 0, vI a] h (Out (if a < 0 ∨ h 2 0 1 ≤ a then some 1 else none) none h (fun h' => h' = h)) := by
  refine AM.of hl (by decide +kernel) (Nat.le_of_ble_eq_true rfl) fun x hx C _ => ?_
  refine r_iload_n (i0 := 1) C d_H_needFlat_0 rfl rfl ?_
  refine r_iconst C d_H_needFlat_1 (by decide) ?_
  refine r_aload_n (i0 := 0) C d_H_needFlat_2 rfl rfl ?_
  refine r_getO C fl_H_12 d_H_needFlat_3 rfl rfl (fun hi => hi) ?_
  refine r_getI C fl_H_86 d_H_needFlat_6 rfl ?_
  refine r_iconst C d_H_needFlat_9 (by decide) ?_
  refine r_isub C d_H_needFlat_10 (by omega) ?_
  refine r_callSp C cl_H_75 st_H_isOutside (c_H_isOutside hx) rfl rfl d_H_needFlat_11 (by decide) (Nat.le_of_ble_eq_true rfl) ?_
  refine r_if_eq (tgt := 27) C d_H_needFlat_14 (by decide) (fun q14 => ?_) (fun q14 => ?_)
  · exact r_vret C d_H_needFlat_27 (Out.ret (by (repeat' split) <;> first | rfl | omega) rfl) (by decide) (fun _ => ⟨rfl, rfl, rfl⟩)
  · exact r_throw C tl_H_needFlat_17 d_H_needFlat_17 d_H_needFlat_20 d_H_needFlat_21 d_H_needFlat_23 d_H_needFlat_26 (by decide) (by decide) (Nat.le_of_ble_eq_true rfl) (Out.thr (by (repeat' split) <;> first | rfl | omega))
set_option maxHeartbeats 1000000 in
theorem c_F_hasChange {l : Launch} (hl : l.stackTraces = false) {w : XW} {h : AH} {f : Nat} {a : Int} (ha : 0 ≤ a ∧ a < 12) : AM l y_F_hasChange (wsM y_F_hasChange b_F_hasChange 2 (some .boolean) []) true (rmV 0 0) w [vO 4 f, vI a] h (Ret (some (vI (if h 6 f a.toNat = -2 then 0 else 1))) h) := by
  refine AM.of hl (by decide +kernel) (Nat.le_of_ble_eq_true rfl) fun x hx C _ => ?_
  refine r_aload_n (i0 := 0) C d_F_hasChange_0 rfl rfl ?_
  refine r_getO C fl_F_31 d_F_hasChange_1 rfl rfl (fun hi => hi) ?_
  refine r_iload_n (i0 := 1) C d_F_hasChange_4 rfl rfl ?_
  refine r_iaload (ln := 12) C d_F_hasChange_5 rfl (fun _ => rfl) rfl (by omega) ?_
  refine r_bipush C d_F_hasChange_6 (by decide) (by decide) ?_
  refine r_icmp_eq (tgt := 15) C d_F_hasChange_8 (by decide) (fun q8 => ?_) (fun q8 => ?_)
  · refine r_iconst C d_F_hasChange_15 (by decide) ?_
    exact r_zret C d_F_hasChange_16 (by omega) (⟨vi_e (by split <;> omega), rfl⟩) (by decide) (fun _ => ⟨rfl, rfl, rfl⟩)
  · refine r_iconst C d_F_hasChange_11 (by decide) ?_
    refine r_goto (tgt := 16) C d_F_hasChange_12 (by decide) ?_
    exact r_zret C d_F_hasChange_16 (by omega) (⟨vi_e (by split <;> omega), rfl⟩) (by decide) (fun _ => ⟨rfl, rfl, rfl⟩)
set_option maxHeartbeats 1000000 in
theorem c_H_needRoomForChange {l : Launch} (hl : l.stackTraces = false) {w : XW} {h : AH} {a b : Int} (hc : 0 ≤ h 2 0 1 ∧ h 2 0 1 ≤ 6) : AM l y_H_needRoomForChange (wsM y_H_needRoomForChange b_H_needRoomForChange 3 none []) true (rmV 2 1) w [vO 1 0, vI a, vI b] h (Out (if a < 0 ∨ h 2 0 1 ≤ a then some 1 else if b < 0 ∨ 11 < b then some 1 else if h 6 a.toNat b.toNat = -2 then none else some 2) none h (fun h' => h' = h)) := by
  refine AM.of hl (by decide +kernel) (Nat.le_of_ble_eq_true rfl) fun x hx C _ => ?_
  refine r_aload_n (i0 := 0) C d_H_needRoomForChange_0 rfl rfl ?_
  refine r_iload_n (i0 := 1) C d_H_needRoomForChange_1 rfl rfl ?_
  refine r_callVt C cl_H_98 im_H_needFlat rfl rfl (c_H_needFlat hx hc) rfl rfl d_H_needRoomForChange_2 (by decide) (Nat.le_of_ble_eq_true rfl) (by decide) (fun k hk => Out.thr (by by_cases z : a < 0 ∨ h 2 0 1 ≤ a <;> simp [z] at hk ⊢; exact hk)) (fun e2 => ?_)
  have e2n : ¬ (a < 0 ∨ h 2 0 1 ≤ a) := fun z => by rw [if_pos z] at e2; cases e2
  refine r_iload_n (i0 := 2) C d_H_needRoomForChange_5 rfl rfl ?_
  refine r_iconst C d_H_needRoomForChange_6 (by decide) ?_
  refine r_bipush C d_H_needRoomForChange_7 (by decide) (by decide) ?_
  refine r_callSp C cl_H_75 st_H_isOutside (c_H_isOutside hx) rfl rfl d_H_needRoomForChange_9 (by decide) (Nat.le_of_ble_eq_true rfl) ?_
  refine r_if_eq (tgt := 25) C d_H_needRoomForChange_12 (by decide) (fun q12 => ?_) (fun q12 => ?_)
  · refine r_aload_n (i0 := 0) C d_H_needRoomForChange_25 rfl rfl ?_
    refine r_getO C fl_H_12 d_H_needRoomForChange_26 rfl rfl (fun hi => hi) ?_
    refine r_getO C fl_H_109 d_H_needRoomForChange_29 rfl rfl (fun hi => hi) ?_
    refine r_iload_n (i0 := 1) C d_H_needRoomForChange_32 rfl rfl ?_
    refine r_aaF C d_H_needRoomForChange_33 (by omega) ?_
    refine r_iload_n (i0 := 2) C d_H_needRoomForChange_34 rfl rfl ?_
    refine r_callVp C cl_H_240 im_F_hasChange rfl rfl (c_F_hasChange hx (by omega)) rfl rfl d_H_needRoomForChange_35 (by decide) (Nat.le_of_ble_eq_true rfl) ?_
    refine r_if_eq (tgt := 51) C d_H_needRoomForChange_38 (by decide) (fun q38 => ?_) (fun q38 => ?_)
    · exact r_vret C d_H_needRoomForChange_51 (Out.ret (by (repeat' split) <;> first | rfl | omega) rfl) (by decide) (fun _ => ⟨rfl, rfl, rfl⟩)
    · exact r_throw C tl_H_needRoomForChange_41 d_H_needRoomForChange_41 d_H_needRoomForChange_44 d_H_needRoomForChange_45 d_H_needRoomForChange_47 d_H_needRoomForChange_50 (by decide) (by decide) (Nat.le_of_ble_eq_true rfl) (Out.thr (by (repeat' split) <;> first | rfl | omega))
  · exact r_throw C tl_H_needRoomForChange_15 d_H_needRoomForChange_15 d_H_needRoomForChange_18 d_H_needRoomForChange_19 d_H_needRoomForChange_21 d_H_needRoomForChange_24 (by decide) (by decide) (Nat.le_of_ble_eq_true rfl) (Out.thr (by (repeat' split) <;> first | rfl | omega))
set_option maxHeartbeats 1000000 in
theorem c_H_needTenant {l : Launch} (hl : l.stackTraces = false) {w : XW} {h : AH} {a : Int} (ht : 0 ≤ h 23 0 4 ∧ h 23 0 4 ≤ 20) : AM l y_H_needTenant (wsM y_H_needTenant b_H_needTenant 2 none []) true (rmV 1 1) w [vO 1 0, vI a] h (Out (if a < 0 ∨ h 23 0 4 ≤ a then some 1 else none) none h (fun h' => h' = h)) := by
  refine AM.of hl (by decide +kernel) (Nat.le_of_ble_eq_true rfl) fun x hx C _ => ?_
  refine r_iload_n (i0 := 1) C d_H_needTenant_0 rfl rfl ?_
  refine r_iconst C d_H_needTenant_1 (by decide) ?_
  refine r_aload_n (i0 := 0) C d_H_needTenant_2 rfl rfl ?_
  refine r_getO C fl_H_47 d_H_needTenant_3 rfl rfl (fun hi => hi) ?_
  refine r_getI C fl_H_122 d_H_needTenant_6 rfl ?_
  refine r_iconst C d_H_needTenant_9 (by decide) ?_
  refine r_isub C d_H_needTenant_10 (by omega) ?_
  refine r_callSp C cl_H_75 st_H_isOutside (c_H_isOutside hx) rfl rfl d_H_needTenant_11 (by decide) (Nat.le_of_ble_eq_true rfl) ?_
  refine r_if_eq (tgt := 27) C d_H_needTenant_14 (by decide) (fun q14 => ?_) (fun q14 => ?_)
  · exact r_vret C d_H_needTenant_27 (Out.ret (by (repeat' split) <;> first | rfl | omega) rfl) (by decide) (fun _ => ⟨rfl, rfl, rfl⟩)
  · exact r_throw C tl_H_needTenant_17 d_H_needTenant_17 d_H_needTenant_20 d_H_needTenant_21 d_H_needTenant_23 d_H_needTenant_26 (by decide) (by decide) (Nat.le_of_ble_eq_true rfl) (Out.thr (by (repeat' split) <;> first | rfl | omega))
set_option maxHeartbeats 1000000 in
theorem c_H_needTenantOrLandlord {l : Launch} (hl : l.stackTraces = false) {w : XW} {h : AH} {a : Int} (ht : 0 ≤ h 23 0 4 ∧ h 23 0 4 ≤ 20) : AM l y_H_needTenantOrLandlord (wsM y_H_needTenantOrLandlord b_H_needTenantOrLandlord 2 none []) true (rmV 1 1) w [vO 1 0, vI a] h (Out (if a < -1 ∨ h 23 0 4 ≤ a then some 1 else none) none h (fun h' => h' = h)) := by
  refine AM.of hl (by decide +kernel) (Nat.le_of_ble_eq_true rfl) fun x hx C _ => ?_
  refine r_iload_n (i0 := 1) C d_H_needTenantOrLandlord_0 rfl rfl ?_
  refine r_iconst C d_H_needTenantOrLandlord_1 (by decide) ?_
  refine r_aload_n (i0 := 0) C d_H_needTenantOrLandlord_2 rfl rfl ?_
  refine r_getO C fl_H_47 d_H_needTenantOrLandlord_3 rfl rfl (fun hi => hi) ?_
  refine r_getI C fl_H_122 d_H_needTenantOrLandlord_6 rfl ?_
  refine r_iconst C d_H_needTenantOrLandlord_9 (by decide) ?_
  refine r_isub C d_H_needTenantOrLandlord_10 (by omega) ?_
  refine r_callSp C cl_H_75 st_H_isOutside (c_H_isOutside hx) rfl rfl d_H_needTenantOrLandlord_11 (by decide) (Nat.le_of_ble_eq_true rfl) ?_
  refine r_if_eq (tgt := 27) C d_H_needTenantOrLandlord_14 (by decide) (fun q14 => ?_) (fun q14 => ?_)
  · exact r_vret C d_H_needTenantOrLandlord_27 (Out.ret (by (repeat' split) <;> first | rfl | omega) rfl) (by decide) (fun _ => ⟨rfl, rfl, rfl⟩)
  · exact r_throw C tl_H_needTenantOrLandlord_17 d_H_needTenantOrLandlord_17 d_H_needTenantOrLandlord_20 d_H_needTenantOrLandlord_21 d_H_needTenantOrLandlord_23 d_H_needTenantOrLandlord_26 (by decide) (by decide) (Nat.le_of_ble_eq_true rfl) (Out.thr (by (repeat' split) <;> first | rfl | omega))
set_option maxHeartbeats 1000000 in
theorem c_H_needBill {l : Launch} (hl : l.stackTraces = false) {w : XW} {h : AH}  : AM l y_H_needBill (wsM y_H_needBill b_H_needBill 1 none []) true (rmV 1 1) w [vO 1 0] h (Out (if h 1 0 12 = 0 then some 2 else none) none h (fun h' => h' = h)) := by
  refine AM.of hl (by decide +kernel) (Nat.le_of_ble_eq_true rfl) fun x hx C _ => ?_
  refine r_aload_n (i0 := 0) C d_H_needBill_0 rfl rfl ?_
  refine r_getI C fl_H_71 d_H_needBill_1 rfl ?_
  refine r_if_ne (tgt := 17) C d_H_needBill_4 (by decide) (fun q4 => ?_) (fun q4 => ?_)
  · exact r_vret C d_H_needBill_17 (Out.ret (by (repeat' split) <;> first | rfl | omega) rfl) (by decide) (fun _ => ⟨rfl, rfl, rfl⟩)
  · exact r_throw C tl_H_needBill_7 d_H_needBill_7 d_H_needBill_10 d_H_needBill_11 d_H_needBill_13 d_H_needBill_16 (by decide) (by decide) (Nat.le_of_ble_eq_true rfl) (Out.thr (by (repeat' split) <;> first | rfl | omega))
end
section
/-! Contracts: calls of the class that write little. -/
set_option maxHeartbeats 1000000 in
theorem c_O_addFlat {l : Launch} (hl : l.stackTraces = false) {w : XW} {h : AH} {a b c : Int} (hc : 0 ≤ h 2 0 1 ∧ h 2 0 1 < 6) : AM l y_O_addFlat (wsM y_O_addFlat b_O_addFlat 6 (some .int) []) false (rmV 0 0) w [vO 2 0, vI a, vI b, vI c] h (RetP (some (vI (h 2 0 1))) (fun h' => h' = hset (hset (hset (hset h 4 (h 2 0 1).toNat 0 a) 4 (h 2 0 1).toNat 1 b) 4 (h 2 0 1).toNat 2 c) 2 0 1 (h 2 0 1 + 1))) := by
  refine AM.of hl (by decide +kernel) (Nat.le_of_ble_eq_true rfl) fun x hx C _ => ?_
  refine r_aload_n (i0 := 0) C d_O_addFlat_0 rfl rfl ?_
  refine r_getI C fl_O_17 d_O_addFlat_1 rfl ?_
  refine r_istore C d_O_addFlat_4 (by decide) ?_
  refine r_aload_n (i0 := 0) C d_O_addFlat_6 rfl rfl ?_
  refine r_getO C fl_O_11 d_O_addFlat_7 rfl rfl (fun hi => hi) ?_
  refine r_iload C d_O_addFlat_10 rfl ?_
  refine r_aaF C d_O_addFlat_12 (by omega) ?_
  refine r_astore C d_O_addFlat_13 (by decide) ?_
  refine r_aload C d_O_addFlat_15 rfl ?_
  refine r_iload_n (i0 := 1) C d_O_addFlat_17 rfl rfl ?_
  refine r_putI C pl_O_22 d_O_addFlat_18 rfl ?_
  refine r_aload C d_O_addFlat_21 rfl ?_
  refine r_iload_n (i0 := 2) C d_O_addFlat_23 rfl rfl ?_
  refine r_putI C pl_O_25 d_O_addFlat_24 rfl ?_
  refine r_aload C d_O_addFlat_27 rfl ?_
  refine r_iload_n (i0 := 3) C d_O_addFlat_29 rfl rfl ?_
  refine r_putI C pl_O_28 d_O_addFlat_30 rfl ?_
  refine r_aload_n (i0 := 0) C d_O_addFlat_33 rfl rfl ?_
  refine r_dup C d_O_addFlat_34 rfl ?_
  refine r_getI C fl_O_17 d_O_addFlat_35 rfl ?_
  refine r_iconst C d_O_addFlat_38 (by decide) ?_
  refine r_iadd C d_O_addFlat_39 (by simp [hset]; omega) ?_
  refine r_putI C pl_O_17 d_O_addFlat_40 rfl ?_
  refine r_iload C d_O_addFlat_43 rfl ?_
  exact r_iret C d_O_addFlat_45 (fun _ => ⟨rfl, by simp [hset]⟩) (by decide) (fun q => nomatch q)
set_option maxHeartbeats 1000000 in
theorem c_A_addTenant {l : Launch} (hl : l.stackTraces = false) {w : XW} {h : AH} (ht : 0 ≤ h 23 0 4 ∧ h 23 0 4 ≤ 20) : AM l y_A_addTenant (wsM y_A_addTenant b_A_addTenant 2 (some .int) []) false (rmV 0 0) w [vO 23 0] h (RetP (some (vI (h 23 0 4))) (fun h' => h' = hset h 23 0 4 (h 23 0 4 + 1))) := by
  refine AM.of hl (by decide +kernel) (Nat.le_of_ble_eq_true rfl) fun x hx C _ => ?_
  refine r_aload_n (i0 := 0) C d_A_addTenant_0 rfl rfl ?_
  refine r_getI C fl_A_26 d_A_addTenant_1 rfl ?_
  refine r_istore_n (i0 := 1) C d_A_addTenant_4 rfl (by decide) ?_
  refine r_aload_n (i0 := 0) C d_A_addTenant_5 rfl rfl ?_
  refine r_dup C d_A_addTenant_6 rfl ?_
  refine r_getI C fl_A_26 d_A_addTenant_7 rfl ?_
  refine r_iconst C d_A_addTenant_10 (by decide) ?_
  refine r_iadd C d_A_addTenant_11 (by omega) ?_
  refine r_putI C pl_A_26 d_A_addTenant_12 rfl ?_
  refine r_iload_n (i0 := 1) C d_A_addTenant_15 rfl rfl ?_
  exact r_iret C d_A_addTenant_16 (fun _ => ⟨rfl, rfl⟩) (by decide) (fun q => nomatch q)
set_option maxHeartbeats 1000000 in
theorem c_U_addLayer {l : Launch} (hl : l.stackTraces = false) {w : XW} {h : AH} {a b : Int} (hn : 0 ≤ h 7 0 2 ∧ h 7 0 2 < 12) : AM l y_U_addLayer (wsM y_U_addLayer b_U_addLayer 3 none []) false (rmV 0 0) w [vO 7 0, vI a, vI b] h (RetP none (fun h' => h' = hset (hset (hset h 8 0 (h 7 0 2).toNat a) 9 0 (h 7 0 2).toNat b) 7 0 2 (h 7 0 2 + 1))) := by
  refine AM.of hl (by decide +kernel) (Nat.le_of_ble_eq_true rfl) fun x hx C _ => ?_
  refine r_aload_n (i0 := 0) C d_U_addLayer_0 rfl rfl ?_
  refine r_getO C fl_U_9 d_U_addLayer_1 rfl rfl (fun hi => hi) ?_
  refine r_aload_n (i0 := 0) C d_U_addLayer_4 rfl rfl ?_
  refine r_getI C fl_U_18 d_U_addLayer_5 rfl ?_
  refine r_iload_n (i0 := 1) C d_U_addLayer_8 rfl rfl ?_
  refine r_iastore (ln := 12) C d_U_addLayer_9 rfl (fun _ => rfl) rfl (by omega) ?_
  refine r_aload_n (i0 := 0) C d_U_addLayer_10 rfl rfl ?_
  refine r_getO C fl_U_15 d_U_addLayer_11 rfl rfl (fun hi => hi) ?_
  refine r_aload_n (i0 := 0) C d_U_addLayer_14 rfl rfl ?_
  refine r_getI C fl_U_18 d_U_addLayer_15 rfl ?_
  refine r_iload_n (i0 := 2) C d_U_addLayer_18 rfl rfl ?_
  refine r_iastore (ln := 12) C d_U_addLayer_19 rfl (fun _ => rfl) rfl (by simp [hset]; omega) ?_
  refine r_aload_n (i0 := 0) C d_U_addLayer_20 rfl rfl ?_
  refine r_dup C d_U_addLayer_21 rfl ?_
  refine r_getI C fl_U_18 d_U_addLayer_22 rfl ?_
  refine r_iconst C d_U_addLayer_25 (by decide) ?_
  refine r_iadd C d_U_addLayer_26 (by simp [hset]; omega) ?_
  refine r_putI C pl_U_18 d_U_addLayer_27 rfl ?_
  exact r_vret C d_U_addLayer_30 (⟨rfl, by simp [hset]⟩) (by decide) (fun q => nomatch q)
set_option maxHeartbeats 1000000 in
theorem c_A_owedInAll {l : Launch} (hl : l.stackTraces = false) {w : XW} {h : AH} {a : Int} (ho : ∀ i j : Nat, i < 3 → j < 21 → 0 ≤ h 25 i j ∧ h 25 i j ≤ 300000) (ha : -1 ≤ a ∧ a < 20) : AM l y_A_owedInAll (wsM y_A_owedInAll b_A_owedInAll 3 (some .int) []) true (rmV 0 0) w [vO 23 0, vI a] h (Ret (some (vI (h 25 0 (a + 1).toNat + h 25 1 (a + 1).toNat + h 25 2 (a + 1).toNat))) h) := by
  refine AM.of hl (by decide +kernel) (Nat.le_of_ble_eq_true rfl) fun x hx C _ => ?_
  refine r_iload_n (i0 := 1) C d_A_owedInAll_0 rfl rfl ?_
  refine r_iconst C d_A_owedInAll_1 (by decide) ?_
  refine r_iadd C d_A_owedInAll_2 (by omega) ?_
  refine r_istore_n (i0 := 2) C d_A_owedInAll_3 rfl (by decide) ?_
  refine r_aload_n (i0 := 0) C d_A_owedInAll_4 rfl rfl ?_
  refine r_getO C fl_A_11 d_A_owedInAll_5 rfl rfl (fun hi => hi) ?_
  refine r_iconst C d_A_owedInAll_8 (by decide) ?_
  refine r_aaW C d_A_owedInAll_9 (by omega) ?_
  refine r_iload_n (i0 := 2) C d_A_owedInAll_10 rfl rfl ?_
  refine r_iaload (ln := 21) C d_A_owedInAll_11 rfl (fun _ => rfl) rfl (by omega) ?_
  refine r_aload_n (i0 := 0) C d_A_owedInAll_12 rfl rfl ?_
  refine r_getO C fl_A_11 d_A_owedInAll_13 rfl rfl (fun hi => hi) ?_
  refine r_iconst C d_A_owedInAll_16 (by decide) ?_
  refine r_aaW C d_A_owedInAll_17 (by omega) ?_
  refine r_iload_n (i0 := 2) C d_A_owedInAll_18 rfl rfl ?_
  refine r_iaload (ln := 21) C d_A_owedInAll_19 rfl (fun _ => rfl) rfl (by omega) ?_
  refine r_iadd C d_A_owedInAll_20 (by have o0 := ho 0 (a + 1).toNat (by omega) (by omega); have o1 := ho 1 (a + 1).toNat (by omega) (by omega); have o2 := ho 2 (a + 1).toNat (by omega) (by omega); simp only [Int.toNat_zero, Int.toNat_one, show (2 : Int).toNat = 2 from rfl]; omega) ?_
  refine r_aload_n (i0 := 0) C d_A_owedInAll_21 rfl rfl ?_
  refine r_getO C fl_A_11 d_A_owedInAll_22 rfl rfl (fun hi => hi) ?_
  refine r_iconst C d_A_owedInAll_25 (by decide) ?_
  refine r_aaW C d_A_owedInAll_26 (by omega) ?_
  refine r_iload_n (i0 := 2) C d_A_owedInAll_27 rfl rfl ?_
  refine r_iaload (ln := 21) C d_A_owedInAll_28 rfl (fun _ => rfl) rfl (by omega) ?_
  refine r_iadd C d_A_owedInAll_29 (by have o0 := ho 0 (a + 1).toNat (by omega) (by omega); have o1 := ho 1 (a + 1).toNat (by omega) (by omega); have o2 := ho 2 (a + 1).toNat (by omega) (by omega); simp only [Int.toNat_zero, Int.toNat_one, show (2 : Int).toNat = 2 from rfl]; omega) ?_
  exact r_iret C d_A_owedInAll_30 (fun _ => ⟨rfl, rfl⟩) (by decide) (fun _ => ⟨rfl, rfl, rfl⟩)
set_option maxHeartbeats 1000000 in
theorem c_H_flat {l : Launch} (hl : l.stackTraces = false) {w : XW} {h : AH} {a b c : Int} (hc : 0 ≤ h 2 0 1 ∧ h 2 0 1 ≤ 6) : AM l y_H_flat (wsM y_H_flat b_H_flat 4 (some .int) []) false (rmV 3 1) w [vO 1 0, vI a, vI b, vI c] h (Out (if a < 1 ∨ 50 < a ∨ b < 0 ∨ 50 < b ∨ c < 1 ∨ 2 < c then some 0 else if h 2 0 1 = 6 then some 3 else none) (some (vI (h 2 0 1))) h (fun h' => h' = hset (hset (hset (hset (hset h 1 0 12 0) 4 (h 2 0 1).toNat 0 a) 4 (h 2 0 1).toNat 1 b) 4 (h 2 0 1).toNat 2 c) 2 0 1 (h 2 0 1 + 1))) := by
  refine AM.of hl (by decide +kernel) (Nat.le_of_ble_eq_true rfl) fun x hx C _ => ?_
  refine r_iload_n (i0 := 1) C d_H_flat_0 rfl rfl ?_
  refine r_iconst C d_H_flat_1 (by decide) ?_
  refine r_bipush C d_H_flat_2 (by decide) (by decide) ?_
  refine r_callSp C cl_H_75 st_H_isOutside (c_H_isOutside hx) rfl rfl d_H_flat_4 (by decide) (Nat.le_of_ble_eq_true rfl) ?_
  refine r_if_ne (tgt := 29) C d_H_flat_7 (by decide) (fun q7 => ?_) (fun q7 => ?_)
  · exact r_throw C tl_H_flat_29 d_H_flat_29 d_H_flat_32 d_H_flat_33 d_H_flat_35 d_H_flat_38 (by decide) (by decide) (Nat.le_of_ble_eq_true rfl) (Out.thr (by (repeat' split) <;> first | rfl | omega))
  · refine r_iload_n (i0 := 2) C d_H_flat_10 rfl rfl ?_
    refine r_iconst C d_H_flat_11 (by decide) ?_
    refine r_bipush C d_H_flat_12 (by decide) (by decide) ?_
    refine r_callSp C cl_H_75 st_H_isOutside (c_H_isOutside hx) rfl rfl d_H_flat_14 (by decide) (Nat.le_of_ble_eq_true rfl) ?_
    refine r_if_ne (tgt := 29) C d_H_flat_17 (by decide) (fun q17 => ?_) (fun q17 => ?_)
    · exact r_throw C tl_H_flat_29 d_H_flat_29 d_H_flat_32 d_H_flat_33 d_H_flat_35 d_H_flat_38 (by decide) (by decide) (Nat.le_of_ble_eq_true rfl) (Out.thr (by (repeat' split) <;> first | rfl | omega))
    · refine r_iload_n (i0 := 3) C d_H_flat_20 rfl rfl ?_
      refine r_iconst C d_H_flat_21 (by decide) ?_
      refine r_iconst C d_H_flat_22 (by decide) ?_
      refine r_callSp C cl_H_75 st_H_isOutside (c_H_isOutside hx) rfl rfl d_H_flat_23 (by decide) (Nat.le_of_ble_eq_true rfl) ?_
      refine r_if_eq (tgt := 39) C d_H_flat_26 (by decide) (fun q26 => ?_) (fun q26 => ?_)
      · refine r_aload_n (i0 := 0) C d_H_flat_39 rfl rfl ?_
        refine r_getO C fl_H_12 d_H_flat_40 rfl rfl (fun hi => hi) ?_
        refine r_getI C fl_H_86 d_H_flat_43 rfl ?_
        refine r_bipush C d_H_flat_46 (by decide) (by decide) ?_
        refine r_icmp_lt (tgt := 61) C d_H_flat_48 (by decide) (fun q48 => ?_) (fun q48 => ?_)
        · refine r_aload_n (i0 := 0) C d_H_flat_61 rfl rfl ?_
          refine r_iconst C d_H_flat_62 (by decide) ?_
          refine r_putZ C pl_H_71 d_H_flat_63 rfl (by omega) ?_
          refine r_aload_n (i0 := 0) C d_H_flat_66 rfl rfl ?_
          refine r_getO C fl_H_12 d_H_flat_67 rfl rfl (fun hi => hi) ?_
          refine r_iload_n (i0 := 1) C d_H_flat_70 rfl rfl ?_
          refine r_iload_n (i0 := 2) C d_H_flat_71 rfl rfl ?_
          refine r_iload_n (i0 := 3) C d_H_flat_72 rfl rfl ?_
          refine r_callVw C cl_H_94 im_O_addFlat rfl rfl (c_O_addFlat hx (by simp [hset]; omega)) rfl rfl d_H_flat_73 (by decide) (by decide) (Nat.le_of_ble_eq_true rfl) (fun h73 p73 => ?_)
          subst p73
          exact r_iret C d_H_flat_76 (fun _ => Out.ret (by (repeat' split) <;> first | rfl | omega) (by simp [hset])) (by decide) (fun q => nomatch q)
        · exact r_throw C tl_H_flat_51 d_H_flat_51 d_H_flat_54 d_H_flat_55 d_H_flat_57 d_H_flat_60 (by decide) (by decide) (Nat.le_of_ble_eq_true rfl) (Out.thr (by (repeat' split) <;> first | rfl | omega))
      · exact r_throw C tl_H_flat_29 d_H_flat_29 d_H_flat_32 d_H_flat_33 d_H_flat_35 d_H_flat_38 (by decide) (by decide) (Nat.le_of_ble_eq_true rfl) (Out.thr (by (repeat' split) <;> first | rfl | omega))
set_option maxHeartbeats 1000000 in
theorem c_H_reading {l : Launch} (hl : l.stackTraces = false) {w : XW} {h : AH} {a b c : Int} (hc : 0 ≤ h 2 0 1 ∧ h 2 0 1 ≤ 6) : AM l y_H_reading (wsM y_H_reading b_H_reading 4 none []) false (rmV 3 1) w [vO 1 0, vI a, vI b, vI c] h (Out (if a < 0 ∨ h 2 0 1 ≤ a then some 1 else if b < 0 ∨ 12 < b then some 1 else if c < -1 ∨ 99 < c then some 0 else none) (none) h (fun h' => h' = hset (hset h 1 0 12 0) 5 a.toNat b.toNat c)) := by
  refine AM.of hl (by decide +kernel) (Nat.le_of_ble_eq_true rfl) fun x hx C _ => ?_
  refine r_aload_n (i0 := 0) C d_H_reading_0 rfl rfl ?_
  refine r_iload_n (i0 := 1) C d_H_reading_1 rfl rfl ?_
  refine r_callVt C cl_H_98 im_H_needFlat rfl rfl (c_H_needFlat hx hc) rfl rfl d_H_reading_2 (by decide) (Nat.le_of_ble_eq_true rfl) (by decide) (fun k hk => Out.thr (by by_cases z : a < 0 ∨ h 2 0 1 ≤ a <;> simp [z] at hk ⊢; exact hk)) (fun e2 => ?_)
  have en : ¬ (a < 0 ∨ h 2 0 1 ≤ a) := fun z => by rw [if_pos z] at e2; cases e2
  refine r_iload_n (i0 := 2) C d_H_reading_5 rfl rfl ?_
  refine r_iconst C d_H_reading_6 (by decide) ?_
  refine r_bipush C d_H_reading_7 (by decide) (by decide) ?_
  refine r_callSp C cl_H_75 st_H_isOutside (c_H_isOutside hx) rfl rfl d_H_reading_9 (by decide) (Nat.le_of_ble_eq_true rfl) ?_
  refine r_if_eq (tgt := 25) C d_H_reading_12 (by decide) (fun q12 => ?_) (fun q12 => ?_)
  · refine r_iload_n (i0 := 3) C d_H_reading_25 rfl rfl ?_
    refine r_iconst C d_H_reading_26 (by decide) ?_
    refine r_bipush C d_H_reading_27 (by decide) (by decide) ?_
    refine r_callSp C cl_H_75 st_H_isOutside (c_H_isOutside hx) rfl rfl d_H_reading_29 (by decide) (Nat.le_of_ble_eq_true rfl) ?_
    refine r_if_eq (tgt := 45) C d_H_reading_32 (by decide) (fun q32 => ?_) (fun q32 => ?_)
    · refine r_aload_n (i0 := 0) C d_H_reading_45 rfl rfl ?_
      refine r_iconst C d_H_reading_46 (by decide) ?_
      refine r_putZ C pl_H_71 d_H_reading_47 rfl (by omega) ?_
      refine r_aload_n (i0 := 0) C d_H_reading_50 rfl rfl ?_
      refine r_getO C fl_H_12 d_H_reading_51 rfl rfl (fun hi => hi) ?_
      refine r_getO C fl_H_109 d_H_reading_54 rfl rfl (fun hi => hi) ?_
      refine r_iload_n (i0 := 1) C d_H_reading_57 rfl rfl ?_
      refine r_aaF C d_H_reading_58 (by omega) ?_
      refine r_getO C fl_H_113 d_H_reading_59 rfl rfl (fun hi => hi) ?_
      refine r_iload_n (i0 := 2) C d_H_reading_62 rfl rfl ?_
      refine r_iload_n (i0 := 3) C d_H_reading_63 rfl rfl ?_
      refine r_iastore (ln := 13) C d_H_reading_64 rfl (fun _ => rfl) rfl (by omega) ?_
      exact r_vret C d_H_reading_65 (Out.ret (by (repeat' split) <;> first | rfl | omega) rfl) (by decide) (fun q => nomatch q)
    · exact r_throw C tl_H_reading_35 d_H_reading_35 d_H_reading_38 d_H_reading_39 d_H_reading_41 d_H_reading_44 (by decide) (by decide) (Nat.le_of_ble_eq_true rfl) (Out.thr (by (repeat' split) <;> first | rfl | omega))
  · exact r_throw C tl_H_reading_15 d_H_reading_15 d_H_reading_18 d_H_reading_19 d_H_reading_21 d_H_reading_24 (by decide) (by decide) (Nat.le_of_ble_eq_true rfl) (Out.thr (by (repeat' split) <;> first | rfl | omega))
set_option maxHeartbeats 1000000 in
theorem c_H_enter {l : Launch} (hl : l.stackTraces = false) {w : XW} {h : AH} {a b : Int} (hc : 0 ≤ h 2 0 1 ∧ h 2 0 1 ≤ 6) (ht : 0 ≤ h 23 0 4 ∧ h 23 0 4 ≤ 20) : AM l y_H_enter (wsM y_H_enter b_H_enter 4 (some .int) []) false (rmV 3 1) w [vO 1 0, vI a, vI b] h (Out (if a < 0 ∨ h 2 0 1 ≤ a then some 1 else if b < 0 ∨ 11 < b then some 1 else if h 6 a.toNat b.toNat = -2 then (if h 23 0 4 = 20 then some 3 else none) else some 2) (some (vI (h 23 0 4))) h (fun h' => h' = hset (hset (hset h 1 0 12 0) 23 0 4 (h 23 0 4 + 1)) 6 a.toNat b.toNat (h 23 0 4))) := by
  refine AM.of hl (by decide +kernel) (Nat.le_of_ble_eq_true rfl) fun x hx C _ => ?_
  refine r_aload_n (i0 := 0) C d_H_enter_0 rfl rfl ?_
  refine r_iload_n (i0 := 1) C d_H_enter_1 rfl rfl ?_
  refine r_iload_n (i0 := 2) C d_H_enter_2 rfl rfl ?_
  refine r_callVt C cl_H_118 im_H_needRoomForChange rfl rfl (c_H_needRoomForChange hx hc) rfl rfl d_H_enter_3 (by decide) (Nat.le_of_ble_eq_true rfl) (by decide) (fun k hk => Out.thr (by by_cases z : a < 0 ∨ h 2 0 1 ≤ a <;> by_cases z1 : b < 0 ∨ 11 < b <;> by_cases z2 : h 6 a.toNat b.toNat = -2 <;> simp [z, z1, z2] at hk ⊢ <;> exact hk)) (fun e3 => ?_)
  have en : ¬ (a < 0 ∨ h 2 0 1 ≤ a) := fun z => by rw [if_pos z] at e3; cases e3
  have en1 : ¬ (b < 0 ∨ 11 < b) := fun z => by rw [if_neg en, if_pos z] at e3; cases e3
  have en2 : h 6 a.toNat b.toNat = -2 := Classical.byContradiction fun z => by rw [if_neg en, if_neg en1, if_neg z] at e3; cases e3
  refine r_aload_n (i0 := 0) C d_H_enter_6 rfl rfl ?_
  refine r_getO C fl_H_47 d_H_enter_7 rfl rfl (fun hi => hi) ?_
  refine r_getI C fl_H_122 d_H_enter_10 rfl ?_
  refine r_bipush C d_H_enter_13 (by decide) (by decide) ?_
  refine r_icmp_lt (tgt := 28) C d_H_enter_15 (by decide) (fun q15 => ?_) (fun q15 => ?_)
  · refine r_aload_n (i0 := 0) C d_H_enter_28 rfl rfl ?_
    refine r_iconst C d_H_enter_29 (by decide) ?_
    refine r_putZ C pl_H_71 d_H_enter_30 rfl (by omega) ?_
    refine r_aload_n (i0 := 0) C d_H_enter_33 rfl rfl ?_
    refine r_getO C fl_H_47 d_H_enter_34 rfl rfl (fun hi => hi) ?_
    refine r_callVw C cl_H_127 im_A_addTenant rfl rfl (c_A_addTenant hx (by simp [hset]; omega)) rfl rfl d_H_enter_37 (by decide) (by decide) (Nat.le_of_ble_eq_true rfl) (fun h37 p37 => ?_)
    subst p37
    refine r_istore_n (i0 := 3) C d_H_enter_40 rfl (by decide) ?_
    refine r_aload_n (i0 := 0) C d_H_enter_41 rfl rfl ?_
    refine r_getO C fl_H_12 d_H_enter_42 rfl rfl (fun hi => hi) ?_
    refine r_getO C fl_H_109 d_H_enter_45 rfl rfl (fun hi => hi) ?_
    refine r_iload_n (i0 := 1) C d_H_enter_48 rfl rfl ?_
    refine r_aaF C d_H_enter_49 (by omega) ?_
    refine r_getO C fl_H_131 d_H_enter_50 rfl rfl (fun hi => hi) ?_
    refine r_iload_n (i0 := 2) C d_H_enter_53 rfl rfl ?_
    refine r_iload_n (i0 := 3) C d_H_enter_54 rfl rfl ?_
    refine r_iastore (ln := 12) C d_H_enter_55 rfl (fun _ => rfl) rfl (by omega) ?_
    refine r_iload_n (i0 := 3) C d_H_enter_56 rfl rfl ?_
    exact r_iret C d_H_enter_57 (fun _ => Out.ret (by (repeat' split) <;> first | rfl | omega) (by simp [hset])) (by decide) (fun q => nomatch q)
  · exact r_throw C tl_H_enter_18 d_H_enter_18 d_H_enter_21 d_H_enter_22 d_H_enter_24 d_H_enter_27 (by decide) (by decide) (Nat.le_of_ble_eq_true rfl) (Out.thr (by (repeat' split) <;> first | rfl | omega))
set_option maxHeartbeats 1000000 in
theorem c_H_leave {l : Launch} (hl : l.stackTraces = false) {w : XW} {h : AH} {a b : Int} (hc : 0 ≤ h 2 0 1 ∧ h 2 0 1 ≤ 6) : AM l y_H_leave (wsM y_H_leave b_H_leave 3 none []) false (rmV 3 1) w [vO 1 0, vI a, vI b] h (Out (if a < 0 ∨ h 2 0 1 ≤ a then some 1 else if b < 0 ∨ 11 < b then some 1 else if h 6 a.toNat b.toNat = -2 then none else some 2) (none) h (fun h' => h' = hset (hset h 1 0 12 0) 6 a.toNat b.toNat (-1))) := by
  refine AM.of hl (by decide +kernel) (Nat.le_of_ble_eq_true rfl) fun x hx C _ => ?_
  refine r_aload_n (i0 := 0) C d_H_leave_0 rfl rfl ?_
  refine r_iload_n (i0 := 1) C d_H_leave_1 rfl rfl ?_
  refine r_iload_n (i0 := 2) C d_H_leave_2 rfl rfl ?_
  refine r_callVt C cl_H_118 im_H_needRoomForChange rfl rfl (c_H_needRoomForChange hx hc) rfl rfl d_H_leave_3 (by decide) (Nat.le_of_ble_eq_true rfl) (by decide) (fun k hk => Out.thr (by by_cases z : a < 0 ∨ h 2 0 1 ≤ a <;> by_cases z1 : b < 0 ∨ 11 < b <;> by_cases z2 : h 6 a.toNat b.toNat = -2 <;> simp [z, z1, z2] at hk ⊢ <;> exact hk)) (fun e3 => ?_)
  have en : ¬ (a < 0 ∨ h 2 0 1 ≤ a) := fun z => by rw [if_pos z] at e3; cases e3
  have en1 : ¬ (b < 0 ∨ 11 < b) := fun z => by rw [if_neg en, if_pos z] at e3; cases e3
  have en2 : h 6 a.toNat b.toNat = -2 := Classical.byContradiction fun z => by rw [if_neg en, if_neg en1, if_neg z] at e3; cases e3
  refine r_aload_n (i0 := 0) C d_H_leave_6 rfl rfl ?_
  refine r_iconst C d_H_leave_7 (by decide) ?_
  refine r_putZ C pl_H_71 d_H_leave_8 rfl (by omega) ?_
  refine r_aload_n (i0 := 0) C d_H_leave_11 rfl rfl ?_
  refine r_getO C fl_H_12 d_H_leave_12 rfl rfl (fun hi => hi) ?_
  refine r_getO C fl_H_109 d_H_leave_15 rfl rfl (fun hi => hi) ?_
  refine r_iload_n (i0 := 1) C d_H_leave_18 rfl rfl ?_
  refine r_aaF C d_H_leave_19 (by omega) ?_
  refine r_getO C fl_H_131 d_H_leave_20 rfl rfl (fun hi => hi) ?_
  refine r_iload_n (i0 := 2) C d_H_leave_23 rfl rfl ?_
  refine r_iconst C d_H_leave_24 (by decide) ?_
  refine r_iastore (ln := 12) C d_H_leave_25 rfl (fun _ => rfl) rfl (by omega) ?_
  exact r_vret C d_H_leave_26 (Out.ret (by (repeat' split) <;> first | rfl | omega) rfl) (by decide) (fun q => nomatch q)
set_option maxHeartbeats 1000000 in
theorem c_H_deliver {l : Launch} (hl : l.stackTraces = false) {w : XW} {h : AH} {a b : Int} (hn : 0 ≤ h 7 0 2 ∧ h 7 0 2 ≤ 12) : AM l y_H_deliver (wsM y_H_deliver b_H_deliver 3 none []) false (rmV 3 1) w [vO 1 0, vI a, vI b] h (Out (if a < 1 ∨ 1000 < a ∨ b < 0 ∨ 20000 < b then some 0 else if h 7 0 2 = 12 then some 3 else none) (none) h (fun h' => h' = hset (hset (hset (hset h 1 0 12 0) 8 0 (h 7 0 2).toNat a) 9 0 (h 7 0 2).toNat b) 7 0 2 (h 7 0 2 + 1))) := by
  refine AM.of hl (by decide +kernel) (Nat.le_of_ble_eq_true rfl) fun x hx C _ => ?_
  refine r_iload_n (i0 := 1) C d_H_deliver_0 rfl rfl ?_
  refine r_iconst C d_H_deliver_1 (by decide) ?_
  refine r_sipush C d_H_deliver_2 (by decide) (by decide) ?_
  refine r_callSp C cl_H_75 st_H_isOutside (c_H_isOutside hx) rfl rfl d_H_deliver_5 (by decide) (Nat.le_of_ble_eq_true rfl) ?_
  refine r_if_ne (tgt := 22) C d_H_deliver_8 (by decide) (fun q8 => ?_) (fun q8 => ?_)
  · exact r_throw C tl_H_deliver_22 d_H_deliver_22 d_H_deliver_25 d_H_deliver_26 d_H_deliver_28 d_H_deliver_31 (by decide) (by decide) (Nat.le_of_ble_eq_true rfl) (Out.thr (by (repeat' split) <;> first | rfl | omega))
  · refine r_iload_n (i0 := 2) C d_H_deliver_11 rfl rfl ?_
    refine r_iconst C d_H_deliver_12 (by decide) ?_
    refine r_sipush C d_H_deliver_13 (by decide) (by decide) ?_
    refine r_callSp C cl_H_75 st_H_isOutside (c_H_isOutside hx) rfl rfl d_H_deliver_16 (by decide) (Nat.le_of_ble_eq_true rfl) ?_
    refine r_if_eq (tgt := 32) C d_H_deliver_19 (by decide) (fun q19 => ?_) (fun q19 => ?_)
    · refine r_aload_n (i0 := 0) C d_H_deliver_32 rfl rfl ?_
      refine r_getO C fl_H_19 d_H_deliver_33 rfl rfl (fun hi => hi) ?_
      refine r_getI C fl_H_136 d_H_deliver_36 rfl ?_
      refine r_bipush C d_H_deliver_39 (by decide) (by decide) ?_
      refine r_icmp_lt (tgt := 54) C d_H_deliver_41 (by decide) (fun q41 => ?_) (fun q41 => ?_)
      · refine r_aload_n (i0 := 0) C d_H_deliver_54 rfl rfl ?_
        refine r_iconst C d_H_deliver_55 (by decide) ?_
        refine r_putZ C pl_H_71 d_H_deliver_56 rfl (by omega) ?_
        refine r_aload_n (i0 := 0) C d_H_deliver_59 rfl rfl ?_
        refine r_getO C fl_H_19 d_H_deliver_60 rfl rfl (fun hi => hi) ?_
        refine r_iload_n (i0 := 1) C d_H_deliver_63 rfl rfl ?_
        refine r_iload_n (i0 := 2) C d_H_deliver_64 rfl rfl ?_
        refine r_callVw C cl_H_141 im_U_addLayer rfl rfl (c_U_addLayer hx (by simp [hset]; omega)) rfl rfl d_H_deliver_65 (by decide) (by decide) (Nat.le_of_ble_eq_true rfl) (fun h65 p65 => ?_)
        subst p65
        exact r_vret C d_H_deliver_68 (Out.ret (by (repeat' split) <;> first | rfl | omega) (by simp [hset])) (by decide) (fun q => nomatch q)
      · exact r_throw C tl_H_deliver_44 d_H_deliver_44 d_H_deliver_47 d_H_deliver_48 d_H_deliver_50 d_H_deliver_53 (by decide) (by decide) (Nat.le_of_ble_eq_true rfl) (Out.thr (by (repeat' split) <;> first | rfl | omega))
    · exact r_throw C tl_H_deliver_22 d_H_deliver_22 d_H_deliver_25 d_H_deliver_26 d_H_deliver_28 d_H_deliver_31 (by decide) (by decide) (Nat.le_of_ble_eq_true rfl) (Out.thr (by (repeat' split) <;> first | rfl | omega))
set_option maxHeartbeats 1000000 in
theorem c_H_endStock {l : Launch} (hl : l.stackTraces = false) {w : XW} {h : AH} {a : Int} (hn : 0 ≤ h 7 0 2 ∧ h 7 0 2 ≤ 12) (hu : ∀ k : Nat, (k : Int) < h 7 0 2 → 0 ≤ h 8 0 k ∧ h 8 0 k ≤ 1000) : AM l y_H_endStock (wsM y_H_endStock b_H_endStock 2 none []) false (rmV 3 1) w [vO 1 0, vI a] h (Out (if a < -1 ∨ sumF (h 7 0 2).toNat (h 8 0) < a then some 0 else none) (none) h (fun h' => h' = hset (hset h 1 0 12 0) 7 0 3 a)) := by
  refine AM.of hl (by decide +kernel) (Nat.le_of_ble_eq_true rfl) fun x hx C _ => ?_
  refine r_iload_n (i0 := 1) C d_H_endStock_0 rfl rfl ?_
  refine r_iconst C d_H_endStock_1 (by decide) ?_
  refine r_aload_n (i0 := 0) C d_H_endStock_2 rfl rfl ?_
  refine r_getO C fl_H_19 d_H_endStock_3 rfl rfl (fun hi => hi) ?_
  refine r_callVp C cl_H_144 im_U_allUnits rfl rfl (c_U_allUnits hx hn hu) rfl rfl d_H_endStock_6 (by decide) (Nat.le_of_ble_eq_true rfl) ?_
  refine r_callSp C cl_H_75 st_H_isOutside (c_H_isOutside hx) rfl rfl d_H_endStock_9 (by decide) (Nat.le_of_ble_eq_true rfl) ?_
  refine r_if_eq (tgt := 25) C d_H_endStock_12 (by decide) (fun q12 => ?_) (fun q12 => ?_)
  · refine r_aload_n (i0 := 0) C d_H_endStock_25 rfl rfl ?_
    refine r_iconst C d_H_endStock_26 (by decide) ?_
    refine r_putZ C pl_H_71 d_H_endStock_27 rfl (by omega) ?_
    refine r_aload_n (i0 := 0) C d_H_endStock_30 rfl rfl ?_
    refine r_getO C fl_H_19 d_H_endStock_31 rfl rfl (fun hi => hi) ?_
    refine r_iload_n (i0 := 1) C d_H_endStock_34 rfl rfl ?_
    refine r_putI C pl_H_149 d_H_endStock_35 rfl ?_
    exact r_vret C d_H_endStock_38 (Out.ret (by (repeat' split) <;> first | rfl | omega) rfl) (by decide) (fun q => nomatch q)
  · exact r_throw C tl_H_endStock_15 d_H_endStock_15 d_H_endStock_18 d_H_endStock_19 d_H_endStock_21 d_H_endStock_24 (by decide) (by decide) (Nat.le_of_ble_eq_true rfl) (Out.thr (by (repeat' split) <;> first | rfl | omega))
set_option maxHeartbeats 1000000 in
theorem c_H_sideCosts {l : Launch} (hl : l.stackTraces = false) {w : XW} {h : AH} {a : Int} : AM l y_H_sideCosts (wsM y_H_sideCosts b_H_sideCosts 2 none []) false (rmV 3 1) w [vO 1 0, vI a] h (Out (if a < 0 ∨ 20000 < a then some 0 else none) (none) h (fun h' => h' = hset (hset h 1 0 12 0) 1 0 8 a)) := by
  refine AM.of hl (by decide +kernel) (Nat.le_of_ble_eq_true rfl) fun x hx C _ => ?_
  refine r_iload_n (i0 := 1) C d_H_sideCosts_0 rfl rfl ?_
  refine r_iconst C d_H_sideCosts_1 (by decide) ?_
  refine r_sipush C d_H_sideCosts_2 (by decide) (by decide) ?_
  refine r_callSp C cl_H_75 st_H_isOutside (c_H_isOutside hx) rfl rfl d_H_sideCosts_5 (by decide) (Nat.le_of_ble_eq_true rfl) ?_
  refine r_if_eq (tgt := 21) C d_H_sideCosts_8 (by decide) (fun q8 => ?_) (fun q8 => ?_)
  · refine r_aload_n (i0 := 0) C d_H_sideCosts_21 rfl rfl ?_
    refine r_iconst C d_H_sideCosts_22 (by decide) ?_
    refine r_putZ C pl_H_71 d_H_sideCosts_23 rfl (by omega) ?_
    refine r_aload_n (i0 := 0) C d_H_sideCosts_26 rfl rfl ?_
    refine r_iload_n (i0 := 1) C d_H_sideCosts_27 rfl rfl ?_
    refine r_putI C pl_H_58 d_H_sideCosts_28 rfl ?_
    exact r_vret C d_H_sideCosts_31 (Out.ret (by (repeat' split) <;> first | rfl | omega) rfl) (by decide) (fun q => nomatch q)
  · exact r_throw C tl_H_sideCosts_11 d_H_sideCosts_11 d_H_sideCosts_14 d_H_sideCosts_15 d_H_sideCosts_17 d_H_sideCosts_20 (by decide) (by decide) (Nat.le_of_ble_eq_true rfl) (Out.thr (by (repeat' split) <;> first | rfl | omega))
set_option maxHeartbeats 1000000 in
theorem c_H_water {l : Launch} (hl : l.stackTraces = false) {w : XW} {h : AH} {a b : Int} : AM l y_H_water (wsM y_H_water b_H_water 3 none []) false (rmV 3 1) w [vO 1 0, vI a, vI b] h (Out (if a < -1 ∨ 10000000 < a ∨ b < 0 ∨ 100 < b then some 0 else none) (none) h (fun h' => h' = hset (hset (hset h 1 0 12 0) 1 0 9 a) 1 0 10 b)) := by
  refine AM.of hl (by decide +kernel) (Nat.le_of_ble_eq_true rfl) fun x hx C _ => ?_
  refine r_iload_n (i0 := 1) C d_H_water_0 rfl rfl ?_
  refine r_iconst C d_H_water_1 (by decide) ?_
  refine r_ldc C d_H_water_2 k_H_154 (by decide) ?_
  refine r_callSp C cl_H_75 st_H_isOutside (c_H_isOutside hx) rfl rfl d_H_water_4 (by decide) (Nat.le_of_ble_eq_true rfl) ?_
  refine r_if_ne (tgt := 20) C d_H_water_7 (by decide) (fun q7 => ?_) (fun q7 => ?_)
  · exact r_throw C tl_H_water_20 d_H_water_20 d_H_water_23 d_H_water_24 d_H_water_26 d_H_water_29 (by decide) (by decide) (Nat.le_of_ble_eq_true rfl) (Out.thr (by (repeat' split) <;> first | rfl | omega))
  · refine r_iload_n (i0 := 2) C d_H_water_10 rfl rfl ?_
    refine r_iconst C d_H_water_11 (by decide) ?_
    refine r_bipush C d_H_water_12 (by decide) (by decide) ?_
    refine r_callSp C cl_H_75 st_H_isOutside (c_H_isOutside hx) rfl rfl d_H_water_14 (by decide) (Nat.le_of_ble_eq_true rfl) ?_
    refine r_if_eq (tgt := 30) C d_H_water_17 (by decide) (fun q17 => ?_) (fun q17 => ?_)
    · refine r_aload_n (i0 := 0) C d_H_water_30 rfl rfl ?_
      refine r_iconst C d_H_water_31 (by decide) ?_
      refine r_putZ C pl_H_71 d_H_water_32 rfl (by omega) ?_
      refine r_aload_n (i0 := 0) C d_H_water_35 rfl rfl ?_
      refine r_iload_n (i0 := 1) C d_H_water_36 rfl rfl ?_
      refine r_putI C pl_H_62 d_H_water_37 rfl ?_
      refine r_aload_n (i0 := 0) C d_H_water_40 rfl rfl ?_
      refine r_iload_n (i0 := 2) C d_H_water_41 rfl rfl ?_
      refine r_putI C pl_H_65 d_H_water_42 rfl ?_
      exact r_vret C d_H_water_45 (Out.ret (by (repeat' split) <;> first | rfl | omega) rfl) (by decide) (fun q => nomatch q)
    · exact r_throw C tl_H_water_20 d_H_water_20 d_H_water_23 d_H_water_24 d_H_water_26 d_H_water_29 (by decide) (by decide) (Nat.le_of_ble_eq_true rfl) (Out.thr (by (repeat' split) <;> first | rfl | omega))
set_option maxHeartbeats 1000000 in
theorem c_H_permille {l : Launch} (hl : l.stackTraces = false) {w : XW} {h : AH} {a : Int} : AM l y_H_permille (wsM y_H_permille b_H_permille 2 none []) false (rmV 3 1) w [vO 1 0, vI a] h (Out (if a < 300 ∨ 700 < a then some 0 else none) (none) h (fun h' => h' = hset (hset h 1 0 12 0) 1 0 11 a)) := by
  refine AM.of hl (by decide +kernel) (Nat.le_of_ble_eq_true rfl) fun x hx C _ => ?_
  refine r_iload_n (i0 := 1) C d_H_permille_0 rfl rfl ?_
  refine r_sipush C d_H_permille_1 (by decide) (by decide) ?_
  refine r_sipush C d_H_permille_4 (by decide) (by decide) ?_
  refine r_callSp C cl_H_75 st_H_isOutside (c_H_isOutside hx) rfl rfl d_H_permille_7 (by decide) (Nat.le_of_ble_eq_true rfl) ?_
  refine r_if_eq (tgt := 23) C d_H_permille_10 (by decide) (fun q10 => ?_) (fun q10 => ?_)
  · refine r_aload_n (i0 := 0) C d_H_permille_23 rfl rfl ?_
    refine r_iconst C d_H_permille_24 (by decide) ?_
    refine r_putZ C pl_H_71 d_H_permille_25 rfl (by omega) ?_
    refine r_aload_n (i0 := 0) C d_H_permille_28 rfl rfl ?_
    refine r_iload_n (i0 := 1) C d_H_permille_29 rfl rfl ?_
    refine r_putI C pl_H_68 d_H_permille_30 rfl ?_
    exact r_vret C d_H_permille_33 (Out.ret (by (repeat' split) <;> first | rfl | omega) rfl) (by decide) (fun q => nomatch q)
  · exact r_throw C tl_H_permille_13 d_H_permille_13 d_H_permille_16 d_H_permille_17 d_H_permille_19 d_H_permille_22 (by decide) (by decide) (Nat.le_of_ble_eq_true rfl) (Out.thr (by (repeat' split) <;> first | rfl | omega))
set_option maxHeartbeats 1000000 in
theorem c_H_degrees {l : Launch} (hl : l.stackTraces = false) {w : XW} {h : AH} {a b : Int} : AM l y_H_degrees (wsM y_H_degrees b_H_degrees 3 none []) false (rmV 3 1) w [vO 1 0, vI a, vI b] h (Out (if a < 0 ∨ 11 < a then some 1 else if b < 0 ∨ 100 < b then some 0 else none) (none) h (fun h' => h' = hset (hset h 1 0 12 0) 29 0 a.toNat b)) := by
  refine AM.of hl (by decide +kernel) (Nat.le_of_ble_eq_true rfl) fun x hx C _ => ?_
  refine r_iload_n (i0 := 1) C d_H_degrees_0 rfl rfl ?_
  refine r_iconst C d_H_degrees_1 (by decide) ?_
  refine r_bipush C d_H_degrees_2 (by decide) (by decide) ?_
  refine r_callSp C cl_H_75 st_H_isOutside (c_H_isOutside hx) rfl rfl d_H_degrees_4 (by decide) (Nat.le_of_ble_eq_true rfl) ?_
  refine r_if_eq (tgt := 20) C d_H_degrees_7 (by decide) (fun q7 => ?_) (fun q7 => ?_)
  · refine r_iload_n (i0 := 2) C d_H_degrees_20 rfl rfl ?_
    refine r_iconst C d_H_degrees_21 (by decide) ?_
    refine r_bipush C d_H_degrees_22 (by decide) (by decide) ?_
    refine r_callSp C cl_H_75 st_H_isOutside (c_H_isOutside hx) rfl rfl d_H_degrees_24 (by decide) (Nat.le_of_ble_eq_true rfl) ?_
    refine r_if_eq (tgt := 40) C d_H_degrees_27 (by decide) (fun q27 => ?_) (fun q27 => ?_)
    · refine r_aload_n (i0 := 0) C d_H_degrees_40 rfl rfl ?_
      refine r_iconst C d_H_degrees_41 (by decide) ?_
      refine r_putZ C pl_H_71 d_H_degrees_42 rfl (by omega) ?_
      refine r_aload_n (i0 := 0) C d_H_degrees_45 rfl rfl ?_
      refine r_getO C fl_H_51 d_H_degrees_46 rfl rfl (fun hi => hi) ?_
      refine r_iload_n (i0 := 1) C d_H_degrees_49 rfl rfl ?_
      refine r_iload_n (i0 := 2) C d_H_degrees_50 rfl rfl ?_
      refine r_iastore (ln := 12) C d_H_degrees_51 rfl (fun _ => rfl) rfl (by omega) ?_
      exact r_vret C d_H_degrees_52 (Out.ret (by (repeat' split) <;> first | rfl | omega) rfl) (by decide) (fun q => nomatch q)
    · exact r_throw C tl_H_degrees_30 d_H_degrees_30 d_H_degrees_33 d_H_degrees_34 d_H_degrees_36 d_H_degrees_39 (by decide) (by decide) (Nat.le_of_ble_eq_true rfl) (Out.thr (by (repeat' split) <;> first | rfl | omega))
  · exact r_throw C tl_H_degrees_10 d_H_degrees_10 d_H_degrees_13 d_H_degrees_14 d_H_degrees_16 d_H_degrees_19 (by decide) (by decide) (Nat.le_of_ble_eq_true rfl) (Out.thr (by (repeat' split) <;> first | rfl | omega))
set_option maxHeartbeats 1000000 in
theorem c_H_prepay {l : Launch} (hl : l.stackTraces = false) {w : XW} {h : AH} {a b : Int} (ht : 0 ≤ h 23 0 4 ∧ h 23 0 4 ≤ 20) (hp : ∀ k : Nat, k < 20 → 0 ≤ h 27 0 k ∧ h 27 0 k ≤ 1000000) : AM l y_H_prepay (wsM y_H_prepay b_H_prepay 3 none []) false (rmV 3 1) w [vO 1 0, vI a, vI b] h (Out (if a < 0 ∨ h 23 0 4 ≤ a then some 1 else if b < 0 ∨ 20000 < b ∨ 1000000 < h 27 0 a.toNat + b then some 0 else none) (none) h (fun h' => h' = hset h 27 0 a.toNat (h 27 0 a.toNat + b))) := by
  refine AM.of hl (by decide +kernel) (Nat.le_of_ble_eq_true rfl) fun x hx C _ => ?_
  refine r_aload_n (i0 := 0) C d_H_prepay_0 rfl rfl ?_
  refine r_iload_n (i0 := 1) C d_H_prepay_1 rfl rfl ?_
  refine r_callVt C cl_H_163 im_H_needTenant rfl rfl (c_H_needTenant hx ht) rfl rfl d_H_prepay_2 (by decide) (Nat.le_of_ble_eq_true rfl) (by decide) (fun k hk => Out.thr (by by_cases z : a < 0 ∨ h 23 0 4 ≤ a <;> simp [z] at hk ⊢; exact hk)) (fun e2 => ?_)
  have en : ¬ (a < 0 ∨ h 23 0 4 ≤ a) := fun z => by rw [if_pos z] at e2; cases e2
  refine r_iload_n (i0 := 2) C d_H_prepay_5 rfl rfl ?_
  refine r_iconst C d_H_prepay_6 (by decide) ?_
  refine r_sipush C d_H_prepay_7 (by decide) (by decide) ?_
  refine r_callSp C cl_H_75 st_H_isOutside (c_H_isOutside hx) rfl rfl d_H_prepay_10 (by decide) (Nat.le_of_ble_eq_true rfl) ?_
  refine r_if_ne (tgt := 32) C d_H_prepay_13 (by decide) (fun q13 => ?_) (fun q13 => ?_)
  · exact r_throw C tl_H_prepay_32 d_H_prepay_32 d_H_prepay_35 d_H_prepay_36 d_H_prepay_38 d_H_prepay_41 (by decide) (by decide) (Nat.le_of_ble_eq_true rfl) (Out.thr (by (repeat' split) <;> first | rfl | omega))
  · refine r_aload_n (i0 := 0) C d_H_prepay_16 rfl rfl ?_
    refine r_getO C fl_H_47 d_H_prepay_17 rfl rfl (fun hi => hi) ?_
    refine r_getO C fl_H_166 d_H_prepay_20 rfl rfl (fun hi => hi) ?_
    refine r_iload_n (i0 := 1) C d_H_prepay_23 rfl rfl ?_
    refine r_iaload (ln := 20) C d_H_prepay_24 rfl (fun _ => rfl) rfl (by omega) ?_
    refine r_iload_n (i0 := 2) C d_H_prepay_25 rfl rfl ?_
    refine r_iadd C d_H_prepay_26 (by have := hp a.toNat (by omega); omega) ?_
    refine r_ldc C d_H_prepay_27 k_H_169 (by decide) ?_
    refine r_icmp_le (tgt := 42) C d_H_prepay_29 (by decide) (fun q29 => ?_) (fun q29 => ?_)
    · refine r_aload_n (i0 := 0) C d_H_prepay_42 rfl rfl ?_
      refine r_getO C fl_H_47 d_H_prepay_43 rfl rfl (fun hi => hi) ?_
      refine r_getO C fl_H_166 d_H_prepay_46 rfl rfl (fun hi => hi) ?_
      refine r_iload_n (i0 := 1) C d_H_prepay_49 rfl rfl ?_
      refine r_dup2 C d_H_prepay_50 rfl rfl ?_
      refine r_iaload (ln := 20) C d_H_prepay_51 rfl (fun _ => rfl) rfl (by omega) ?_
      refine r_iload_n (i0 := 2) C d_H_prepay_52 rfl rfl ?_
      refine r_iadd C d_H_prepay_53 (by have := hp a.toNat (by omega); omega) ?_
      refine r_iastore (ln := 20) C d_H_prepay_54 rfl (fun _ => rfl) rfl (by omega) ?_
      exact r_vret C d_H_prepay_55 (Out.ret (by (repeat' split) <;> first | rfl | omega) rfl) (by decide) (fun q => nomatch q)
    · exact r_throw C tl_H_prepay_32 d_H_prepay_32 d_H_prepay_35 d_H_prepay_36 d_H_prepay_38 d_H_prepay_41 (by decide) (by decide) (Nat.le_of_ble_eq_true rfl) (Out.thr (by (repeat' split) <;> first | rfl | omega))
theorem Out.retv {e : Option Nat} {v v' : Option AV} {h h' : AH} {P : AH → Prop} (he : e = none) (hv : v' = v) (hp : P h') : Out e v h P (.inl v') h' := Or.inr ⟨he, by rw [hv], hp⟩
set_option maxHeartbeats 1000000 in
theorem c_H_amount {l : Launch} (hl : l.stackTraces = false) {w : XW} {h : AH} {a b : Int} (ht : 0 ≤ h 23 0 4 ∧ h 23 0 4 ≤ 20) (ho : ∀ i j : Nat, i < 3 → j < 21 → 0 ≤ h 25 i j ∧ h 25 i j ≤ 300000) : AM l y_H_amount (wsM y_H_amount b_H_amount 3 (some .int) []) true (rmV 3 1) w [vO 1 0, vI a, vI b] h (Out (if h 1 0 12 = 0 then some 2 else if a < -1 ∨ h 23 0 4 ≤ a then some 1 else if b < 0 ∨ 3 < b then some 1 else none) (some (if b = 3 then vI (h 25 0 (a + 1).toNat + h 25 1 (a + 1).toNat + h 25 2 (a + 1).toNat) else vI (h 25 b.toNat (a + 1).toNat))) h (fun h' => h' = h)) := by
  refine AM.of hl (by decide +kernel) (Nat.le_of_ble_eq_true rfl) fun x hx C _ => ?_
  refine r_aload_n (i0 := 0) C d_H_amount_0 rfl rfl ?_
  refine r_callVt C cl_H_199 im_H_needBill rfl rfl (c_H_needBill hx) rfl rfl d_H_amount_1 (by decide) (Nat.le_of_ble_eq_true rfl) (by decide) (fun k hk => Out.thr (by by_cases z : h 1 0 12 = 0 <;> simp [z] at hk ⊢; exact hk)) (fun e1 => ?_)
  have eb : ¬ h 1 0 12 = 0 := fun z => by rw [if_pos z] at e1; cases e1
  refine r_aload_n (i0 := 0) C d_H_amount_4 rfl rfl ?_
  refine r_iload_n (i0 := 1) C d_H_amount_5 rfl rfl ?_
  refine r_callVt C cl_H_202 im_H_needTenantOrLandlord rfl rfl (c_H_needTenantOrLandlord hx ht) rfl rfl d_H_amount_6 (by decide) (Nat.le_of_ble_eq_true rfl) (by decide) (fun k hk => Out.thr (by by_cases z0 : h 1 0 12 = 0 <;> by_cases z : a < -1 ∨ h 23 0 4 ≤ a <;> simp [z0, z] at hk e1 ⊢; exact hk)) (fun e6 => ?_)
  have en : ¬ (a < -1 ∨ h 23 0 4 ≤ a) := fun z => by rw [if_pos z] at e6; cases e6
  refine r_iload_n (i0 := 2) C d_H_amount_9 rfl rfl ?_
  refine r_iconst C d_H_amount_10 (by decide) ?_
  refine r_iconst C d_H_amount_11 (by decide) ?_
  refine r_callSp C cl_H_75 st_H_isOutside (c_H_isOutside hx) rfl rfl d_H_amount_12 (by decide) (Nat.le_of_ble_eq_true rfl) ?_
  refine r_if_eq (tgt := 28) C d_H_amount_15 (by decide) (fun q15 => ?_) (fun q15 => ?_)
  · refine r_iload_n (i0 := 2) C d_H_amount_28 rfl rfl ?_
    refine r_iconst C d_H_amount_29 (by decide) ?_
    refine r_icmp_ne (tgt := 42) C d_H_amount_30 (by decide) (fun q30 => ?_) (fun q30 => ?_)
    · refine r_aload_n (i0 := 0) C d_H_amount_42 rfl rfl ?_
      refine r_getO C fl_H_47 d_H_amount_43 rfl rfl (fun hi => hi) ?_
      refine r_getO C fl_H_211 d_H_amount_46 rfl rfl (fun hi => hi) ?_
      refine r_iload_n (i0 := 2) C d_H_amount_49 rfl rfl ?_
      refine r_aaW C d_H_amount_50 (by omega) ?_
      refine r_iload_n (i0 := 1) C d_H_amount_51 rfl rfl ?_
      refine r_iconst C d_H_amount_52 (by decide) ?_
      refine r_iadd C d_H_amount_53 (by omega) ?_
      refine r_iaload (ln := 21) C d_H_amount_54 rfl (fun _ => rfl) rfl (by omega) ?_
      exact r_iret C d_H_amount_55 (fun _ => Out.retv (by simp [eb, en]; omega) (by rw [if_neg (by omega)]) rfl) (by decide) (fun _ => ⟨rfl, rfl, rfl⟩)
    · refine r_aload_n (i0 := 0) C d_H_amount_33 rfl rfl ?_
      refine r_getO C fl_H_47 d_H_amount_34 rfl rfl (fun hi => hi) ?_
      refine r_iload_n (i0 := 1) C d_H_amount_37 rfl rfl ?_
      refine r_callVp C cl_H_207 im_A_owedInAll rfl rfl (c_A_owedInAll hx ho (by omega)) rfl rfl d_H_amount_38 (by decide) (Nat.le_of_ble_eq_true rfl) ?_
      exact r_iret C d_H_amount_41 (fun _ => Out.retv (by simp [eb, en]; omega) (by rw [if_pos (by omega)]) rfl) (by decide) (fun _ => ⟨rfl, rfl, rfl⟩)
  · exact r_throw C tl_H_amount_18 d_H_amount_18 d_H_amount_21 d_H_amount_22 d_H_amount_24 d_H_amount_27 (by decide) (by decide) (Nat.le_of_ble_eq_true rfl) (Out.thr (by (repeat' split) <;> first | rfl | omega))
set_option maxHeartbeats 1000000 in
theorem c_H_paid {l : Launch} (hl : l.stackTraces = false) {w : XW} {h : AH} {a : Int} (ht : 0 ≤ h 23 0 4 ∧ h 23 0 4 ≤ 20) : AM l y_H_paid (wsM y_H_paid b_H_paid 2 (some .int) []) true (rmV 3 1) w [vO 1 0, vI a] h (Out (if a < 0 ∨ h 23 0 4 ≤ a then some 1 else none) (some (vI (h 27 0 a.toNat))) h (fun h' => h' = h)) := by
  refine AM.of hl (by decide +kernel) (Nat.le_of_ble_eq_true rfl) fun x hx C _ => ?_
  refine r_aload_n (i0 := 0) C d_H_paid_0 rfl rfl ?_
  refine r_iload_n (i0 := 1) C d_H_paid_1 rfl rfl ?_
  refine r_callVt C cl_H_163 im_H_needTenant rfl rfl (c_H_needTenant hx ht) rfl rfl d_H_paid_2 (by decide) (Nat.le_of_ble_eq_true rfl) (by decide) (fun k hk => Out.thr (by by_cases z : a < 0 ∨ h 23 0 4 ≤ a <;> simp [z] at hk ⊢; exact hk)) (fun e2 => ?_)
  have en : ¬ (a < 0 ∨ h 23 0 4 ≤ a) := fun z => by rw [if_pos z] at e2; cases e2
  refine r_aload_n (i0 := 0) C d_H_paid_5 rfl rfl ?_
  refine r_getO C fl_H_47 d_H_paid_6 rfl rfl (fun hi => hi) ?_
  refine r_getO C fl_H_166 d_H_paid_9 rfl rfl (fun hi => hi) ?_
  refine r_iload_n (i0 := 1) C d_H_paid_12 rfl rfl ?_
  refine r_iaload (ln := 20) C d_H_paid_13 rfl (fun _ => rfl) rfl (by omega) ?_
  exact r_iret C d_H_paid_14 (fun _ => Out.ret (by (repeat' split) <;> first | rfl | omega) rfl) (by decide) (fun _ => ⟨rfl, rfl, rfl⟩)
set_option maxHeartbeats 1000000 in
theorem c_H_part {l : Launch} (hl : l.stackTraces = false) {w : XW} {h : AH} {a : Int} : AM l y_H_part (wsM y_H_part b_H_part 2 (some .int) []) true (rmV 3 1) w [vO 1 0, vI a] h (Out (if h 1 0 12 = 0 then some 2 else if a < 0 ∨ 4 < a then some 1 else none) (some (vI (h 30 0 a.toNat))) h (fun h' => h' = h)) := by
  refine AM.of hl (by decide +kernel) (Nat.le_of_ble_eq_true rfl) fun x hx C _ => ?_
  refine r_aload_n (i0 := 0) C d_H_part_0 rfl rfl ?_
  refine r_callVt C cl_H_199 im_H_needBill rfl rfl (c_H_needBill hx) rfl rfl d_H_part_1 (by decide) (Nat.le_of_ble_eq_true rfl) (by decide) (fun k hk => Out.thr (by by_cases z : h 1 0 12 = 0 <;> simp [z] at hk ⊢; exact hk)) (fun e1 => ?_)
  have eb : ¬ h 1 0 12 = 0 := fun z => by rw [if_pos z] at e1; cases e1
  refine r_iload_n (i0 := 1) C d_H_part_4 rfl rfl ?_
  refine r_iconst C d_H_part_5 (by decide) ?_
  refine r_iconst C d_H_part_6 (by decide) ?_
  refine r_callSp C cl_H_75 st_H_isOutside (c_H_isOutside hx) rfl rfl d_H_part_7 (by decide) (Nat.le_of_ble_eq_true rfl) ?_
  refine r_if_eq (tgt := 23) C d_H_part_10 (by decide) (fun q10 => ?_) (fun q10 => ?_)
  · refine r_aload_n (i0 := 0) C d_H_part_23 rfl rfl ?_
    refine r_getO C fl_H_55 d_H_part_24 rfl rfl (fun hi => hi) ?_
    refine r_iload_n (i0 := 1) C d_H_part_27 rfl rfl ?_
    refine r_iaload (ln := 5) C d_H_part_28 rfl (fun _ => rfl) rfl (by omega) ?_
    exact r_iret C d_H_part_29 (fun _ => Out.ret (by (repeat' split) <;> first | rfl | omega) rfl) (by decide) (fun _ => ⟨rfl, rfl, rfl⟩)
  · exact r_throw C tl_H_part_13 d_H_part_13 d_H_part_16 d_H_part_17 d_H_part_19 d_H_part_22 (by decide) (by decide) (Nat.le_of_ble_eq_true rfl) (Out.thr (by (repeat' split) <;> first | rfl | omega))
set_option maxHeartbeats 1000000 in
theorem c_H_sent {l : Launch} (hl : l.stackTraces = false) {w : XW} {h : AH} {a : Int} (ht : 0 ≤ h 23 0 4 ∧ h 23 0 4 ≤ 20) : AM l y_H_sent (wsM y_H_sent b_H_sent 2 (some .int) []) true (rmV 3 1) w [vO 1 0, vI a] h (Out (if a < -1 ∨ h 23 0 4 ≤ a then some 1 else none) (some (vI (h 26 0 (a + 1).toNat))) h (fun h' => h' = h)) := by
  refine AM.of hl (by decide +kernel) (Nat.le_of_ble_eq_true rfl) fun x hx C _ => ?_
  refine r_aload_n (i0 := 0) C d_H_sent_0 rfl rfl ?_
  refine r_iload_n (i0 := 1) C d_H_sent_1 rfl rfl ?_
  refine r_callVt C cl_H_202 im_H_needTenantOrLandlord rfl rfl (c_H_needTenantOrLandlord hx ht) rfl rfl d_H_sent_2 (by decide) (Nat.le_of_ble_eq_true rfl) (by decide) (fun k hk => Out.thr (by by_cases z : a < -1 ∨ h 23 0 4 ≤ a <;> simp [z] at hk ⊢; exact hk)) (fun e2 => ?_)
  have en : ¬ (a < -1 ∨ h 23 0 4 ≤ a) := fun z => by rw [if_pos z] at e2; cases e2
  refine r_aload_n (i0 := 0) C d_H_sent_5 rfl rfl ?_
  refine r_getO C fl_H_47 d_H_sent_6 rfl rfl (fun hi => hi) ?_
  refine r_getO C fl_H_221 d_H_sent_9 rfl rfl (fun hi => hi) ?_
  refine r_iload_n (i0 := 1) C d_H_sent_12 rfl rfl ?_
  refine r_iconst C d_H_sent_13 (by decide) ?_
  refine r_iadd C d_H_sent_14 (by omega) ?_
  refine r_iaload (ln := 21) C d_H_sent_15 rfl (fun _ => rfl) rfl (by omega) ?_
  exact r_iret C d_H_sent_16 (fun _ => Out.ret (by (repeat' split) <;> first | rfl | omega) rfl) (by decide) (fun _ => ⟨rfl, rfl, rfl⟩)
set_option maxHeartbeats 1000000 in
theorem c_H_known {l : Launch} (hl : l.stackTraces = false) {w : XW} {h : AH} {a : Int} (hc : 0 ≤ h 2 0 1 ∧ h 2 0 1 ≤ 6) : AM l y_H_known (wsM y_H_known b_H_known 2 (some .int) []) true (rmV 3 1) w [vO 1 0, vI a] h (Out (if a < 0 ∨ h 2 0 1 ≤ a then some 1 else none) (some (vI (h 4 a.toNat 4))) h (fun h' => h' = h)) := by
  refine AM.of hl (by decide +kernel) (Nat.le_of_ble_eq_true rfl) fun x hx C _ => ?_
  refine r_aload_n (i0 := 0) C d_H_known_0 rfl rfl ?_
  refine r_iload_n (i0 := 1) C d_H_known_1 rfl rfl ?_
  refine r_callVt C cl_H_98 im_H_needFlat rfl rfl (c_H_needFlat hx hc) rfl rfl d_H_known_2 (by decide) (Nat.le_of_ble_eq_true rfl) (by decide) (fun k hk => Out.thr (by by_cases z : a < 0 ∨ h 2 0 1 ≤ a <;> simp [z] at hk ⊢; exact hk)) (fun e2 => ?_)
  have en : ¬ (a < 0 ∨ h 2 0 1 ≤ a) := fun z => by rw [if_pos z] at e2; cases e2
  refine r_aload_n (i0 := 0) C d_H_known_5 rfl rfl ?_
  refine r_getO C fl_H_12 d_H_known_6 rfl rfl (fun hi => hi) ?_
  refine r_getO C fl_H_109 d_H_known_9 rfl rfl (fun hi => hi) ?_
  refine r_iload_n (i0 := 1) C d_H_known_12 rfl rfl ?_
  refine r_aaF C d_H_known_13 (by omega) ?_
  refine r_getI C fl_H_235 d_H_known_14 rfl ?_
  exact r_iret C d_H_known_17 (fun _ => Out.ret (by (repeat' split) <;> first | rfl | omega) rfl) (by decide) (fun _ => ⟨rfl, rfl, rfl⟩)
end
section
/-! Contracts: small calls of the reference. -/
set_option maxHeartbeats 1000000 in
theorem c_R_reading {l : Launch} (hl : l.stackTraces = false) {w : XW} {h : AH} {a b c : Int} (hc : 0 ≤ h 40 0 1 ∧ h 40 0 1 ≤ 6) : AM l y_R_reading (wsM y_R_reading b_R_reading 4 none []) false (rmV 3 0) w [vO 40 0, vI a, vI b, vI c] h (Rout (if ¬ (0 ≤ a ∧ a < h 40 0 1) ∨ b < 0 ∨ 12 < b then 1 else if c < -1 ∨ 99 < c then 2 else 0) (none) (none) h (fun h' => h' = hset (hset (hset h 40 0 0 0) 44 0 (13 * a + b).toNat c) 40 0 19 0)) := by
  refine AM.of hl (by decide +kernel) (Nat.le_of_ble_eq_true rfl) fun x hx C _ => ?_
  have join : ∀ v : Int, v = (if ¬ (0 ≤ a ∧ a < h 40 0 1) ∨ b < 0 ∨ 12 < b then 1 else if c < -1 ∨ 99 < c then 2 else 0) → AW x w 4 true 0 0 (AQ x w false 0 0 (Rout (if ¬ (0 ≤ a ∧ a < h 40 0 1) ∨ b < 0 ∨ 12 < b then 1 else if c < -1 ∨ 99 < c then 2 else 0) (none) (none) h (fun h' => h' = hset (hset (hset h 40 0 0 0) 44 0 (13 * a + b).toNat c) 40 0 19 0))) 38 (aargs 0 [vO 40 0, vI a, vI b, vI c]) [vI v, vO 40 0] h := by
    intro v hv
    refine r_putI C pl_R_85 d_R_reading_38 rfl ?_
    refine r_aload_n (i0 := 0) C d_R_reading_41 rfl rfl ?_
    refine r_getI C fl_R_85 d_R_reading_42 rfl ?_
    rw [hset_same]
    refine r_if_ne (tgt := 65) C d_R_reading_45 (by decide) (fun q45 => ?_) (fun q45 => ?_)
    · exact r_vret C d_R_reading_65 ((by first | exact Rout.thr hv (by omega) | exact Rout.ret hv (by simp [hset]))) (by decide) (fun q => nomatch q)
    · have v0 : v = 0 := by omega
      subst v0
      refine r_aload_n (i0 := 0) C d_R_reading_48 rfl rfl ?_
      refine r_getO C fl_R_19 d_R_reading_49 rfl rfl (fun hi => hi) ?_
      refine r_bipush C d_R_reading_52 (by decide) (by decide) ?_
      refine r_iload_n (i0 := 1) C d_R_reading_54 rfl rfl ?_
      refine r_imul C d_R_reading_55 (by omega) ?_
      refine r_iload_n (i0 := 2) C d_R_reading_56 rfl rfl ?_
      refine r_iadd C d_R_reading_57 (by omega) ?_
      refine r_iload_n (i0 := 3) C d_R_reading_58 rfl rfl ?_
      refine r_iastore (ln := 78) C d_R_reading_59 rfl (fun _ => rfl) rfl (by omega) ?_
      refine r_aload_n (i0 := 0) C d_R_reading_60 rfl rfl ?_
      refine r_iconst C d_R_reading_61 (by decide) ?_
      refine r_putZ C pl_R_98 d_R_reading_62 rfl (by omega) ?_
      exact r_vret C d_R_reading_65 ((by first | exact Rout.thr hv (by omega) | exact Rout.ret hv (by simp [hset]))) (by decide) (fun q => nomatch q)
  refine r_aload_n (i0 := 0) C d_R_reading_0 rfl rfl ?_
  refine r_aload_n (i0 := 0) C d_R_reading_1 rfl rfl ?_
  refine r_iload_n (i0 := 1) C d_R_reading_2 rfl rfl ?_
  refine r_callVp C cl_R_102 im_R_isFlat rfl rfl (c_R_isFlat hx) rfl rfl d_R_reading_3 (by decide) (Nat.le_of_ble_eq_true rfl) ?_
  refine r_if_eq (tgt := 19) C d_R_reading_6 (by decide) (fun q6 => ?_) (fun q6 => ?_)
  · refine r_iconst C d_R_reading_19 (by decide) ?_
    refine r_goto (tgt := 38) C d_R_reading_20 (by decide) ?_
    exact join _ (by (repeat' split) <;> omega)
  · refine r_iload_n (i0 := 2) C d_R_reading_9 rfl rfl ?_
    refine r_iconst C d_R_reading_10 (by decide) ?_
    refine r_bipush C d_R_reading_11 (by decide) (by decide) ?_
    refine r_callSp C cl_R_94 st_R_within (c_R_within hx) rfl rfl d_R_reading_13 (by decide) (Nat.le_of_ble_eq_true rfl) ?_
    refine r_if_ne (tgt := 23) C d_R_reading_16 (by decide) (fun q16 => ?_) (fun q16 => ?_)
    · refine r_iload_n (i0 := 3) C d_R_reading_23 rfl rfl ?_
      refine r_iconst C d_R_reading_24 (by decide) ?_
      refine r_bipush C d_R_reading_25 (by decide) (by decide) ?_
      refine r_callSp C cl_R_94 st_R_within (c_R_within hx) rfl rfl d_R_reading_27 (by decide) (Nat.le_of_ble_eq_true rfl) ?_
      refine r_if_ne (tgt := 37) C d_R_reading_30 (by decide) (fun q30 => ?_) (fun q30 => ?_)
      · refine r_iconst C d_R_reading_37 (by decide) ?_
        exact join _ (by (repeat' split) <;> omega)
      · refine r_iconst C d_R_reading_33 (by decide) ?_
        refine r_goto (tgt := 38) C d_R_reading_34 (by decide) ?_
        exact join _ (by (repeat' split) <;> omega)
    · refine r_iconst C d_R_reading_19 (by decide) ?_
      refine r_goto (tgt := 38) C d_R_reading_20 (by decide) ?_
      exact join _ (by (repeat' split) <;> omega)
set_option maxHeartbeats 1000000 in
theorem c_R_wrongChange {l : Launch} (hl : l.stackTraces = false) {w : XW} {h : AH} {a b : Int} (hc : 0 ≤ h 40 0 1 ∧ h 40 0 1 ≤ 6) : AM l y_R_wrongChange (wsM y_R_wrongChange b_R_wrongChange 3 (some .int) []) true (rmV 2 0) w [vO 40 0, vI a, vI b] h (Ret (some (vI (if ¬ (0 ≤ a ∧ a < h 40 0 1) ∨ b < 0 ∨ 11 < b then 1 else if h 45 0 (12 * a + b).toNat = -5 then 0 else 2))) h) := by
  refine AM.of hl (by decide +kernel) (Nat.le_of_ble_eq_true rfl) fun x hx C _ => ?_
  refine r_aload_n (i0 := 0) C d_R_wrongChange_0 rfl rfl ?_
  refine r_iload_n (i0 := 1) C d_R_wrongChange_1 rfl rfl ?_
  refine r_callVp C cl_R_102 im_R_isFlat rfl rfl (c_R_isFlat hx) rfl rfl d_R_wrongChange_2 (by decide) (Nat.le_of_ble_eq_true rfl) ?_
  refine r_if_eq (tgt := 18) C d_R_wrongChange_5 (by decide) (fun q5 => ?_) (fun q5 => ?_)
  · refine r_iconst C d_R_wrongChange_18 (by decide) ?_
    refine r_goto (tgt := 43) C d_R_wrongChange_19 (by decide) ?_
    exact r_iret C d_R_wrongChange_43 (fun _ => ⟨vi_e (by (repeat' split) <;> omega), rfl⟩) (by decide) (fun _ => ⟨rfl, rfl, rfl⟩)
  · refine r_iload_n (i0 := 2) C d_R_wrongChange_8 rfl rfl ?_
    refine r_iconst C d_R_wrongChange_9 (by decide) ?_
    refine r_bipush C d_R_wrongChange_10 (by decide) (by decide) ?_
    refine r_callSp C cl_R_94 st_R_within (c_R_within hx) rfl rfl d_R_wrongChange_12 (by decide) (Nat.le_of_ble_eq_true rfl) ?_
    refine r_if_ne (tgt := 22) C d_R_wrongChange_15 (by decide) (fun q15 => ?_) (fun q15 => ?_)
    · refine r_aload_n (i0 := 0) C d_R_wrongChange_22 rfl rfl ?_
      refine r_getO C fl_R_22 d_R_wrongChange_23 rfl rfl (fun hi => hi) ?_
      refine r_bipush C d_R_wrongChange_26 (by decide) (by decide) ?_
      refine r_iload_n (i0 := 1) C d_R_wrongChange_28 rfl rfl ?_
      refine r_imul C d_R_wrongChange_29 (by omega) ?_
      refine r_iload_n (i0 := 2) C d_R_wrongChange_30 rfl rfl ?_
      refine r_iadd C d_R_wrongChange_31 (by omega) ?_
      refine r_iaload (ln := 72) C d_R_wrongChange_32 rfl (fun _ => rfl) rfl (by omega) ?_
      refine r_bipush C d_R_wrongChange_33 (by decide) (by decide) ?_
      refine r_icmp_eq (tgt := 42) C d_R_wrongChange_35 (by decide) (fun q35 => ?_) (fun q35 => ?_)
      · refine r_iconst C d_R_wrongChange_42 (by decide) ?_
        exact r_iret C d_R_wrongChange_43 (fun _ => ⟨vi_e (by (repeat' split) <;> omega), rfl⟩) (by decide) (fun _ => ⟨rfl, rfl, rfl⟩)
      · refine r_iconst C d_R_wrongChange_38 (by decide) ?_
        refine r_goto (tgt := 43) C d_R_wrongChange_39 (by decide) ?_
        exact r_iret C d_R_wrongChange_43 (fun _ => ⟨vi_e (by (repeat' split) <;> omega), rfl⟩) (by decide) (fun _ => ⟨rfl, rfl, rfl⟩)
    · refine r_iconst C d_R_wrongChange_18 (by decide) ?_
      refine r_goto (tgt := 43) C d_R_wrongChange_19 (by decide) ?_
      exact r_iret C d_R_wrongChange_43 (fun _ => ⟨vi_e (by (repeat' split) <;> omega), rfl⟩) (by decide) (fun _ => ⟨rfl, rfl, rfl⟩)
theorem hset_hset (h : AH) (t i j : Nat) (a b : Int) : hset (hset h t i j a) t i j b = hset h t i j b := by
  funext t' i' j'
  unfold hset
  split <;> rfl
theorem hset_tagf (h : AH) (a : Int) : hset h 40 0 0 a 40 0 9 = h 40 0 9 := by simp [hset]
set_option maxHeartbeats 1000000 in
theorem c_R_enter {l : Launch} (hl : l.stackTraces = false) {w : XW} {h : AH} {a b : Int} (hc : 0 ≤ h 40 0 1 ∧ h 40 0 1 ≤ 6) (ht : 0 ≤ h 40 0 9 ∧ h 40 0 9 ≤ 20) : AM l y_R_enter (wsM y_R_enter b_R_enter 3 (some .int) []) false (rmV 3 0) w [vO 40 0, vI a, vI b] h (Rout (if ¬ (0 ≤ a ∧ a < h 40 0 1) ∨ b < 0 ∨ 11 < b then 1 else if h 45 0 (12 * a + b).toNat = -5 then (if h 40 0 9 = 20 then 3 else 0) else 2) (some (vI 0)) (some (vI (h 40 0 9))) h (fun h' => h' = hset (hset (hset (hset h 40 0 0 0) 45 0 (12 * a + b).toNat (h 40 0 9)) 40 0 9 (h 40 0 9 + 1)) 40 0 19 0)) := by
  refine AM.of hl (by decide +kernel) (Nat.le_of_ble_eq_true rfl) fun x hx C _ => ?_
  have join : ∀ u v : Int, v = (if ¬ (0 ≤ a ∧ a < h 40 0 1) ∨ b < 0 ∨ 11 < b then 1 else if h 45 0 (12 * a + b).toNat = -5 then (if h 40 0 9 = 20 then 3 else 0) else 2) → AW x w 3 false 0 0 (AQ x w false 0 0 (Rout (if ¬ (0 ≤ a ∧ a < h 40 0 1) ∨ b < 0 ∨ 11 < b then 1 else if h 45 0 (12 * a + b).toNat = -5 then (if h 40 0 9 = 20 then 3 else 0) else 2) (some (vI 0)) (some (vI (h 40 0 9))) h (fun h' => h' = hset (hset (hset (hset h 40 0 0 0) 45 0 (12 * a + b).toNat (h 40 0 9)) 40 0 9 (h 40 0 9 + 1)) 40 0 19 0))) 35 (aargs 0 [vO 40 0, vI a, vI b]) [vI v, vO 40 0] (hset h 40 0 0 u) := by
    intro u v hv
    refine r_putI C pl_R_85 d_R_enter_35 rfl ?_
    refine r_aload_n (i0 := 0) C d_R_enter_38 rfl rfl ?_
    refine r_getI C fl_R_85 d_R_enter_39 rfl ?_
    rw [hset_hset, hset_same]
    refine r_if_le (tgt := 47) C d_R_enter_42 (by decide) (fun q42 => ?_) (fun q42 => ?_)
    · have v0 : v = 0 := by omega
      subst v0
      refine r_aload_n (i0 := 0) C d_R_enter_47 rfl rfl ?_
      refine r_getO C fl_R_22 d_R_enter_48 rfl rfl (fun hi => hi) ?_
      refine r_bipush C d_R_enter_51 (by decide) (by decide) ?_
      refine r_iload_n (i0 := 1) C d_R_enter_53 rfl rfl ?_
      refine r_imul C d_R_enter_54 (by omega) ?_
      refine r_iload_n (i0 := 2) C d_R_enter_55 rfl rfl ?_
      refine r_iadd C d_R_enter_56 (by omega) ?_
      refine r_aload_n (i0 := 0) C d_R_enter_57 rfl rfl ?_
      refine r_getI C fl_R_91 d_R_enter_58 rfl ?_
      refine r_iastore (ln := 72) C d_R_enter_61 rfl (fun _ => rfl) rfl (by omega) ?_
      refine r_aload_n (i0 := 0) C d_R_enter_62 rfl rfl ?_
      refine r_dup C d_R_enter_63 rfl ?_
      refine r_getI C fl_R_91 d_R_enter_64 rfl ?_
      refine r_iconst C d_R_enter_67 (by decide) ?_
      refine r_iadd C d_R_enter_68 (by simp [hset]; omega) ?_
      refine r_putI C pl_R_91 d_R_enter_69 rfl ?_
      refine r_aload_n (i0 := 0) C d_R_enter_72 rfl rfl ?_
      refine r_iconst C d_R_enter_73 (by decide) ?_
      refine r_putZ C pl_R_98 d_R_enter_74 rfl (by omega) ?_
      refine r_aload_n (i0 := 0) C d_R_enter_77 rfl rfl ?_
      refine r_getI C fl_R_91 d_R_enter_78 rfl ?_
      refine r_iconst C d_R_enter_81 (by decide) ?_
      refine r_isub C d_R_enter_82 (by simp [hset]; omega) ?_
      exact r_iret C d_R_enter_83 (fun _ => Or.inr ⟨hv.symm, by simp [hset], by simp [hset]⟩) (by decide) (fun q => nomatch q)
    · refine r_iconst C d_R_enter_45 (by decide) ?_
      exact r_iret C d_R_enter_46 (fun _ => Rout.thr hv (by omega)) (by decide) (fun q => nomatch q)
  refine r_aload_n (i0 := 0) C d_R_enter_0 rfl rfl ?_
  refine r_aload_n (i0 := 0) C d_R_enter_1 rfl rfl ?_
  refine r_iload_n (i0 := 1) C d_R_enter_2 rfl rfl ?_
  refine r_iload_n (i0 := 2) C d_R_enter_3 rfl rfl ?_
  refine r_callVp C cl_R_106 im_R_wrongChange rfl rfl (c_R_wrongChange hx hc) rfl rfl d_R_enter_4 (by decide) (Nat.le_of_ble_eq_true rfl) ?_
  refine r_putI C pl_R_85 d_R_enter_7 rfl ?_
  refine r_aload_n (i0 := 0) C d_R_enter_10 rfl rfl ?_
  refine r_aload_n (i0 := 0) C d_R_enter_11 rfl rfl ?_
  refine r_getI C fl_R_85 d_R_enter_12 rfl ?_
  rw [hset_same]
  refine r_if_ne (tgt := 31) C d_R_enter_15 (by decide) (fun q15 => ?_) (fun q15 => ?_)
  · refine r_aload_n (i0 := 0) C d_R_enter_31 rfl rfl ?_
    refine r_getI C fl_R_85 d_R_enter_32 rfl ?_
    rw [hset_same]
    exact join _ _ (by (repeat' split) <;> omega)
  · refine r_aload_n (i0 := 0) C d_R_enter_18 rfl rfl ?_
    refine r_getI C fl_R_91 d_R_enter_19 rfl ?_
    rw [hset_tagf]
    refine r_bipush C d_R_enter_22 (by decide) (by decide) ?_
    refine r_icmp_ne (tgt := 31) C d_R_enter_24 (by decide) (fun q24 => ?_) (fun q24 => ?_)
    · refine r_aload_n (i0 := 0) C d_R_enter_31 rfl rfl ?_
      refine r_getI C fl_R_85 d_R_enter_32 rfl ?_
      rw [hset_same]
      exact join _ _ (by (repeat' split) <;> omega)
    · refine r_iconst C d_R_enter_27 (by decide) ?_
      refine r_goto (tgt := 35) C d_R_enter_28 (by decide) ?_
      exact join _ _ (by (repeat' split) <;> omega)
set_option maxHeartbeats 1000000 in
theorem c_R_leave {l : Launch} (hl : l.stackTraces = false) {w : XW} {h : AH} {a b : Int} (hc : 0 ≤ h 40 0 1 ∧ h 40 0 1 ≤ 6) : AM l y_R_leave (wsM y_R_leave b_R_leave 3 none []) false (rmV 3 0) w [vO 40 0, vI a, vI b] h (Rout (if ¬ (0 ≤ a ∧ a < h 40 0 1) ∨ b < 0 ∨ 11 < b then 1 else if h 45 0 (12 * a + b).toNat = -5 then 0 else 2) (none) (none) h (fun h' => h' = hset (hset (hset h 40 0 0 0) 45 0 (12 * a + b).toNat (-1)) 40 0 19 0)) := by
  refine AM.of hl (by decide +kernel) (Nat.le_of_ble_eq_true rfl) fun x hx C _ => ?_
  have join : ∀ v : Int, v = (if ¬ (0 ≤ a ∧ a < h 40 0 1) ∨ b < 0 ∨ 11 < b then 1 else if h 45 0 (12 * a + b).toNat = -5 then 0 else 2) → AW x w 3 true 0 0 (AQ x w false 0 0 (Rout (if ¬ (0 ≤ a ∧ a < h 40 0 1) ∨ b < 0 ∨ 11 < b then 1 else if h 45 0 (12 * a + b).toNat = -5 then 0 else 2) (none) (none) h (fun h' => h' = hset (hset (hset h 40 0 0 0) 45 0 (12 * a + b).toNat (-1)) 40 0 19 0))) 7 (aargs 0 [vO 40 0, vI a, vI b]) [vI v, vO 40 0] h := by
    intro v hv
    refine r_putI C pl_R_85 d_R_leave_7 rfl ?_
    refine r_aload_n (i0 := 0) C d_R_leave_10 rfl rfl ?_
    refine r_getI C fl_R_85 d_R_leave_11 rfl ?_
    rw [hset_same]
    refine r_if_ne (tgt := 34) C d_R_leave_14 (by decide) (fun q14 => ?_) (fun q14 => ?_)
    · exact r_vret C d_R_leave_34 ((by first | exact Rout.thr hv (by omega) | exact Rout.ret hv (by simp [hset]))) (by decide) (fun q => nomatch q)
    · have v0 : v = 0 := by omega
      subst v0
      refine r_aload_n (i0 := 0) C d_R_leave_17 rfl rfl ?_
      refine r_getO C fl_R_22 d_R_leave_18 rfl rfl (fun hi => hi) ?_
      refine r_bipush C d_R_leave_21 (by decide) (by decide) ?_
      refine r_iload_n (i0 := 1) C d_R_leave_23 rfl rfl ?_
      refine r_imul C d_R_leave_24 (by omega) ?_
      refine r_iload_n (i0 := 2) C d_R_leave_25 rfl rfl ?_
      refine r_iadd C d_R_leave_26 (by omega) ?_
      refine r_iconst C d_R_leave_27 (by decide) ?_
      refine r_iastore (ln := 72) C d_R_leave_28 rfl (fun _ => rfl) rfl (by omega) ?_
      refine r_aload_n (i0 := 0) C d_R_leave_29 rfl rfl ?_
      refine r_iconst C d_R_leave_30 (by decide) ?_
      refine r_putZ C pl_R_98 d_R_leave_31 rfl (by omega) ?_
      exact r_vret C d_R_leave_34 ((by first | exact Rout.thr hv (by omega) | exact Rout.ret hv (by simp [hset]))) (by decide) (fun q => nomatch q)
  refine r_aload_n (i0 := 0) C d_R_leave_0 rfl rfl ?_
  refine r_aload_n (i0 := 0) C d_R_leave_1 rfl rfl ?_
  refine r_iload_n (i0 := 1) C d_R_leave_2 rfl rfl ?_
  refine r_iload_n (i0 := 2) C d_R_leave_3 rfl rfl ?_
  refine r_callVp C cl_R_106 im_R_wrongChange rfl rfl (c_R_wrongChange hx hc) rfl rfl d_R_leave_4 (by decide) (Nat.le_of_ble_eq_true rfl) ?_
  exact join _ (by (repeat' split) <;> omega)
set_option maxHeartbeats 1000000 in
theorem c_R_deliver {l : Launch} (hl : l.stackTraces = false) {w : XW} {h : AH} {a b : Int} (hn : 0 ≤ h 40 0 10 ∧ h 40 0 10 ≤ 12) : AM l y_R_deliver (wsM y_R_deliver b_R_deliver 3 none []) false (rmV 3 0) w [vO 40 0, vI a, vI b] h (Rout (if a < 1 ∨ 1000 < a ∨ b < 0 ∨ 20000 < b then 1 else if h 40 0 10 = 12 then 2 else 0) (none) (none) h (fun h' => h' = hset (hset (hset (hset (hset h 40 0 0 0) 48 0 (h 40 0 10).toNat a) 49 0 (h 40 0 10).toNat b) 40 0 10 (h 40 0 10 + 1)) 40 0 19 0)) := by
  refine AM.of hl (by decide +kernel) (Nat.le_of_ble_eq_true rfl) fun x hx C _ => ?_
  have join : ∀ v : Int, v = (if a < 1 ∨ 1000 < a ∨ b < 0 ∨ 20000 < b then 1 else if h 40 0 10 = 12 then 2 else 0) → AW x w 3 true 0 0 (AQ x w false 0 0 (Rout (if a < 1 ∨ 1000 < a ∨ b < 0 ∨ 20000 < b then 1 else if h 40 0 10 = 12 then 2 else 0) (none) (none) h (fun h' => h' = hset (hset (hset (hset (hset h 40 0 0 0) 48 0 (h 40 0 10).toNat a) 49 0 (h 40 0 10).toNat b) 40 0 10 (h 40 0 10 + 1)) 40 0 19 0))) 41 (aargs 0 [vO 40 0, vI a, vI b]) [vI v, vO 40 0] h := by
    intro v hv
    refine r_putI C pl_R_85 d_R_deliver_41 rfl ?_
    refine r_aload_n (i0 := 0) C d_R_deliver_44 rfl rfl ?_
    refine r_getI C fl_R_85 d_R_deliver_45 rfl ?_
    rw [hset_same]
    refine r_if_ne (tgt := 86) C d_R_deliver_48 (by decide) (fun q48 => ?_) (fun q48 => ?_)
    · exact r_vret C d_R_deliver_86 ((by first | exact Rout.thr hv (by omega) | exact Rout.ret hv (by simp [hset]))) (by decide) (fun q => nomatch q)
    · have v0 : v = 0 := by omega
      subst v0
      refine r_aload_n (i0 := 0) C d_R_deliver_51 rfl rfl ?_
      refine r_getO C fl_R_31 d_R_deliver_52 rfl rfl (fun hi => hi) ?_
      refine r_aload_n (i0 := 0) C d_R_deliver_55 rfl rfl ?_
      refine r_getI C fl_R_110 d_R_deliver_56 rfl ?_
      refine r_iload_n (i0 := 1) C d_R_deliver_59 rfl rfl ?_
      refine r_iastore (ln := 12) C d_R_deliver_60 rfl (fun _ => rfl) rfl (by simp [hset]; omega) ?_
      refine r_aload_n (i0 := 0) C d_R_deliver_61 rfl rfl ?_
      refine r_getO C fl_R_34 d_R_deliver_62 rfl rfl (fun hi => hi) ?_
      refine r_aload_n (i0 := 0) C d_R_deliver_65 rfl rfl ?_
      refine r_getI C fl_R_110 d_R_deliver_66 rfl ?_
      refine r_iload_n (i0 := 2) C d_R_deliver_69 rfl rfl ?_
      refine r_iastore (ln := 12) C d_R_deliver_70 rfl (fun _ => rfl) rfl (by simp [hset]; omega) ?_
      refine r_aload_n (i0 := 0) C d_R_deliver_71 rfl rfl ?_
      refine r_dup C d_R_deliver_72 rfl ?_
      refine r_getI C fl_R_110 d_R_deliver_73 rfl ?_
      refine r_iconst C d_R_deliver_76 (by decide) ?_
      refine r_iadd C d_R_deliver_77 (by simp [hset]; omega) ?_
      refine r_putI C pl_R_110 d_R_deliver_78 rfl ?_
      refine r_aload_n (i0 := 0) C d_R_deliver_81 rfl rfl ?_
      refine r_iconst C d_R_deliver_82 (by decide) ?_
      refine r_putZ C pl_R_98 d_R_deliver_83 rfl (by omega) ?_
      exact r_vret C d_R_deliver_86 ((by first | exact Rout.thr hv (by omega) | exact Rout.ret hv (by simp [hset]))) (by decide) (fun q => nomatch q)
  refine r_aload_n (i0 := 0) C d_R_deliver_0 rfl rfl ?_
  refine r_iload_n (i0 := 1) C d_R_deliver_1 rfl rfl ?_
  refine r_iconst C d_R_deliver_2 (by decide) ?_
  refine r_sipush C d_R_deliver_3 (by decide) (by decide) ?_
  refine r_callSp C cl_R_94 st_R_within (c_R_within hx) rfl rfl d_R_deliver_6 (by decide) (Nat.le_of_ble_eq_true rfl) ?_
  refine r_if_eq (tgt := 23) C d_R_deliver_9 (by decide) (fun q9 => ?_) (fun q9 => ?_)
  · refine r_iconst C d_R_deliver_23 (by decide) ?_
    refine r_goto (tgt := 41) C d_R_deliver_24 (by decide) ?_
    exact join _ (by (repeat' split) <;> omega)
  · refine r_iload_n (i0 := 2) C d_R_deliver_12 rfl rfl ?_
    refine r_iconst C d_R_deliver_13 (by decide) ?_
    refine r_sipush C d_R_deliver_14 (by decide) (by decide) ?_
    refine r_callSp C cl_R_94 st_R_within (c_R_within hx) rfl rfl d_R_deliver_17 (by decide) (Nat.le_of_ble_eq_true rfl) ?_
    refine r_if_ne (tgt := 27) C d_R_deliver_20 (by decide) (fun q20 => ?_) (fun q20 => ?_)
    · refine r_aload_n (i0 := 0) C d_R_deliver_27 rfl rfl ?_
      refine r_getI C fl_R_110 d_R_deliver_28 rfl ?_
      refine r_bipush C d_R_deliver_31 (by decide) (by decide) ?_
      refine r_icmp_ne (tgt := 40) C d_R_deliver_33 (by decide) (fun q33 => ?_) (fun q33 => ?_)
      · refine r_iconst C d_R_deliver_40 (by decide) ?_
        exact join _ (by (repeat' split) <;> omega)
      · refine r_iconst C d_R_deliver_36 (by decide) ?_
        refine r_goto (tgt := 41) C d_R_deliver_37 (by decide) ?_
        exact join _ (by (repeat' split) <;> omega)
    · refine r_iconst C d_R_deliver_23 (by decide) ?_
      refine r_goto (tgt := 41) C d_R_deliver_24 (by decide) ?_
      exact join _ (by (repeat' split) <;> omega)
set_option maxHeartbeats 1000000 in
theorem c_R_endStock {l : Launch} (hl : l.stackTraces = false) {w : XW} {h : AH} {a : Int} (hn : 0 ≤ h 40 0 10 ∧ h 40 0 10 ≤ 12) (hu : ∀ k : Nat, (k : Int) < h 40 0 10 → 0 ≤ h 48 0 k ∧ h 48 0 k ≤ 1000) : AM l y_R_endStock (wsM y_R_endStock b_R_endStock 2 none []) false (rmV 3 0) w [vO 40 0, vI a] h (Rout (if a < -1 ∨ sumF (h 40 0 10).toNat (h 48 0) < a then 1 else 0) (none) (none) h (fun h' => h' = hset (hset (hset h 40 0 0 0) 40 0 13 a) 40 0 19 0)) := by
  refine AM.of hl (by decide +kernel) (Nat.le_of_ble_eq_true rfl) fun x hx C _ => ?_
  have join : ∀ v : Int, v = (if a < -1 ∨ sumF (h 40 0 10).toNat (h 48 0) < a then 1 else 0) → AW x w 2 true 0 0 (AQ x w false 0 0 (Rout (if a < -1 ∨ sumF (h 40 0 10).toNat (h 48 0) < a then 1 else 0) (none) (none) h (fun h' => h' = hset (hset (hset h 40 0 0 0) 40 0 13 a) 40 0 19 0))) 18 (aargs 0 [vO 40 0, vI a]) [vI v, vO 40 0] h := by
    intro v hv
    refine r_putI C pl_R_85 d_R_endStock_18 rfl ?_
    refine r_aload_n (i0 := 0) C d_R_endStock_21 rfl rfl ?_
    refine r_getI C fl_R_85 d_R_endStock_22 rfl ?_
    rw [hset_same]
    refine r_if_ne (tgt := 38) C d_R_endStock_25 (by decide) (fun q25 => ?_) (fun q25 => ?_)
    · exact r_vret C d_R_endStock_38 ((by first | exact Rout.thr hv (by omega) | exact Rout.ret hv (by simp [hset]))) (by decide) (fun q => nomatch q)
    · have v0 : v = 0 := by omega
      subst v0
      refine r_aload_n (i0 := 0) C d_R_endStock_28 rfl rfl ?_
      refine r_iload_n (i0 := 1) C d_R_endStock_29 rfl rfl ?_
      refine r_putI C pl_R_37 d_R_endStock_30 rfl ?_
      refine r_aload_n (i0 := 0) C d_R_endStock_33 rfl rfl ?_
      refine r_iconst C d_R_endStock_34 (by decide) ?_
      refine r_putZ C pl_R_98 d_R_endStock_35 rfl (by omega) ?_
      exact r_vret C d_R_endStock_38 ((by first | exact Rout.thr hv (by omega) | exact Rout.ret hv (by simp [hset]))) (by decide) (fun q => nomatch q)
  refine r_aload_n (i0 := 0) C d_R_endStock_0 rfl rfl ?_
  refine r_iload_n (i0 := 1) C d_R_endStock_1 rfl rfl ?_
  refine r_iconst C d_R_endStock_2 (by decide) ?_
  refine r_aload_n (i0 := 0) C d_R_endStock_3 rfl rfl ?_
  refine r_callVp C cl_R_113 im_R_allUnits rfl rfl (c_R_allUnits hx hn hu) rfl rfl d_R_endStock_4 (by decide) (Nat.le_of_ble_eq_true rfl) ?_
  refine r_callSp C cl_R_94 st_R_within (c_R_within hx) rfl rfl d_R_endStock_7 (by decide) (Nat.le_of_ble_eq_true rfl) ?_
  refine r_if_eq (tgt := 17) C d_R_endStock_10 (by decide) (fun q10 => ?_) (fun q10 => ?_)
  · refine r_iconst C d_R_endStock_17 (by decide) ?_
    exact join _ (by (repeat' split) <;> omega)
  · refine r_iconst C d_R_endStock_13 (by decide) ?_
    refine r_goto (tgt := 18) C d_R_endStock_14 (by decide) ?_
    exact join _ (by (repeat' split) <;> omega)
set_option maxHeartbeats 1000000 in
theorem c_R_sideCosts {l : Launch} (hl : l.stackTraces = false) {w : XW} {h : AH} {a : Int} : AM l y_R_sideCosts (wsM y_R_sideCosts b_R_sideCosts 2 none []) false (rmV 3 0) w [vO 40 0, vI a] h (Rout (if a < 0 ∨ 20000 < a then 1 else 0) (none) (none) h (fun h' => h' = hset (hset (hset h 40 0 0 0) 40 0 14 a) 40 0 19 0)) := by
  refine AM.of hl (by decide +kernel) (Nat.le_of_ble_eq_true rfl) fun x hx C _ => ?_
  have join : ∀ v : Int, v = (if a < 0 ∨ 20000 < a then 1 else 0) → AW x w 2 true 0 0 (AQ x w false 0 0 (Rout (if a < 0 ∨ 20000 < a then 1 else 0) (none) (none) h (fun h' => h' = hset (hset (hset h 40 0 0 0) 40 0 14 a) 40 0 19 0))) 17 (aargs 0 [vO 40 0, vI a]) [vI v, vO 40 0] h := by
    intro v hv
    refine r_putI C pl_R_85 d_R_sideCosts_17 rfl ?_
    refine r_aload_n (i0 := 0) C d_R_sideCosts_20 rfl rfl ?_
    refine r_getI C fl_R_85 d_R_sideCosts_21 rfl ?_
    rw [hset_same]
    refine r_if_ne (tgt := 37) C d_R_sideCosts_24 (by decide) (fun q24 => ?_) (fun q24 => ?_)
    · exact r_vret C d_R_sideCosts_37 ((by first | exact Rout.thr hv (by omega) | exact Rout.ret hv (by simp [hset]))) (by decide) (fun q => nomatch q)
    · have v0 : v = 0 := by omega
      subst v0
      refine r_aload_n (i0 := 0) C d_R_sideCosts_27 rfl rfl ?_
      refine r_iload_n (i0 := 1) C d_R_sideCosts_28 rfl rfl ?_
      refine r_putI C pl_R_117 d_R_sideCosts_29 rfl ?_
      refine r_aload_n (i0 := 0) C d_R_sideCosts_32 rfl rfl ?_
      refine r_iconst C d_R_sideCosts_33 (by decide) ?_
      refine r_putZ C pl_R_98 d_R_sideCosts_34 rfl (by omega) ?_
      exact r_vret C d_R_sideCosts_37 ((by first | exact Rout.thr hv (by omega) | exact Rout.ret hv (by simp [hset]))) (by decide) (fun q => nomatch q)
  refine r_aload_n (i0 := 0) C d_R_sideCosts_0 rfl rfl ?_
  refine r_iload_n (i0 := 1) C d_R_sideCosts_1 rfl rfl ?_
  refine r_iconst C d_R_sideCosts_2 (by decide) ?_
  refine r_sipush C d_R_sideCosts_3 (by decide) (by decide) ?_
  refine r_callSp C cl_R_94 st_R_within (c_R_within hx) rfl rfl d_R_sideCosts_6 (by decide) (Nat.le_of_ble_eq_true rfl) ?_
  refine r_if_eq (tgt := 16) C d_R_sideCosts_9 (by decide) (fun q9 => ?_) (fun q9 => ?_)
  · refine r_iconst C d_R_sideCosts_16 (by decide) ?_
    exact join _ (by (repeat' split) <;> omega)
  · refine r_iconst C d_R_sideCosts_12 (by decide) ?_
    refine r_goto (tgt := 17) C d_R_sideCosts_13 (by decide) ?_
    exact join _ (by (repeat' split) <;> omega)
set_option maxHeartbeats 1000000 in
theorem c_R_water {l : Launch} (hl : l.stackTraces = false) {w : XW} {h : AH} {a b : Int} : AM l y_R_water (wsM y_R_water b_R_water 3 none []) false (rmV 3 0) w [vO 40 0, vI a, vI b] h (Rout (if a < -1 ∨ 10000000 < a ∨ b < 0 ∨ 100 < b then 1 else 0) (none) (none) h (fun h' => h' = hset (hset (hset (hset h 40 0 0 0) 40 0 15 a) 40 0 16 b) 40 0 19 0)) := by
  refine AM.of hl (by decide +kernel) (Nat.le_of_ble_eq_true rfl) fun x hx C _ => ?_
  have join : ∀ v : Int, v = (if a < -1 ∨ 10000000 < a ∨ b < 0 ∨ 100 < b then 1 else 0) → AW x w 3 true 0 0 (AQ x w false 0 0 (Rout (if a < -1 ∨ 10000000 < a ∨ b < 0 ∨ 100 < b then 1 else 0) (none) (none) h (fun h' => h' = hset (hset (hset (hset h 40 0 0 0) 40 0 15 a) 40 0 16 b) 40 0 19 0))) 26 (aargs 0 [vO 40 0, vI a, vI b]) [vI v, vO 40 0] h := by
    intro v hv
    refine r_putI C pl_R_85 d_R_water_26 rfl ?_
    refine r_aload_n (i0 := 0) C d_R_water_29 rfl rfl ?_
    refine r_getI C fl_R_85 d_R_water_30 rfl ?_
    rw [hset_same]
    refine r_if_ne (tgt := 51) C d_R_water_33 (by decide) (fun q33 => ?_) (fun q33 => ?_)
    · exact r_vret C d_R_water_51 ((by first | exact Rout.thr hv (by omega) | exact Rout.ret hv (by simp [hset]))) (by decide) (fun q => nomatch q)
    · have v0 : v = 0 := by omega
      subst v0
      refine r_aload_n (i0 := 0) C d_R_water_36 rfl rfl ?_
      refine r_iload_n (i0 := 1) C d_R_water_37 rfl rfl ?_
      refine r_putI C pl_R_41 d_R_water_38 rfl ?_
      refine r_aload_n (i0 := 0) C d_R_water_41 rfl rfl ?_
      refine r_iload_n (i0 := 2) C d_R_water_42 rfl rfl ?_
      refine r_putI C pl_R_121 d_R_water_43 rfl ?_
      refine r_aload_n (i0 := 0) C d_R_water_46 rfl rfl ?_
      refine r_iconst C d_R_water_47 (by decide) ?_
      refine r_putZ C pl_R_98 d_R_water_48 rfl (by omega) ?_
      exact r_vret C d_R_water_51 ((by first | exact Rout.thr hv (by omega) | exact Rout.ret hv (by simp [hset]))) (by decide) (fun q => nomatch q)
  refine r_aload_n (i0 := 0) C d_R_water_0 rfl rfl ?_
  refine r_iload_n (i0 := 1) C d_R_water_1 rfl rfl ?_
  refine r_iconst C d_R_water_2 (by decide) ?_
  refine r_ldc C d_R_water_3 k_R_120 (by decide) ?_
  refine r_callSp C cl_R_94 st_R_within (c_R_within hx) rfl rfl d_R_water_5 (by decide) (Nat.le_of_ble_eq_true rfl) ?_
  refine r_if_eq (tgt := 25) C d_R_water_8 (by decide) (fun q8 => ?_) (fun q8 => ?_)
  · refine r_iconst C d_R_water_25 (by decide) ?_
    exact join _ (by (repeat' split) <;> omega)
  · refine r_iload_n (i0 := 2) C d_R_water_11 rfl rfl ?_
    refine r_iconst C d_R_water_12 (by decide) ?_
    refine r_bipush C d_R_water_13 (by decide) (by decide) ?_
    refine r_callSp C cl_R_94 st_R_within (c_R_within hx) rfl rfl d_R_water_15 (by decide) (Nat.le_of_ble_eq_true rfl) ?_
    refine r_if_eq (tgt := 25) C d_R_water_18 (by decide) (fun q18 => ?_) (fun q18 => ?_)
    · refine r_iconst C d_R_water_25 (by decide) ?_
      exact join _ (by (repeat' split) <;> omega)
    · refine r_iconst C d_R_water_21 (by decide) ?_
      refine r_goto (tgt := 26) C d_R_water_22 (by decide) ?_
      exact join _ (by (repeat' split) <;> omega)
set_option maxHeartbeats 1000000 in
theorem c_R_permille {l : Launch} (hl : l.stackTraces = false) {w : XW} {h : AH} {a : Int} : AM l y_R_permille (wsM y_R_permille b_R_permille 2 none []) false (rmV 3 0) w [vO 40 0, vI a] h (Rout (if a < 300 ∨ 700 < a then 1 else 0) (none) (none) h (fun h' => h' = hset (hset (hset h 40 0 0 0) 40 0 17 a) 40 0 19 0)) := by
  refine AM.of hl (by decide +kernel) (Nat.le_of_ble_eq_true rfl) fun x hx C _ => ?_
  have join : ∀ v : Int, v = (if a < 300 ∨ 700 < a then 1 else 0) → AW x w 2 true 0 0 (AQ x w false 0 0 (Rout (if a < 300 ∨ 700 < a then 1 else 0) (none) (none) h (fun h' => h' = hset (hset (hset h 40 0 0 0) 40 0 17 a) 40 0 19 0))) 19 (aargs 0 [vO 40 0, vI a]) [vI v, vO 40 0] h := by
    intro v hv
    refine r_putI C pl_R_85 d_R_permille_19 rfl ?_
    refine r_aload_n (i0 := 0) C d_R_permille_22 rfl rfl ?_
    refine r_getI C fl_R_85 d_R_permille_23 rfl ?_
    rw [hset_same]
    refine r_if_ne (tgt := 39) C d_R_permille_26 (by decide) (fun q26 => ?_) (fun q26 => ?_)
    · exact r_vret C d_R_permille_39 ((by first | exact Rout.thr hv (by omega) | exact Rout.ret hv (by simp [hset]))) (by decide) (fun q => nomatch q)
    · have v0 : v = 0 := by omega
      subst v0
      refine r_aload_n (i0 := 0) C d_R_permille_29 rfl rfl ?_
      refine r_iload_n (i0 := 1) C d_R_permille_30 rfl rfl ?_
      refine r_putI C pl_R_44 d_R_permille_31 rfl ?_
      refine r_aload_n (i0 := 0) C d_R_permille_34 rfl rfl ?_
      refine r_iconst C d_R_permille_35 (by decide) ?_
      refine r_putZ C pl_R_98 d_R_permille_36 rfl (by omega) ?_
      exact r_vret C d_R_permille_39 ((by first | exact Rout.thr hv (by omega) | exact Rout.ret hv (by simp [hset]))) (by decide) (fun q => nomatch q)
  refine r_aload_n (i0 := 0) C d_R_permille_0 rfl rfl ?_
  refine r_iload_n (i0 := 1) C d_R_permille_1 rfl rfl ?_
  refine r_sipush C d_R_permille_2 (by decide) (by decide) ?_
  refine r_sipush C d_R_permille_5 (by decide) (by decide) ?_
  refine r_callSp C cl_R_94 st_R_within (c_R_within hx) rfl rfl d_R_permille_8 (by decide) (Nat.le_of_ble_eq_true rfl) ?_
  refine r_if_eq (tgt := 18) C d_R_permille_11 (by decide) (fun q11 => ?_) (fun q11 => ?_)
  · refine r_iconst C d_R_permille_18 (by decide) ?_
    exact join _ (by (repeat' split) <;> omega)
  · refine r_iconst C d_R_permille_14 (by decide) ?_
    refine r_goto (tgt := 19) C d_R_permille_15 (by decide) ?_
    exact join _ (by (repeat' split) <;> omega)
set_option maxHeartbeats 1000000 in
theorem c_R_degrees {l : Launch} (hl : l.stackTraces = false) {w : XW} {h : AH} {a b : Int} : AM l y_R_degrees (wsM y_R_degrees b_R_degrees 3 none []) false (rmV 3 0) w [vO 40 0, vI a, vI b] h (Rout (if a < 0 ∨ 11 < a then 1 else if b < 0 ∨ 100 < b then 2 else 0) (none) (none) h (fun h' => h' = hset (hset (hset h 40 0 0 0) 50 0 a.toNat b) 40 0 19 0)) := by
  refine AM.of hl (by decide +kernel) (Nat.le_of_ble_eq_true rfl) fun x hx C _ => ?_
  have join : ∀ v : Int, v = (if a < 0 ∨ 11 < a then 1 else if b < 0 ∨ 100 < b then 2 else 0) → AW x w 3 true 0 0 (AQ x w false 0 0 (Rout (if a < 0 ∨ 11 < a then 1 else if b < 0 ∨ 100 < b then 2 else 0) (none) (none) h (fun h' => h' = hset (hset (hset h 40 0 0 0) 50 0 a.toNat b) 40 0 19 0))) 30 (aargs 0 [vO 40 0, vI a, vI b]) [vI v, vO 40 0] h := by
    intro v hv
    refine r_putI C pl_R_85 d_R_degrees_30 rfl ?_
    refine r_aload_n (i0 := 0) C d_R_degrees_33 rfl rfl ?_
    refine r_getI C fl_R_85 d_R_degrees_34 rfl ?_
    rw [hset_same]
    refine r_if_ne (tgt := 52) C d_R_degrees_37 (by decide) (fun q37 => ?_) (fun q37 => ?_)
    · exact r_vret C d_R_degrees_52 ((by first | exact Rout.thr hv (by omega) | exact Rout.ret hv (by simp [hset]))) (by decide) (fun q => nomatch q)
    · have v0 : v = 0 := by omega
      subst v0
      refine r_aload_n (i0 := 0) C d_R_degrees_40 rfl rfl ?_
      refine r_getO C fl_R_47 d_R_degrees_41 rfl rfl (fun hi => hi) ?_
      refine r_iload_n (i0 := 1) C d_R_degrees_44 rfl rfl ?_
      refine r_iload_n (i0 := 2) C d_R_degrees_45 rfl rfl ?_
      refine r_iastore (ln := 12) C d_R_degrees_46 rfl (fun _ => rfl) rfl (by omega) ?_
      refine r_aload_n (i0 := 0) C d_R_degrees_47 rfl rfl ?_
      refine r_iconst C d_R_degrees_48 (by decide) ?_
      refine r_putZ C pl_R_98 d_R_degrees_49 rfl (by omega) ?_
      exact r_vret C d_R_degrees_52 ((by first | exact Rout.thr hv (by omega) | exact Rout.ret hv (by simp [hset]))) (by decide) (fun q => nomatch q)
  refine r_aload_n (i0 := 0) C d_R_degrees_0 rfl rfl ?_
  refine r_iload_n (i0 := 1) C d_R_degrees_1 rfl rfl ?_
  refine r_iconst C d_R_degrees_2 (by decide) ?_
  refine r_bipush C d_R_degrees_3 (by decide) (by decide) ?_
  refine r_callSp C cl_R_94 st_R_within (c_R_within hx) rfl rfl d_R_degrees_5 (by decide) (Nat.le_of_ble_eq_true rfl) ?_
  refine r_if_ne (tgt := 15) C d_R_degrees_8 (by decide) (fun q8 => ?_) (fun q8 => ?_)
  · refine r_iload_n (i0 := 2) C d_R_degrees_15 rfl rfl ?_
    refine r_iconst C d_R_degrees_16 (by decide) ?_
    refine r_bipush C d_R_degrees_17 (by decide) (by decide) ?_
    refine r_callSp C cl_R_94 st_R_within (c_R_within hx) rfl rfl d_R_degrees_19 (by decide) (Nat.le_of_ble_eq_true rfl) ?_
    refine r_if_ne (tgt := 29) C d_R_degrees_22 (by decide) (fun q22 => ?_) (fun q22 => ?_)
    · refine r_iconst C d_R_degrees_29 (by decide) ?_
      exact join _ (by (repeat' split) <;> omega)
    · refine r_iconst C d_R_degrees_25 (by decide) ?_
      refine r_goto (tgt := 30) C d_R_degrees_26 (by decide) ?_
      exact join _ (by (repeat' split) <;> omega)
  · refine r_iconst C d_R_degrees_11 (by decide) ?_
    refine r_goto (tgt := 30) C d_R_degrees_12 (by decide) ?_
    exact join _ (by (repeat' split) <;> omega)
set_option maxHeartbeats 1000000 in
theorem c_R_prepay {l : Launch} (hl : l.stackTraces = false) {w : XW} {h : AH} {a b : Int} (ht : 0 ≤ h 40 0 9 ∧ h 40 0 9 ≤ 20) (hp : ∀ k : Nat, k < 20 → 0 ≤ h 53 0 k ∧ h 53 0 k ≤ 1000000) : AM l y_R_prepay (wsM y_R_prepay b_R_prepay 3 none []) false (rmV 3 0) w [vO 40 0, vI a, vI b] h (Rout (if ¬ (0 ≤ a ∧ a < h 40 0 9) then 1 else if b < 0 ∨ 20000 < b ∨ 1000000 < h 53 0 a.toNat + b then 2 else 0) (none) (none) h (fun h' => h' = hset (hset h 40 0 0 0) 53 0 a.toNat (h 53 0 a.toNat + b))) := by
  refine AM.of hl (by decide +kernel) (Nat.le_of_ble_eq_true rfl) fun x hx C _ => ?_
  have join : ∀ v : Int, v = (if ¬ (0 ≤ a ∧ a < h 40 0 9) then 1 else if b < 0 ∨ 20000 < b ∨ 1000000 < h 53 0 a.toNat + b then 2 else 0) → AW x w 3 true 0 0 (AQ x w false 0 0 (Rout (if ¬ (0 ≤ a ∧ a < h 40 0 9) then 1 else if b < 0 ∨ 20000 < b ∨ 1000000 < h 53 0 a.toNat + b then 2 else 0) (none) (none) h (fun h' => h' = hset (hset h 40 0 0 0) 53 0 a.toNat (h 53 0 a.toNat + b)))) 42 (aargs 0 [vO 40 0, vI a, vI b]) [vI v, vO 40 0] h := by
    intro v hv
    refine r_putI C pl_R_85 d_R_prepay_42 rfl ?_
    refine r_aload_n (i0 := 0) C d_R_prepay_45 rfl rfl ?_
    refine r_getI C fl_R_85 d_R_prepay_46 rfl ?_
    rw [hset_same]
    refine r_if_ne (tgt := 66) C d_R_prepay_49 (by decide) (fun q49 => ?_) (fun q49 => ?_)
    · exact r_vret C d_R_prepay_66 ((by first | exact Rout.thr hv (by omega) | exact Rout.ret hv (by simp [hset]))) (by decide) (fun q => nomatch q)
    · have v0 : v = 0 := by omega
      subst v0
      refine r_aload_n (i0 := 0) C d_R_prepay_52 rfl rfl ?_
      refine r_getO C fl_R_56 d_R_prepay_53 rfl rfl (fun hi => hi) ?_
      refine r_iload_n (i0 := 1) C d_R_prepay_56 rfl rfl ?_
      refine r_aload_n (i0 := 0) C d_R_prepay_57 rfl rfl ?_
      refine r_getO C fl_R_56 d_R_prepay_58 rfl rfl (fun hi => hi) ?_
      refine r_iload_n (i0 := 1) C d_R_prepay_61 rfl rfl ?_
      refine r_iaload (ln := 20) C d_R_prepay_62 rfl (fun _ => rfl) rfl (by omega) ?_
      refine r_iload_n (i0 := 2) C d_R_prepay_63 rfl rfl ?_
      refine r_iadd C d_R_prepay_64 (by have := hp a.toNat (by omega); simp [hset]; omega) ?_
      refine r_iastore (ln := 20) C d_R_prepay_65 rfl (fun _ => rfl) rfl (by omega) ?_
      exact r_vret C d_R_prepay_66 ((by first | exact Rout.thr hv (by omega) | exact Rout.ret hv (by simp [hset]))) (by decide) (fun q => nomatch q)
  refine r_aload_n (i0 := 0) C d_R_prepay_0 rfl rfl ?_
  refine r_aload_n (i0 := 0) C d_R_prepay_1 rfl rfl ?_
  refine r_iload_n (i0 := 1) C d_R_prepay_2 rfl rfl ?_
  refine r_callVp C cl_R_124 im_R_isTenant rfl rfl (c_R_isTenant hx) rfl rfl d_R_prepay_3 (by decide) (Nat.le_of_ble_eq_true rfl) ?_
  refine r_if_ne (tgt := 13) C d_R_prepay_6 (by decide) (fun q6 => ?_) (fun q6 => ?_)
  · refine r_iload_n (i0 := 2) C d_R_prepay_13 rfl rfl ?_
    refine r_iconst C d_R_prepay_14 (by decide) ?_
    refine r_sipush C d_R_prepay_15 (by decide) (by decide) ?_
    refine r_callSp C cl_R_94 st_R_within (c_R_within hx) rfl rfl d_R_prepay_18 (by decide) (Nat.le_of_ble_eq_true rfl) ?_
    refine r_if_eq (tgt := 37) C d_R_prepay_21 (by decide) (fun q21 => ?_) (fun q21 => ?_)
    · refine r_iconst C d_R_prepay_37 (by decide) ?_
      refine r_goto (tgt := 42) C d_R_prepay_38 (by decide) ?_
      exact join _ (by (repeat' split) <;> omega)
    · refine r_aload_n (i0 := 0) C d_R_prepay_24 rfl rfl ?_
      refine r_getO C fl_R_56 d_R_prepay_25 rfl rfl (fun hi => hi) ?_
      refine r_iload_n (i0 := 1) C d_R_prepay_28 rfl rfl ?_
      refine r_iaload (ln := 20) C d_R_prepay_29 rfl (fun _ => rfl) rfl (by omega) ?_
      refine r_iload_n (i0 := 2) C d_R_prepay_30 rfl rfl ?_
      refine r_iadd C d_R_prepay_31 (by have := hp a.toNat (by omega); omega) ?_
      refine r_ldc C d_R_prepay_32 k_R_127 (by decide) ?_
      refine r_icmp_le (tgt := 41) C d_R_prepay_34 (by decide) (fun q34 => ?_) (fun q34 => ?_)
      · refine r_iconst C d_R_prepay_41 (by decide) ?_
        exact join _ (by (repeat' split) <;> omega)
      · refine r_iconst C d_R_prepay_37 (by decide) ?_
        refine r_goto (tgt := 42) C d_R_prepay_38 (by decide) ?_
        exact join _ (by (repeat' split) <;> omega)
  · refine r_iconst C d_R_prepay_9 (by decide) ?_
    refine r_goto (tgt := 42) C d_R_prepay_10 (by decide) ?_
    exact join _ (by (repeat' split) <;> omega)
set_option maxHeartbeats 1000000 in
theorem c_R_paid {l : Launch} (hl : l.stackTraces = false) {w : XW} {h : AH} {a : Int} (ht : 0 ≤ h 40 0 9 ∧ h 40 0 9 ≤ 20) : AM l y_R_paid (wsM y_R_paid b_R_paid 2 (some .int) []) false (rmV 3 0) w [vO 40 0, vI a] h (Rout (if 0 ≤ a ∧ a < h 40 0 9 then 0 else 1) (some (vI 0)) (some (vI (h 53 0 a.toNat))) h (fun h' => h' = hset h 40 0 0 0)) := by
  refine AM.of hl (by decide +kernel) (Nat.le_of_ble_eq_true rfl) fun x hx C _ => ?_
  have join : ∀ v : Int, v = (if 0 ≤ a ∧ a < h 40 0 9 then 0 else 1) → AW x w 2 true 0 0 (AQ x w false 0 0 (Rout (if 0 ≤ a ∧ a < h 40 0 9 then 0 else 1) (some (vI 0)) (some (vI (h 53 0 a.toNat))) h (fun h' => h' = hset h 40 0 0 0))) 14 (aargs 0 [vO 40 0, vI a]) [vI v, vO 40 0] h := by
    intro v hv
    refine r_putI C pl_R_85 d_R_paid_14 rfl ?_
    refine r_aload_n (i0 := 0) C d_R_paid_17 rfl rfl ?_
    refine r_getI C fl_R_85 d_R_paid_18 rfl ?_
    rw [hset_same]
    refine r_if_le (tgt := 28) C d_R_paid_21 (by decide) (fun q21 => ?_) (fun q21 => ?_)
    · have v0 : v = 0 := by omega
      subst v0
      refine r_aload_n (i0 := 0) C d_R_paid_28 rfl rfl ?_
      refine r_getO C fl_R_56 d_R_paid_29 rfl rfl (fun hi => hi) ?_
      refine r_iload_n (i0 := 1) C d_R_paid_32 rfl rfl ?_
      refine r_iaload (ln := 20) C d_R_paid_33 rfl (fun _ => rfl) rfl (by omega) ?_
      exact r_iret C d_R_paid_34 (fun _ => (by first | exact Rout.thr hv (by omega) | exact Rout.ret hv (rfl))) (by decide) (fun q => nomatch q)
    · refine r_iconst C d_R_paid_24 (by decide) ?_
      refine r_goto (tgt := 34) C d_R_paid_25 (by decide) ?_
      exact r_iret C d_R_paid_34 (fun _ => (by first | exact Rout.thr hv (by omega) | exact Rout.ret hv (rfl))) (by decide) (fun q => nomatch q)
  refine r_aload_n (i0 := 0) C d_R_paid_0 rfl rfl ?_
  refine r_aload_n (i0 := 0) C d_R_paid_1 rfl rfl ?_
  refine r_iload_n (i0 := 1) C d_R_paid_2 rfl rfl ?_
  refine r_callVp C cl_R_124 im_R_isTenant rfl rfl (c_R_isTenant hx) rfl rfl d_R_paid_3 (by decide) (Nat.le_of_ble_eq_true rfl) ?_
  refine r_if_eq (tgt := 13) C d_R_paid_6 (by decide) (fun q6 => ?_) (fun q6 => ?_)
  · refine r_iconst C d_R_paid_13 (by decide) ?_
    exact join _ (by (repeat' split) <;> omega)
  · refine r_iconst C d_R_paid_9 (by decide) ?_
    refine r_goto (tgt := 14) C d_R_paid_10 (by decide) ?_
    exact join _ (by (repeat' split) <;> omega)
set_option maxHeartbeats 1000000 in
theorem c_R_known {l : Launch} (hl : l.stackTraces = false) {w : XW} {h : AH} {a : Int} (hc : 0 ≤ h 40 0 1 ∧ h 40 0 1 ≤ 6) : AM l y_R_known (wsM y_R_known b_R_known 2 (some .int) []) false (rmV 3 0) w [vO 40 0, vI a] h (Rout (if 0 ≤ a ∧ a < h 40 0 1 then 0 else 1) (some (vI 0)) (some (vI (h 47 0 a.toNat))) h (fun h' => h' = hset h 40 0 0 0)) := by
  refine AM.of hl (by decide +kernel) (Nat.le_of_ble_eq_true rfl) fun x hx C _ => ?_
  have join : ∀ v : Int, v = (if 0 ≤ a ∧ a < h 40 0 1 then 0 else 1) → AW x w 2 true 0 0 (AQ x w false 0 0 (Rout (if 0 ≤ a ∧ a < h 40 0 1 then 0 else 1) (some (vI 0)) (some (vI (h 47 0 a.toNat))) h (fun h' => h' = hset h 40 0 0 0))) 14 (aargs 0 [vO 40 0, vI a]) [vI v, vO 40 0] h := by
    intro v hv
    refine r_putI C pl_R_85 d_R_known_14 rfl ?_
    refine r_aload_n (i0 := 0) C d_R_known_17 rfl rfl ?_
    refine r_getI C fl_R_85 d_R_known_18 rfl ?_
    rw [hset_same]
    refine r_if_le (tgt := 28) C d_R_known_21 (by decide) (fun q21 => ?_) (fun q21 => ?_)
    · have v0 : v = 0 := by omega
      subst v0
      refine r_aload_n (i0 := 0) C d_R_known_28 rfl rfl ?_
      refine r_getO C fl_R_28 d_R_known_29 rfl rfl (fun hi => hi) ?_
      refine r_iload_n (i0 := 1) C d_R_known_32 rfl rfl ?_
      refine r_iaload (ln := 6) C d_R_known_33 rfl (fun _ => rfl) rfl (by omega) ?_
      exact r_iret C d_R_known_34 (fun _ => (by first | exact Rout.thr hv (by omega) | exact Rout.ret hv (rfl))) (by decide) (fun q => nomatch q)
    · refine r_iconst C d_R_known_24 (by decide) ?_
      refine r_goto (tgt := 34) C d_R_known_25 (by decide) ?_
      exact r_iret C d_R_known_34 (fun _ => (by first | exact Rout.thr hv (by omega) | exact Rout.ret hv (rfl))) (by decide) (fun q => nomatch q)
  refine r_aload_n (i0 := 0) C d_R_known_0 rfl rfl ?_
  refine r_aload_n (i0 := 0) C d_R_known_1 rfl rfl ?_
  refine r_iload_n (i0 := 1) C d_R_known_2 rfl rfl ?_
  refine r_callVp C cl_R_102 im_R_isFlat rfl rfl (c_R_isFlat hx) rfl rfl d_R_known_3 (by decide) (Nat.le_of_ble_eq_true rfl) ?_
  refine r_if_eq (tgt := 13) C d_R_known_6 (by decide) (fun q6 => ?_) (fun q6 => ?_)
  · refine r_iconst C d_R_known_13 (by decide) ?_
    exact join _ (by (repeat' split) <;> omega)
  · refine r_iconst C d_R_known_9 (by decide) ?_
    refine r_goto (tgt := 14) C d_R_known_10 (by decide) ?_
    exact join _ (by (repeat' split) <;> omega)
set_option maxHeartbeats 1000000 in
theorem c_R_part {l : Launch} (hl : l.stackTraces = false) {w : XW} {h : AH} {a : Int} : AM l y_R_part (wsM y_R_part b_R_part 2 (some .int) []) false (rmV 3 0) w [vO 40 0, vI a] h (Rout (if h 40 0 19 = 0 then 1 else if a < 0 ∨ 4 < a then 2 else 0) (some (vI 0)) (some (vI (h 51 0 a.toNat))) h (fun h' => h' = hset h 40 0 0 0)) := by
  refine AM.of hl (by decide +kernel) (Nat.le_of_ble_eq_true rfl) fun x hx C _ => ?_
  have join : ∀ v : Int, v = (if h 40 0 19 = 0 then 1 else if a < 0 ∨ 4 < a then 2 else 0) → AW x w 2 true 0 0 (AQ x w false 0 0 (Rout (if h 40 0 19 = 0 then 1 else if a < 0 ∨ 4 < a then 2 else 0) (some (vI 0)) (some (vI (h 51 0 a.toNat))) h (fun h' => h' = hset h 40 0 0 0))) 26 (aargs 0 [vO 40 0, vI a]) [vI v, vO 40 0] h := by
    intro v hv
    refine r_putI C pl_R_85 d_R_part_26 rfl ?_
    refine r_aload_n (i0 := 0) C d_R_part_29 rfl rfl ?_
    refine r_getI C fl_R_85 d_R_part_30 rfl ?_
    rw [hset_same]
    refine r_if_le (tgt := 40) C d_R_part_33 (by decide) (fun q33 => ?_) (fun q33 => ?_)
    · have v0 : v = 0 := by omega
      subst v0
      refine r_aload_n (i0 := 0) C d_R_part_40 rfl rfl ?_
      refine r_getO C fl_R_50 d_R_part_41 rfl rfl (fun hi => hi) ?_
      refine r_iload_n (i0 := 1) C d_R_part_44 rfl rfl ?_
      refine r_iaload (ln := 5) C d_R_part_45 rfl (fun _ => rfl) rfl (by omega) ?_
      exact r_iret C d_R_part_46 (fun _ => (by first | exact Rout.thr hv (by omega) | exact Rout.ret hv (rfl))) (by decide) (fun q => nomatch q)
    · refine r_iconst C d_R_part_36 (by decide) ?_
      refine r_goto (tgt := 46) C d_R_part_37 (by decide) ?_
      exact r_iret C d_R_part_46 (fun _ => (by first | exact Rout.thr hv (by omega) | exact Rout.ret hv (rfl))) (by decide) (fun q => nomatch q)
  refine r_aload_n (i0 := 0) C d_R_part_0 rfl rfl ?_
  refine r_aload_n (i0 := 0) C d_R_part_1 rfl rfl ?_
  refine r_getI C fl_R_98 d_R_part_2 rfl ?_
  refine r_if_ne (tgt := 12) C d_R_part_5 (by decide) (fun q5 => ?_) (fun q5 => ?_)
  · refine r_iload_n (i0 := 1) C d_R_part_12 rfl rfl ?_
    refine r_iconst C d_R_part_13 (by decide) ?_
    refine r_iconst C d_R_part_14 (by decide) ?_
    refine r_callSp C cl_R_94 st_R_within (c_R_within hx) rfl rfl d_R_part_15 (by decide) (Nat.le_of_ble_eq_true rfl) ?_
    refine r_if_ne (tgt := 25) C d_R_part_18 (by decide) (fun q18 => ?_) (fun q18 => ?_)
    · refine r_iconst C d_R_part_25 (by decide) ?_
      exact join _ (by (repeat' split) <;> omega)
    · refine r_iconst C d_R_part_21 (by decide) ?_
      refine r_goto (tgt := 26) C d_R_part_22 (by decide) ?_
      exact join _ (by (repeat' split) <;> omega)
  · refine r_iconst C d_R_part_8 (by decide) ?_
    refine r_goto (tgt := 26) C d_R_part_9 (by decide) ?_
    exact join _ (by (repeat' split) <;> omega)
set_option maxHeartbeats 1000000 in
theorem c_R_sumOf {l : Launch} (hl : l.stackTraces = false) {w : XW} {h : AH} {a : Int} (hs : ∀ j : Nat, j < 63 → 0 ≤ h 52 0 j ∧ h 52 0 j ≤ 300000) (ha : 0 ≤ a ∧ a < 21) : AM l y_R_sumOf (wsM y_R_sumOf b_R_sumOf 2 (some .int) []) true (rmV 0 0) w [vO 40 0, vI a] h (Ret (some (vI (h 52 0 (3 * a).toNat + h 52 0 (3 * a + 1).toNat + h 52 0 (3 * a + 2).toNat))) h) := by
  refine AM.of hl (by decide +kernel) (Nat.le_of_ble_eq_true rfl) fun x hx C _ => ?_
  refine r_aload_n (i0 := 0) C d_R_sumOf_0 rfl rfl ?_
  refine r_getO C fl_R_53 d_R_sumOf_1 rfl rfl (fun hi => hi) ?_
  refine r_iconst C d_R_sumOf_4 (by decide) ?_
  refine r_iload_n (i0 := 1) C d_R_sumOf_5 rfl rfl ?_
  refine r_imul C d_R_sumOf_6 (by omega) ?_
  refine r_iaload (ln := 63) C d_R_sumOf_7 rfl (fun _ => rfl) rfl (by omega) ?_
  refine r_aload_n (i0 := 0) C d_R_sumOf_8 rfl rfl ?_
  refine r_getO C fl_R_53 d_R_sumOf_9 rfl rfl (fun hi => hi) ?_
  refine r_iconst C d_R_sumOf_12 (by decide) ?_
  refine r_iload_n (i0 := 1) C d_R_sumOf_13 rfl rfl ?_
  refine r_imul C d_R_sumOf_14 (by omega) ?_
  refine r_iconst C d_R_sumOf_15 (by decide) ?_
  refine r_iadd C d_R_sumOf_16 (by omega) ?_
  refine r_iaload (ln := 63) C d_R_sumOf_17 rfl (fun _ => rfl) rfl (by omega) ?_
  refine r_iadd C d_R_sumOf_18 (by have s0 := hs (3 * a).toNat (by omega); have s1 := hs (3 * a + 1).toNat (by omega); have s2 := hs (3 * a + 2).toNat (by omega); omega) ?_
  refine r_aload_n (i0 := 0) C d_R_sumOf_19 rfl rfl ?_
  refine r_getO C fl_R_53 d_R_sumOf_20 rfl rfl (fun hi => hi) ?_
  refine r_iconst C d_R_sumOf_23 (by decide) ?_
  refine r_iload_n (i0 := 1) C d_R_sumOf_24 rfl rfl ?_
  refine r_imul C d_R_sumOf_25 (by omega) ?_
  refine r_iconst C d_R_sumOf_26 (by decide) ?_
  refine r_iadd C d_R_sumOf_27 (by omega) ?_
  refine r_iaload (ln := 63) C d_R_sumOf_28 rfl (fun _ => rfl) rfl (by omega) ?_
  refine r_iadd C d_R_sumOf_29 (by have s0 := hs (3 * a).toNat (by omega); have s1 := hs (3 * a + 1).toNat (by omega); have s2 := hs (3 * a + 2).toNat (by omega); omega) ?_
  exact r_iret C d_R_sumOf_30 (fun _ => ⟨rfl, rfl⟩) (by decide) (fun _ => ⟨rfl, rfl, rfl⟩)
set_option maxHeartbeats 1000000 in
theorem c_R_changeAt {l : Launch} (hl : l.stackTraces = false) {w : XW} {h : AH} {a b : Int} (ha : 0 ≤ a ∧ a < 6) (hb : 0 ≤ b ∧ b < 12) : AM l y_R_changeAt (wsM y_R_changeAt b_R_changeAt 3 (some .int) []) true (rmV 0 0) w [vO 40 0, vI a, vI b] h (Ret (some (vI (h 45 0 (12 * a + b).toNat))) h) := by
  refine AM.of hl (by decide +kernel) (Nat.le_of_ble_eq_true rfl) fun x hx C _ => ?_
  refine r_aload_n (i0 := 0) C d_R_changeAt_0 rfl rfl ?_
  refine r_getO C fl_R_22 d_R_changeAt_1 rfl rfl (fun hi => hi) ?_
  refine r_bipush C d_R_changeAt_4 (by decide) (by decide) ?_
  refine r_iload_n (i0 := 1) C d_R_changeAt_6 rfl rfl ?_
  refine r_imul C d_R_changeAt_7 (by omega) ?_
  refine r_iload_n (i0 := 2) C d_R_changeAt_8 rfl rfl ?_
  refine r_iadd C d_R_changeAt_9 (by omega) ?_
  refine r_iaload (ln := 72) C d_R_changeAt_10 rfl (fun _ => rfl) rfl (by omega) ?_
  exact r_iret C d_R_changeAt_11 (fun _ => ⟨rfl, rfl⟩) (by decide) (fun _ => ⟨rfl, rfl, rfl⟩)
end
section
/-! Contracts: flat, amount, sent of the reference. -/
set_option maxHeartbeats 1000000 in
theorem c_R_flat {l : Launch} (hl : l.stackTraces = false) {w : XW} {h : AH} {a b c : Int} (hc : 0 ≤ h 40 0 1 ∧ h 40 0 1 ≤ 6) : AM l y_R_flat (wsM y_R_flat b_R_flat 5 (some .int) []) false (rmV 3 0) w [vO 40 0, vI a, vI b, vI c] h (Rout (if a < 1 ∨ 50 < a ∨ b < 0 ∨ 50 < b ∨ c < 1 ∨ 2 < c then 1 else if h 40 0 1 = 6 then 2 else 0) (some (vI 0)) (some (vI (h 40 0 1))) h (fun h' => h' = hset (hset (hfill (hfill (hset (hset (hset (hset (hset (hset h 40 0 0 0) 41 0 (h 40 0 1).toNat a) 42 0 (h 40 0 1).toNat b) 43 0 (h 40 0 1).toNat c) 46 0 (h 40 0 1).toNat (-1)) 47 0 (h 40 0 1).toNat (-1)) 44 0 (13 * (h 40 0 1).toNat) 13 (-1)) 45 0 (12 * (h 40 0 1).toNat) 12 (-5)) 40 0 1 (h 40 0 1 + 1)) 40 0 19 0)) := by
  refine AM.of hl (by decide +kernel) (Nat.le_of_ble_eq_true rfl) fun x hx C _ => ?_
  have join : ∀ v : Int, v = (if a < 1 ∨ 50 < a ∨ b < 0 ∨ 50 < b ∨ c < 1 ∨ 2 < c then 1 else if h 40 0 1 = 6 then 2 else 0) → AW x w 5 true 0 0 (AQ x w false 0 0 (Rout (if a < 1 ∨ 50 < a ∨ b < 0 ∨ 50 < b ∨ c < 1 ∨ 2 < c then 1 else if h 40 0 1 = 6 then 2 else 0) (some (vI 0)) (some (vI (h 40 0 1))) h (fun h' => h' = hset (hset (hfill (hfill (hset (hset (hset (hset (hset (hset h 40 0 0 0) 41 0 (h 40 0 1).toNat a) 42 0 (h 40 0 1).toNat b) 43 0 (h 40 0 1).toNat c) 46 0 (h 40 0 1).toNat (-1)) 47 0 (h 40 0 1).toNat (-1)) 44 0 (13 * (h 40 0 1).toNat) 13 (-1)) 45 0 (12 * (h 40 0 1).toNat) 12 (-5)) 40 0 1 (h 40 0 1 + 1)) 40 0 19 0))) 48 (aargs 0 [vO 40 0, vI a, vI b, vI c]) [vI v, vO 40 0] h := by
    intro v hv
    refine r_putI C pl_R_85 d_R_flat_48 rfl ?_
    refine r_aload_n (i0 := 0) C d_R_flat_51 rfl rfl ?_
    refine r_getI C fl_R_85 d_R_flat_52 rfl ?_
    rw [hset_same]
    refine r_if_le (tgt := 60) C d_R_flat_55 (by decide) (fun q55 => ?_) (fun q55 => ?_)
    · have v0 : v = 0 := by omega
      subst v0
      have hc6 : h 40 0 1 < 6 := by omega
      have loop2 : ∀ (m : Nat) (i : Int), 0 ≤ i → i ≤ 12 → (12 - i).toNat = m → AW x w 5 false 0 0 (AQ x w false 0 0 (Rout (if a < 1 ∨ 50 < a ∨ b < 0 ∨ 50 < b ∨ c < 1 ∨ 2 < c then 1 else if h 40 0 1 = 6 then 2 else 0) (some (vI 0)) (some (vI (h 40 0 1))) h (fun h' => h' = hset (hset (hfill (hfill (hset (hset (hset (hset (hset (hset h 40 0 0 0) 41 0 (h 40 0 1).toNat a) 42 0 (h 40 0 1).toNat b) 43 0 (h 40 0 1).toNat c) 46 0 (h 40 0 1).toNat (-1)) 47 0 (h 40 0 1).toNat (-1)) 44 0 (13 * (h 40 0 1).toNat) 13 (-1)) 45 0 (12 * (h 40 0 1).toNat) 12 (-5)) 40 0 1 (h 40 0 1 + 1)) 40 0 19 0))) 145 [(4, vI i), (0, vO 40 0), (1, vI a), (2, vI b), (3, vI c)] [] (hfill (hfill (hset (hset (hset (hset (hset (hset h 40 0 0 0) 41 0 (h 40 0 1).toNat a) 42 0 (h 40 0 1).toNat b) 43 0 (h 40 0 1).toNat c) 46 0 (h 40 0 1).toNat (-1)) 47 0 (h 40 0 1).toNat (-1)) 44 0 (13 * (h 40 0 1).toNat) 13 (-1)) 45 0 (12 * (h 40 0 1).toNat) i.toNat (-5)) := by
        intro m
        induction m using Nat.strongRecOn with
        | _ m ih =>
        intro i hi0 hi1 hm
        refine r_iload C d_R_flat_145 rfl ?_
        refine r_bipush C d_R_flat_147 (by decide) (by decide) ?_
        refine r_icmp_ge (tgt := 175) C d_R_flat_149 (by decide) (fun q149 => ?_) (fun q149 => ?_)
        · have e12 : i.toNat = 12 := by omega
          rw [e12]
          refine r_aload_n (i0 := 0) C d_R_flat_175 rfl rfl ?_
          refine r_dup C d_R_flat_176 rfl ?_
          refine r_getI C fl_R_88 d_R_flat_177 rfl ?_
          simp only [hset_tag, hset_slot, hfill_tag3, ne_eq, not_false_eq_true, reduceCtorEq, Nat.reduceEqDiff]
          refine r_iconst C d_R_flat_180 (by decide) ?_
          refine r_iadd C d_R_flat_181 (by omega) ?_
          refine r_putI C pl_R_88 d_R_flat_182 rfl ?_
          refine r_aload_n (i0 := 0) C d_R_flat_185 rfl rfl ?_
          refine r_iconst C d_R_flat_186 (by decide) ?_
          refine r_putZ C pl_R_98 d_R_flat_187 rfl (by omega) ?_
          refine r_aload_n (i0 := 0) C d_R_flat_190 rfl rfl ?_
          refine r_getI C fl_R_88 d_R_flat_191 rfl ?_
          refine r_iconst C d_R_flat_194 (by decide) ?_
          refine r_isub C d_R_flat_195 (by rw [hset_slot _ _ (by decide), hset_same]; omega) ?_
          exact r_iret C d_R_flat_196 (fun _ => Rout.retv hv (by rw [hset_slot _ _ (by decide), hset_same]; congr 2; omega) rfl) (by decide) (fun q => nomatch q)
        · refine r_aload_n (i0 := 0) C d_R_flat_152 rfl rfl ?_
          refine r_getO C fl_R_22 d_R_flat_153 rfl rfl (fun hi => hi) ?_
          refine r_bipush C d_R_flat_156 (by decide) (by decide) ?_
          refine r_aload_n (i0 := 0) C d_R_flat_158 rfl rfl ?_
          refine r_getI C fl_R_88 d_R_flat_159 rfl ?_
          simp only [hset_tag, hset_slot, hfill_tag3, ne_eq, not_false_eq_true, reduceCtorEq, Nat.reduceEqDiff]
          refine r_imul C d_R_flat_162 (by omega) ?_
          refine r_iload C d_R_flat_163 rfl ?_
          refine r_iadd C d_R_flat_165 (by omega) ?_
          refine r_bipush C d_R_flat_166 (by decide) (by decide) ?_
          refine r_iastore (ln := 72) C d_R_flat_168 rfl (fun _ => rfl) rfl (by omega) ?_
          refine r_iinc C d_R_flat_169 rfl (by decide) (by omega) ?_
          refine r_goto (tgt := 145) C d_R_flat_172 (by decide) ?_
          have e1 : (12 * h 40 0 1 + i).toNat = 12 * (h 40 0 1).toNat + i.toNat := by omega
          have e2 : (i + 1).toNat = i.toNat + 1 := by omega
          rw [e1, hfill_succ, ← e2]
          exact ih (m - 1) (by omega) (i + 1) (by omega) (by omega) (by omega)
      have loop1 : ∀ (m : Nat) (i : Int), 0 ≤ i → i ≤ 13 → (13 - i).toNat = m → AW x w 5 false 0 0 (AQ x w false 0 0 (Rout (if a < 1 ∨ 50 < a ∨ b < 0 ∨ 50 < b ∨ c < 1 ∨ 2 < c then 1 else if h 40 0 1 = 6 then 2 else 0) (some (vI 0)) (some (vI (h 40 0 1))) h (fun h' => h' = hset (hset (hfill (hfill (hset (hset (hset (hset (hset (hset h 40 0 0 0) 41 0 (h 40 0 1).toNat a) 42 0 (h 40 0 1).toNat b) 43 0 (h 40 0 1).toNat c) 46 0 (h 40 0 1).toNat (-1)) 47 0 (h 40 0 1).toNat (-1)) 44 0 (13 * (h 40 0 1).toNat) 13 (-1)) 45 0 (12 * (h 40 0 1).toNat) 12 (-5)) 40 0 1 (h 40 0 1 + 1)) 40 0 19 0))) 113 [(4, vI i), (0, vO 40 0), (1, vI a), (2, vI b), (3, vI c)] [] (hfill (hset (hset (hset (hset (hset (hset h 40 0 0 0) 41 0 (h 40 0 1).toNat a) 42 0 (h 40 0 1).toNat b) 43 0 (h 40 0 1).toNat c) 46 0 (h 40 0 1).toNat (-1)) 47 0 (h 40 0 1).toNat (-1)) 44 0 (13 * (h 40 0 1).toNat) i.toNat (-1)) := by
        intro m
        induction m using Nat.strongRecOn with
        | _ m ih =>
        intro i hi0 hi1 hm
        refine r_iload C d_R_flat_113 rfl ?_
        refine r_bipush C d_R_flat_115 (by decide) (by decide) ?_
        refine r_icmp_ge (tgt := 142) C d_R_flat_117 (by decide) (fun q117 => ?_) (fun q117 => ?_)
        · have e13 : i.toNat = 13 := by omega
          rw [e13]
          refine r_iconst C d_R_flat_142 (by decide) ?_
          refine r_istore C d_R_flat_143 (by decide) ?_
          refine AW.lvs [(4, vI 0), (0, vO 40 0), (1, vI a), (2, vI b), (3, vI c)] ⟨rfl, rfl, rfl, rfl, rfl, trivial⟩ ?_
          have l0 := loop2 _ 0 (by omega) (by omega) rfl
          rw [show (0 : Int).toNat = 0 from rfl, hfill_zero] at l0
          exact l0
        · refine r_aload_n (i0 := 0) C d_R_flat_120 rfl rfl ?_
          refine r_getO C fl_R_19 d_R_flat_121 rfl rfl (fun hi => hi) ?_
          refine r_bipush C d_R_flat_124 (by decide) (by decide) ?_
          refine r_aload_n (i0 := 0) C d_R_flat_126 rfl rfl ?_
          refine r_getI C fl_R_88 d_R_flat_127 rfl ?_
          simp only [hset_tag, hset_slot, hfill_tag3, ne_eq, not_false_eq_true, reduceCtorEq, Nat.reduceEqDiff]
          refine r_imul C d_R_flat_130 (by omega) ?_
          refine r_iload C d_R_flat_131 rfl ?_
          refine r_iadd C d_R_flat_133 (by omega) ?_
          refine r_iconst C d_R_flat_134 (by decide) ?_
          refine r_iastore (ln := 78) C d_R_flat_135 rfl (fun _ => rfl) rfl (by omega) ?_
          refine r_iinc C d_R_flat_136 rfl (by decide) (by omega) ?_
          refine r_goto (tgt := 113) C d_R_flat_139 (by decide) ?_
          have e1 : (13 * h 40 0 1 + i).toNat = 13 * (h 40 0 1).toNat + i.toNat := by omega
          have e2 : (i + 1).toNat = i.toNat + 1 := by omega
          rw [e1, hfill_succ, ← e2]
          exact ih (m - 1) (by omega) (i + 1) (by omega) (by omega) (by omega)
      refine r_aload_n (i0 := 0) C d_R_flat_60 rfl rfl ?_
      refine r_getO C fl_R_7 d_R_flat_61 rfl rfl (fun hi => hi) ?_
      refine r_aload_n (i0 := 0) C d_R_flat_64 rfl rfl ?_
      refine r_getI C fl_R_88 d_R_flat_65 rfl ?_
      simp only [hset_tag, hset_slot, hfill_tag3, ne_eq, not_false_eq_true, reduceCtorEq, Nat.reduceEqDiff]
      refine r_iload_n (i0 := 1) C d_R_flat_68 rfl rfl ?_
      refine r_iastore (ln := 6) C d_R_flat_69 rfl (fun _ => rfl) rfl (by omega) ?_
      refine r_aload_n (i0 := 0) C d_R_flat_70 rfl rfl ?_
      refine r_getO C fl_R_13 d_R_flat_71 rfl rfl (fun hi => hi) ?_
      refine r_aload_n (i0 := 0) C d_R_flat_74 rfl rfl ?_
      refine r_getI C fl_R_88 d_R_flat_75 rfl ?_
      simp only [hset_tag, hset_slot, hfill_tag3, ne_eq, not_false_eq_true, reduceCtorEq, Nat.reduceEqDiff]
      refine r_iload_n (i0 := 2) C d_R_flat_78 rfl rfl ?_
      refine r_iastore (ln := 6) C d_R_flat_79 rfl (fun _ => rfl) rfl (by omega) ?_
      refine r_aload_n (i0 := 0) C d_R_flat_80 rfl rfl ?_
      refine r_getO C fl_R_16 d_R_flat_81 rfl rfl (fun hi => hi) ?_
      refine r_aload_n (i0 := 0) C d_R_flat_84 rfl rfl ?_
      refine r_getI C fl_R_88 d_R_flat_85 rfl ?_
      simp only [hset_tag, hset_slot, hfill_tag3, ne_eq, not_false_eq_true, reduceCtorEq, Nat.reduceEqDiff]
      refine r_iload_n (i0 := 3) C d_R_flat_88 rfl rfl ?_
      refine r_iastore (ln := 6) C d_R_flat_89 rfl (fun _ => rfl) rfl (by omega) ?_
      refine r_aload_n (i0 := 0) C d_R_flat_90 rfl rfl ?_
      refine r_getO C fl_R_25 d_R_flat_91 rfl rfl (fun hi => hi) ?_
      refine r_aload_n (i0 := 0) C d_R_flat_94 rfl rfl ?_
      refine r_getI C fl_R_88 d_R_flat_95 rfl ?_
      simp only [hset_tag, hset_slot, hfill_tag3, ne_eq, not_false_eq_true, reduceCtorEq, Nat.reduceEqDiff]
      refine r_iconst C d_R_flat_98 (by decide) ?_
      refine r_iastore (ln := 6) C d_R_flat_99 rfl (fun _ => rfl) rfl (by omega) ?_
      refine r_aload_n (i0 := 0) C d_R_flat_100 rfl rfl ?_
      refine r_getO C fl_R_28 d_R_flat_101 rfl rfl (fun hi => hi) ?_
      refine r_aload_n (i0 := 0) C d_R_flat_104 rfl rfl ?_
      refine r_getI C fl_R_88 d_R_flat_105 rfl ?_
      simp only [hset_tag, hset_slot, hfill_tag3, ne_eq, not_false_eq_true, reduceCtorEq, Nat.reduceEqDiff]
      refine r_iconst C d_R_flat_108 (by decide) ?_
      refine r_iastore (ln := 6) C d_R_flat_109 rfl (fun _ => rfl) rfl (by omega) ?_
      refine r_iconst C d_R_flat_110 (by decide) ?_
      refine r_istore C d_R_flat_111 (by decide) ?_
      refine AW.lvs [(4, vI 0), (0, vO 40 0), (1, vI a), (2, vI b), (3, vI c)] ⟨rfl, rfl, rfl, rfl, rfl, trivial⟩ ?_
      have l0 := loop1 _ 0 (by omega) (by omega) rfl
      rw [show (0 : Int).toNat = 0 from rfl, hfill_zero] at l0
      exact l0
    · refine r_iconst C d_R_flat_58 (by decide) ?_
      exact r_iret C d_R_flat_59 (fun _ => Rout.thr hv (by omega)) (by decide) (fun q => nomatch q)
  refine r_aload_n (i0 := 0) C d_R_flat_0 rfl rfl ?_
  refine r_iload_n (i0 := 1) C d_R_flat_1 rfl rfl ?_
  refine r_iconst C d_R_flat_2 (by decide) ?_
  refine r_bipush C d_R_flat_3 (by decide) (by decide) ?_
  refine r_callSp C cl_R_94 st_R_within (c_R_within hx) rfl rfl d_R_flat_5 (by decide) (Nat.le_of_ble_eq_true rfl) ?_
  refine r_if_eq (tgt := 30) C d_R_flat_8 (by decide) (fun q8 => ?_) (fun q8 => ?_)
  · refine r_iconst C d_R_flat_30 (by decide) ?_
    refine r_goto (tgt := 48) C d_R_flat_31 (by decide) ?_
    exact join _ (by (repeat' split) <;> omega)
  · refine r_iload_n (i0 := 2) C d_R_flat_11 rfl rfl ?_
    refine r_iconst C d_R_flat_12 (by decide) ?_
    refine r_bipush C d_R_flat_13 (by decide) (by decide) ?_
    refine r_callSp C cl_R_94 st_R_within (c_R_within hx) rfl rfl d_R_flat_15 (by decide) (Nat.le_of_ble_eq_true rfl) ?_
    refine r_if_eq (tgt := 30) C d_R_flat_18 (by decide) (fun q18 => ?_) (fun q18 => ?_)
    · refine r_iconst C d_R_flat_30 (by decide) ?_
      refine r_goto (tgt := 48) C d_R_flat_31 (by decide) ?_
      exact join _ (by (repeat' split) <;> omega)
    · refine r_iload_n (i0 := 3) C d_R_flat_21 rfl rfl ?_
      refine r_iconst C d_R_flat_22 (by decide) ?_
      refine r_iconst C d_R_flat_23 (by decide) ?_
      refine r_callSp C cl_R_94 st_R_within (c_R_within hx) rfl rfl d_R_flat_24 (by decide) (Nat.le_of_ble_eq_true rfl) ?_
      refine r_if_ne (tgt := 34) C d_R_flat_27 (by decide) (fun q27 => ?_) (fun q27 => ?_)
      · refine r_aload_n (i0 := 0) C d_R_flat_34 rfl rfl ?_
        refine r_getI C fl_R_88 d_R_flat_35 rfl ?_
        refine r_bipush C d_R_flat_38 (by decide) (by decide) ?_
        refine r_icmp_ne (tgt := 47) C d_R_flat_40 (by decide) (fun q40 => ?_) (fun q40 => ?_)
        · refine r_iconst C d_R_flat_47 (by decide) ?_
          exact join _ (by (repeat' split) <;> omega)
        · refine r_iconst C d_R_flat_43 (by decide) ?_
          refine r_goto (tgt := 48) C d_R_flat_44 (by decide) ?_
          exact join _ (by (repeat' split) <;> omega)
      · refine r_iconst C d_R_flat_30 (by decide) ?_
        refine r_goto (tgt := 48) C d_R_flat_31 (by decide) ?_
        exact join _ (by (repeat' split) <;> omega)
set_option maxHeartbeats 1000000 in
theorem c_R_amount {l : Launch} (hl : l.stackTraces = false) {w : XW} {h : AH} {a b : Int} (ht : 0 ≤ h 40 0 9 ∧ h 40 0 9 ≤ 20) (hs : ∀ j : Nat, j < 63 → 0 ≤ h 52 0 j ∧ h 52 0 j ≤ 300000) : AM l y_R_amount (wsM y_R_amount b_R_amount 4 (some .int) []) false (rmV 3 0) w [vO 40 0, vI a, vI b] h (Rout (if h 40 0 19 = 0 then 1 else if ¬ (a = -1 ∨ 0 ≤ a ∧ a < h 40 0 9) ∨ b < 0 ∨ 3 < b then 2 else 0) (some (vI 0)) (some (if b = 3 then vI (h 52 0 (3 * (if a = -1 then 20 else a)).toNat + h 52 0 (3 * (if a = -1 then 20 else a) + 1).toNat + h 52 0 (3 * (if a = -1 then 20 else a) + 2).toNat) else vI (h 52 0 (3 * (if a = -1 then 20 else a) + b).toNat))) h (fun h' => h' = hset h 40 0 0 0)) := by
  refine AM.of hl (by decide +kernel) (Nat.le_of_ble_eq_true rfl) fun x hx C _ => ?_
  have join2 : ∀ v : Int, v = (if h 40 0 19 = 0 then 1 else if ¬ (a = -1 ∨ 0 ≤ a ∧ a < h 40 0 9) ∨ b < 0 ∨ 3 < b then 2 else 0) → ∀ r : Int, r = (if a = -1 then 20 else a) → AW x w 4 false 0 0 (AQ x w false 0 0 (Rout (if h 40 0 19 = 0 then 1 else if ¬ (a = -1 ∨ 0 ≤ a ∧ a < h 40 0 9) ∨ b < 0 ∨ 3 < b then 2 else 0) (some (vI 0)) (some (if b = 3 then vI (h 52 0 (3 * (if a = -1 then 20 else a)).toNat + h 52 0 (3 * (if a = -1 then 20 else a) + 1).toNat + h 52 0 (3 * (if a = -1 then 20 else a) + 2).toNat) else vI (h 52 0 (3 * (if a = -1 then 20 else a) + b).toNat))) h (fun h' => h' = hset h 40 0 0 0))) 53 (aargs 0 [vO 40 0, vI a, vI b]) [vI r] (hset h 40 0 0 v) := by
    intro v hv r hr
    refine r_istore_n (i0 := 3) C d_R_amount_53 rfl (by decide) ?_
    refine r_aload_n (i0 := 0) C d_R_amount_54 rfl rfl ?_
    refine r_getI C fl_R_85 d_R_amount_55 rfl ?_
    rw [hset_same]
    refine r_if_le (tgt := 65) C d_R_amount_58 (by decide) (fun q58 => ?_) (fun q58 => ?_)
    · have v0 : v = 0 := by omega
      subst v0
      refine r_iload_n (i0 := 2) C d_R_amount_65 rfl rfl ?_
      refine r_iconst C d_R_amount_66 (by decide) ?_
      refine r_icmp_ne (tgt := 78) C d_R_amount_67 (by decide) (fun q67 => ?_) (fun q67 => ?_)
      · refine r_aload_n (i0 := 0) C d_R_amount_78 rfl rfl ?_
        refine r_getO C fl_R_53 d_R_amount_79 rfl rfl (fun hi => hi) ?_
        refine r_iconst C d_R_amount_82 (by decide) ?_
        refine r_iload_n (i0 := 3) C d_R_amount_83 rfl rfl ?_
        refine r_imul C d_R_amount_84 (by omega) ?_
        refine r_iload_n (i0 := 2) C d_R_amount_85 rfl rfl ?_
        refine r_iadd C d_R_amount_86 (by omega) ?_
        refine r_iaload (ln := 63) C d_R_amount_87 rfl (fun _ => rfl) rfl (by omega) ?_
        exact r_iret C d_R_amount_88 (fun _ => (by first | exact Rout.thr hv (by omega) | (exact Rout.retv hv (by rw [← hr]; first | (rw [if_pos (by omega)]; done) | (rw [if_neg (by omega)]; rfl)) rfl))) (by decide) (fun q => nomatch q)
      · refine r_aload_n (i0 := 0) C d_R_amount_70 rfl rfl ?_
        refine r_iload_n (i0 := 3) C d_R_amount_71 rfl rfl ?_
        refine r_callVp C cl_R_233 im_R_sumOf rfl rfl (c_R_sumOf hx (fun j hj => by rw [hset_tag _ _ (by decide)]; exact hs j hj) (by omega)) rfl rfl d_R_amount_72 (by decide) (Nat.le_of_ble_eq_true rfl) ?_
        simp only [hset_fr _ _ _ _ (show (52 : Nat) ≠ 40 by decide)]
        refine r_goto (tgt := 88) C d_R_amount_75 (by decide) ?_
        exact r_iret C d_R_amount_88 (fun _ => (by first | exact Rout.thr hv (by omega) | (exact Rout.retv hv (by rw [← hr]; first | (rw [if_pos (by omega)]; done) | (rw [if_neg (by omega)]; rfl)) rfl))) (by decide) (fun q => nomatch q)
    · refine r_iconst C d_R_amount_61 (by decide) ?_
      refine r_goto (tgt := 88) C d_R_amount_62 (by decide) ?_
      exact r_iret C d_R_amount_88 (fun _ => (by first | exact Rout.thr hv (by omega) | (exact Rout.retv hv (by rw [← hr]; first | (rw [if_pos (by omega)]; done) | (rw [if_neg (by omega)]; rfl)) rfl))) (by decide) (fun q => nomatch q)
  have join : ∀ v : Int, v = (if h 40 0 19 = 0 then 1 else if ¬ (a = -1 ∨ 0 ≤ a ∧ a < h 40 0 9) ∨ b < 0 ∨ 3 < b then 2 else 0) → AW x w 4 true 0 0 (AQ x w false 0 0 (Rout (if h 40 0 19 = 0 then 1 else if ¬ (a = -1 ∨ 0 ≤ a ∧ a < h 40 0 9) ∨ b < 0 ∨ 3 < b then 2 else 0) (some (vI 0)) (some (if b = 3 then vI (h 52 0 (3 * (if a = -1 then 20 else a)).toNat + h 52 0 (3 * (if a = -1 then 20 else a) + 1).toNat + h 52 0 (3 * (if a = -1 then 20 else a) + 2).toNat) else vI (h 52 0 (3 * (if a = -1 then 20 else a) + b).toNat))) h (fun h' => h' = hset h 40 0 0 0))) 39 (aargs 0 [vO 40 0, vI a, vI b]) [vI v, vO 40 0] h := by
    intro v hv
    refine r_putI C pl_R_85 d_R_amount_39 rfl ?_
    refine r_iload_n (i0 := 1) C d_R_amount_42 rfl rfl ?_
    refine r_iconst C d_R_amount_43 (by decide) ?_
    refine r_icmp_ne (tgt := 52) C d_R_amount_44 (by decide) (fun q44 => ?_) (fun q44 => ?_)
    · refine r_iload_n (i0 := 1) C d_R_amount_52 rfl rfl ?_
      exact join2 v hv _ (by (repeat' split) <;> omega)
    · refine r_bipush C d_R_amount_47 (by decide) (by decide) ?_
      refine r_goto (tgt := 53) C d_R_amount_49 (by decide) ?_
      exact join2 v hv _ (by (repeat' split) <;> omega)
  refine r_aload_n (i0 := 0) C d_R_amount_0 rfl rfl ?_
  refine r_aload_n (i0 := 0) C d_R_amount_1 rfl rfl ?_
  refine r_getI C fl_R_98 d_R_amount_2 rfl ?_
  refine r_if_ne (tgt := 12) C d_R_amount_5 (by decide) (fun q5 => ?_) (fun q5 => ?_)
  · refine r_iload_n (i0 := 1) C d_R_amount_12 rfl rfl ?_
    refine r_iconst C d_R_amount_13 (by decide) ?_
    refine r_icmp_eq (tgt := 25) C d_R_amount_14 (by decide) (fun q14 => ?_) (fun q14 => ?_)
    · refine r_iload_n (i0 := 2) C d_R_amount_25 rfl rfl ?_
      refine r_iconst C d_R_amount_26 (by decide) ?_
      refine r_iconst C d_R_amount_27 (by decide) ?_
      refine r_callSp C cl_R_94 st_R_within (c_R_within hx) rfl rfl d_R_amount_28 (by decide) (Nat.le_of_ble_eq_true rfl) ?_
      refine r_if_ne (tgt := 38) C d_R_amount_31 (by decide) (fun q31 => ?_) (fun q31 => ?_)
      · refine r_iconst C d_R_amount_38 (by decide) ?_
        exact join _ (by (repeat' split) <;> omega)
      · refine r_iconst C d_R_amount_34 (by decide) ?_
        refine r_goto (tgt := 39) C d_R_amount_35 (by decide) ?_
        exact join _ (by (repeat' split) <;> omega)
    · refine r_aload_n (i0 := 0) C d_R_amount_17 rfl rfl ?_
      refine r_iload_n (i0 := 1) C d_R_amount_18 rfl rfl ?_
      refine r_callVp C cl_R_124 im_R_isTenant rfl rfl (c_R_isTenant hx) rfl rfl d_R_amount_19 (by decide) (Nat.le_of_ble_eq_true rfl) ?_
      refine r_if_eq (tgt := 34) C d_R_amount_22 (by decide) (fun q22 => ?_) (fun q22 => ?_)
      · refine r_iconst C d_R_amount_34 (by decide) ?_
        refine r_goto (tgt := 39) C d_R_amount_35 (by decide) ?_
        exact join _ (by (repeat' split) <;> omega)
      · refine r_iload_n (i0 := 2) C d_R_amount_25 rfl rfl ?_
        refine r_iconst C d_R_amount_26 (by decide) ?_
        refine r_iconst C d_R_amount_27 (by decide) ?_
        refine r_callSp C cl_R_94 st_R_within (c_R_within hx) rfl rfl d_R_amount_28 (by decide) (Nat.le_of_ble_eq_true rfl) ?_
        refine r_if_ne (tgt := 38) C d_R_amount_31 (by decide) (fun q31 => ?_) (fun q31 => ?_)
        · refine r_iconst C d_R_amount_38 (by decide) ?_
          exact join _ (by (repeat' split) <;> omega)
        · refine r_iconst C d_R_amount_34 (by decide) ?_
          refine r_goto (tgt := 39) C d_R_amount_35 (by decide) ?_
          exact join _ (by (repeat' split) <;> omega)
  · refine r_iconst C d_R_amount_8 (by decide) ?_
    refine r_goto (tgt := 39) C d_R_amount_9 (by decide) ?_
    exact join _ (by (repeat' split) <;> omega)
set_option maxHeartbeats 1000000 in
theorem c_R_sent {l : Launch} (hl : l.stackTraces = false) {w : XW} {h : AH} {a : Int} (ht : 0 ≤ h 40 0 9 ∧ h 40 0 9 ≤ 20) : AM l y_R_sent (wsM y_R_sent b_R_sent 2 (some .int) []) false (rmV 3 0) w [vO 40 0, vI a] h (Rout (if a = -1 ∨ 0 ≤ a ∧ a < h 40 0 9 then 0 else 1) (some (vI 0)) (some (vI (h 55 0 (if a = -1 then 20 else a).toNat))) h (fun h' => h' = hset h 40 0 0 0)) := by
  refine AM.of hl (by decide +kernel) (Nat.le_of_ble_eq_true rfl) fun x hx C _ => ?_
  have join2 : (0 : Int) = (if a = -1 ∨ 0 ≤ a ∧ a < h 40 0 9 then 0 else 1) → (-1 ≤ a ∧ a < 20) → ∀ r : Int, r = (if a = -1 then 20 else a) → AW x w 2 false 0 0 (AQ x w false 0 0 (Rout (if a = -1 ∨ 0 ≤ a ∧ a < h 40 0 9 then 0 else 1) (some (vI 0)) (some (vI (h 55 0 (if a = -1 then 20 else a).toNat))) h (fun h' => h' = hset h 40 0 0 0))) 48 (aargs 0 [vO 40 0, vI a]) [vI r, vO 55 0] (hset h 40 0 0 0) := by
    intro hv ha r hr
    refine r_iaload (ln := 21) C d_R_sent_48 rfl (fun _ => rfl) rfl (by omega) ?_
    exact r_iret C d_R_sent_49 (fun _ => Rout.retv hv (by rw [← hr]; rfl) rfl) (by decide) (fun q => nomatch q)
  have join : ∀ v : Int, v = (if a = -1 ∨ 0 ≤ a ∧ a < h 40 0 9 then 0 else 1) → AW x w 2 true 0 0 (AQ x w false 0 0 (Rout (if a = -1 ∨ 0 ≤ a ∧ a < h 40 0 9 then 0 else 1) (some (vI 0)) (some (vI (h 55 0 (if a = -1 then 20 else a).toNat))) h (fun h' => h' = hset h 40 0 0 0))) 19 (aargs 0 [vO 40 0, vI a]) [vI v, vO 40 0] h := by
    intro v hv
    refine r_putI C pl_R_85 d_R_sent_19 rfl ?_
    refine r_aload_n (i0 := 0) C d_R_sent_22 rfl rfl ?_
    refine r_getI C fl_R_85 d_R_sent_23 rfl ?_
    rw [hset_same]
    refine r_if_le (tgt := 33) C d_R_sent_26 (by decide) (fun q26 => ?_) (fun q26 => ?_)
    · have v0 : v = 0 := by omega
      subst v0
      refine r_aload_n (i0 := 0) C d_R_sent_33 rfl rfl ?_
      refine r_getO C fl_R_62 d_R_sent_34 rfl rfl (fun hi => hi) ?_
      refine r_iload_n (i0 := 1) C d_R_sent_37 rfl rfl ?_
      refine r_iconst C d_R_sent_38 (by decide) ?_
      refine r_icmp_ne (tgt := 47) C d_R_sent_39 (by decide) (fun q39 => ?_) (fun q39 => ?_)
      · refine r_iload_n (i0 := 1) C d_R_sent_47 rfl rfl ?_
        exact join2 hv (by omega) _ (by (repeat' split) <;> omega)
      · refine r_bipush C d_R_sent_42 (by decide) (by decide) ?_
        refine r_goto (tgt := 48) C d_R_sent_44 (by decide) ?_
        exact join2 hv (by omega) _ (by (repeat' split) <;> omega)
    · refine r_iconst C d_R_sent_29 (by decide) ?_
      refine r_goto (tgt := 49) C d_R_sent_30 (by decide) ?_
      exact r_iret C d_R_sent_49 (fun _ => Rout.thr hv (by omega)) (by decide) (fun q => nomatch q)
  refine r_aload_n (i0 := 0) C d_R_sent_0 rfl rfl ?_
  refine r_iload_n (i0 := 1) C d_R_sent_1 rfl rfl ?_
  refine r_iconst C d_R_sent_2 (by decide) ?_
  refine r_icmp_eq (tgt := 14) C d_R_sent_3 (by decide) (fun q3 => ?_) (fun q3 => ?_)
  · refine r_iconst C d_R_sent_14 (by decide) ?_
    refine r_goto (tgt := 19) C d_R_sent_15 (by decide) ?_
    exact join _ (by (repeat' split) <;> omega)
  · refine r_aload_n (i0 := 0) C d_R_sent_6 rfl rfl ?_
    refine r_iload_n (i0 := 1) C d_R_sent_7 rfl rfl ?_
    refine r_callVp C cl_R_124 im_R_isTenant rfl rfl (c_R_isTenant hx) rfl rfl d_R_sent_8 (by decide) (Nat.le_of_ble_eq_true rfl) ?_
    refine r_if_eq (tgt := 18) C d_R_sent_11 (by decide) (fun q11 => ?_) (fun q11 => ?_)
    · refine r_iconst C d_R_sent_18 (by decide) ?_
      exact join _ (by (repeat' split) <;> omega)
    · refine r_iconst C d_R_sent_14 (by decide) ?_
      refine r_goto (tgt := 19) C d_R_sent_15 (by decide) ?_
      exact join _ (by (repeat' split) <;> omega)
end
section
/-! A year's readings of one meter: r 0 .. r 12, -1 where there is none. -/
def lastR (r : Nat → Int) (n : Nat) : Int := match n with
  | 0 => r 0
  | n + 1 => if r (n + 1) = -1 then lastR r n else r (n + 1)
def goodR (r : Nat → Int) (n : Nat) : Bool := match n with
  | 0 => true
  | n + 1 => goodR r n && (decide (r (n + 1) = -1) || decide (lastR r n ≤ r (n + 1)))
/-- 1 if there are readings at the year's begin and end and none up to k is less than one before it -/
def gI (r : Nat → Int) (k : Nat) : Int := if r 0 ≠ -1 ∧ r 12 ≠ -1 ∧ goodR r k = true then 1 else 0
/-- 1 if the meter is read -/
def rdI (r : Nat → Int) : Int := gI r 12
theorem gI_01 (r : Nat → Int) (k : Nat) : gI r k = 0 ∨ gI r k = 1 := by
  unfold gI; split
  · exact Or.inr rfl
  · exact Or.inl rfl
theorem goodR_succ (r : Nat → Int) (k : Nat) : goodR r (k + 1) = true ↔ goodR r k = true ∧ (r (k + 1) = -1 ∨ lastR r k ≤ r (k + 1)) := by
  show (goodR r k && (decide (r (k + 1) = -1) || decide (lastR r k ≤ r (k + 1)))) = true ↔ _
  simp
theorem gI_keep {r : Nat → Int} {k : Nat} (h : r (k + 1) = -1 ∨ lastR r k ≤ r (k + 1)) : gI r (k + 1) = gI r k := by
  unfold gI
  have e : goodR r (k + 1) = true ↔ goodR r k = true := by rw [goodR_succ]; exact ⟨fun q => q.1, fun q => ⟨q, h⟩⟩
  simp only [e]
theorem gI_bad {r : Nat → Int} {k : Nat} (h1 : r (k + 1) ≠ -1) (h2 : r (k + 1) < lastR r k) : gI r (k + 1) = 0 := by
  unfold gI
  rw [if_neg]
  rw [goodR_succ]
  intro q
  rcases q.2.2.2 with z | z <;> omega
theorem gI_zero {r : Nat → Int} {k : Nat} (h : gI r k = 0) : gI r (k + 1) = 0 := by
  unfold gI at h ⊢
  rw [if_neg]
  intro q
  rw [if_pos ⟨q.1, q.2.1, ((goodR_succ r k).mp q.2.2).1⟩] at h
  cases h
theorem gI_zero_le {r : Nat → Int} {k : Nat} (h : gI r k = 0) : ∀ m, gI r (k + m) = 0 := by
  intro m
  induction m with
  | zero => exact h
  | succ m ih => exact gI_zero ih
theorem gI_start {r : Nat → Int} (h0 : r 0 ≠ -1) (h1 : r 12 ≠ -1) : gI r 0 = 1 := by
  unfold gI; rw [if_pos ⟨h0, h1, rfl⟩]
theorem gI_none {r : Nat → Int} {k : Nat} (h : r 0 = -1 ∨ r 12 = -1) : gI r k = 0 := by
  unfold gI; rw [if_neg]; intro q; rcases h with z | z
  · exact q.1 z
  · exact q.2.1 z
theorem lastR_skip {r : Nat → Int} {k : Nat} (h : r (k + 1) = -1) : lastR r (k + 1) = lastR r k := by
  show (if r (k + 1) = -1 then lastR r k else r (k + 1)) = _
  rw [if_pos h]
theorem lastR_new {r : Nat → Int} {k : Nat} (h : r (k + 1) ≠ -1) : lastR r (k + 1) = r (k + 1) := by
  show (if r (k + 1) = -1 then lastR r k else r (k + 1)) = _
  rw [if_neg h]
theorem rdI_congr {r r' : Nat → Int} (h : ∀ t, t < 13 → r t = r' t) : rdI r = rdI r' := by
  have key : ∀ k, k < 13 → goodR r k = goodR r' k ∧ lastR r k = lastR r' k := by
    intro k
    induction k with
    | zero => intro hk; exact ⟨rfl, h 0 hk⟩
    | succ k ih =>
      intro hk
      obtain ⟨i1, i2⟩ := ih (by omega)
      constructor
      · show (goodR r k && (decide (r (k + 1) = -1) || decide (lastR r k ≤ r (k + 1)))) = (goodR r' k && (decide (r' (k + 1) = -1) || decide (lastR r' k ≤ r' (k + 1))))
        rw [i1, i2, h (k + 1) hk]
      · show (if r (k + 1) = -1 then lastR r k else r (k + 1)) = (if r' (k + 1) = -1 then lastR r' k else r' (k + 1))
        rw [i2, h (k + 1) hk]
  unfold rdI gI
  rw [h 0 (by omega), h 12 (by omega), (key 12 (by omega)).1]
/-- the reference's readings of flat f -/
def rdR (h : AH) (f : Nat) : Nat → Int := fun t => h 44 0 (13 * f + t)
theorem rdR_ix (h : AH) {a t : Int} (ha : 0 ≤ a) (ht : 0 ≤ t) : h 44 0 (13 * a + t).toNat = rdR h a.toNat t.toNat := by
  have e : (13 * a + t).toNat = 13 * a.toNat + t.toNat := by omega
  rw [e]; rfl
theorem rdR_0 (h : AH) {a : Int} (ha : 0 ≤ a) : h 44 0 (13 * a).toNat = rdR h a.toNat 0 := by
  have e : (13 * a).toNat = 13 * a.toNat + 0 := by omega
  rw [e]; rfl
def mU (fc : Int) (r : Nat → Int) : Int := (r 12 - r 0) * fc
end
section
/-! Contracts: readings. -/
set_option maxHeartbeats 1000000 in
theorem c_F_isMeterRead {l : Launch} (hl : l.stackTraces = false) {w : XW} {h : AH} {f : Nat} : AM l y_F_isMeterRead (wsM y_F_isMeterRead b_F_isMeterRead 3 (some .boolean) []) true (rmV 0 0) w [vO 4 f] h (Ret (some (vI (rdI (h 5 f)))) h) := by
  refine AM.of hl (by decide +kernel) (Nat.le_of_ble_eq_true rfl) fun x hx C _ => ?_
  have loop : ∀ (m : Nat) (t : Int), 1 ≤ t → t ≤ 13 → (13 - t).toNat = m → gI (h 5 f) (t - 1).toNat = 1 → AW x w 3 true 0 0 (AQ x w true 0 0 (Ret (some (vI (rdI (h 5 f)))) h)) 32 [(2, vI t), (1, vI (lastR (h 5 f) (t - 1).toNat)), (0, vO 4 f)] [] h := by
    intro m
    induction m using Nat.strongRecOn with
    | _ m ih =>
    intro t ht0 ht1 hm hg
    refine r_iload_n (i0 := 2) C d_F_isMeterRead_32 rfl rfl ?_
    refine r_bipush C d_F_isMeterRead_33 (by decide) (by decide) ?_
    refine r_icmp_gt (tgt := 73) C d_F_isMeterRead_35 (by decide) (fun q35 => ?_) (fun q35 => ?_)
    · refine r_iconst C d_F_isMeterRead_73 (by decide) ?_
      exact r_zret C d_F_isMeterRead_74 (by omega) (⟨vi_e (by have k1 : (t - 1).toNat = 12 := (by omega); rw [k1] at hg; exact hg.symm), rfl⟩) (by decide) (fun _ => ⟨rfl, rfl, rfl⟩)
    · refine r_aload_n (i0 := 0) C d_F_isMeterRead_38 rfl rfl ?_
      refine r_getO C fl_F_27 d_F_isMeterRead_39 rfl rfl (fun hi => hi) ?_
      refine r_iload_n (i0 := 2) C d_F_isMeterRead_42 rfl rfl ?_
      refine r_iaload (ln := 13) C d_F_isMeterRead_43 rfl (fun _ => rfl) rfl (by omega) ?_
      refine r_iconst C d_F_isMeterRead_44 (by decide) ?_
      refine r_icmp_eq (tgt := 67) C d_F_isMeterRead_45 (by decide) (fun q45 => ?_) (fun q45 => ?_)
      · refine r_iinc C d_F_isMeterRead_67 rfl (by decide) (by omega) ?_
        refine r_goto (tgt := 32) C d_F_isMeterRead_70 (by decide) ?_
        have k1 : t.toNat = (t - 1).toNat + 1 := by omega
        have k2 : (t + 1 - 1).toNat = (t - 1).toNat + 1 := by omega
        by_cases z : (h 5 f) t.toNat = -1
        · refine AW.lvs [(2, vI (t + 1)), (1, vI (lastR (h 5 f) (t + 1 - 1).toNat)), (0, vO 4 f)] ⟨rfl, ?_, rfl, trivial⟩ (ih (m - 1) (by omega) (t + 1) (by omega) (by omega) (by omega) (by rw [k2, gI_keep (Or.inl (by rw [← k1]; exact z))]; exact hg))
          first | (rw [k2, lastR_skip (by rw [← k1]; exact z)]; rfl) | (exfalso; omega)
        · refine AW.lvs [(2, vI (t + 1)), (1, vI (lastR (h 5 f) (t + 1 - 1).toNat)), (0, vO 4 f)] ⟨rfl, ?_, rfl, trivial⟩ (ih (m - 1) (by omega) (t + 1) (by omega) (by omega) (by omega) (by rw [k2, gI_keep (Or.inr (by rw [← k1]; omega))]; exact hg))
          first | (rw [k2, lastR_new (by rw [← k1]; exact z), ← k1]; rfl) | (exfalso; omega)
      · refine r_aload_n (i0 := 0) C d_F_isMeterRead_48 rfl rfl ?_
        refine r_getO C fl_F_27 d_F_isMeterRead_49 rfl rfl (fun hi => hi) ?_
        refine r_iload_n (i0 := 2) C d_F_isMeterRead_52 rfl rfl ?_
        refine r_iaload (ln := 13) C d_F_isMeterRead_53 rfl (fun _ => rfl) rfl (by omega) ?_
        refine r_iload_n (i0 := 1) C d_F_isMeterRead_54 rfl rfl ?_
        refine r_icmp_ge (tgt := 60) C d_F_isMeterRead_55 (by decide) (fun q55 => ?_) (fun q55 => ?_)
        · refine r_aload_n (i0 := 0) C d_F_isMeterRead_60 rfl rfl ?_
          refine r_getO C fl_F_27 d_F_isMeterRead_61 rfl rfl (fun hi => hi) ?_
          refine r_iload_n (i0 := 2) C d_F_isMeterRead_64 rfl rfl ?_
          refine r_iaload (ln := 13) C d_F_isMeterRead_65 rfl (fun _ => rfl) rfl (by omega) ?_
          refine r_istore_n (i0 := 1) C d_F_isMeterRead_66 rfl (by decide) ?_
          refine r_iinc C d_F_isMeterRead_67 rfl (by decide) (by omega) ?_
          refine r_goto (tgt := 32) C d_F_isMeterRead_70 (by decide) ?_
          have k1 : t.toNat = (t - 1).toNat + 1 := by omega
          have k2 : (t + 1 - 1).toNat = (t - 1).toNat + 1 := by omega
          by_cases z : (h 5 f) t.toNat = -1
          · refine AW.lvs [(2, vI (t + 1)), (1, vI (lastR (h 5 f) (t + 1 - 1).toNat)), (0, vO 4 f)] ⟨rfl, ?_, rfl, trivial⟩ (ih (m - 1) (by omega) (t + 1) (by omega) (by omega) (by omega) (by rw [k2, gI_keep (Or.inl (by rw [← k1]; exact z))]; exact hg))
            first | (rw [k2, lastR_skip (by rw [← k1]; exact z)]; rfl) | (exfalso; omega)
          · refine AW.lvs [(2, vI (t + 1)), (1, vI (lastR (h 5 f) (t + 1 - 1).toNat)), (0, vO 4 f)] ⟨rfl, ?_, rfl, trivial⟩ (ih (m - 1) (by omega) (t + 1) (by omega) (by omega) (by omega) (by rw [k2, gI_keep (Or.inr (by rw [← k1]; omega))]; exact hg))
            first | (rw [k2, lastR_new (by rw [← k1]; exact z), ← k1]; rfl) | (exfalso; omega)
        · refine r_iconst C d_F_isMeterRead_58 (by decide) ?_
          exact r_zret C d_F_isMeterRead_59 (by omega) (⟨vi_e (by have k1 : t.toNat = (t - 1).toNat + 1 := (by omega); have z := gI_zero_le (gI_bad (r := (h 5 f)) (k := (t - 1).toNat) (by rw [← k1]; omega) (by rw [← k1]; omega)) (12 - t.toNat); rw [← k1, show t.toNat + (12 - t.toNat) = 12 by omega] at z; exact z.symm), rfl⟩) (by decide) (fun _ => ⟨rfl, rfl, rfl⟩)
  refine r_aload_n (i0 := 0) C d_F_isMeterRead_0 rfl rfl ?_
  refine r_getO C fl_F_27 d_F_isMeterRead_1 rfl rfl (fun hi => hi) ?_
  refine r_iconst C d_F_isMeterRead_4 (by decide) ?_
  refine r_iaload (ln := 13) C d_F_isMeterRead_5 rfl (fun _ => rfl) rfl (by omega) ?_
  rw [show (0 : Int).toNat = 0 from rfl]
  refine r_iconst C d_F_isMeterRead_6 (by decide) ?_
  refine r_icmp_eq (tgt := 21) C d_F_isMeterRead_7 (by decide) (fun q7 => ?_) (fun q7 => ?_)
  · refine r_iconst C d_F_isMeterRead_21 (by decide) ?_
    exact r_zret C d_F_isMeterRead_22 (by omega) (⟨vi_e (gI_none (by omega)).symm, rfl⟩) (by decide) (fun _ => ⟨rfl, rfl, rfl⟩)
  · refine r_aload_n (i0 := 0) C d_F_isMeterRead_10 rfl rfl ?_
    refine r_getO C fl_F_27 d_F_isMeterRead_11 rfl rfl (fun hi => hi) ?_
    refine r_bipush C d_F_isMeterRead_14 (by decide) (by decide) ?_
    refine r_iaload (ln := 13) C d_F_isMeterRead_16 rfl (fun _ => rfl) rfl (by omega) ?_
    rw [show (12 : Int).toNat = 12 from rfl]
    refine r_iconst C d_F_isMeterRead_17 (by decide) ?_
    refine r_icmp_ne (tgt := 23) C d_F_isMeterRead_18 (by decide) (fun q18 => ?_) (fun q18 => ?_)
    · refine r_aload_n (i0 := 0) C d_F_isMeterRead_23 rfl rfl ?_
      refine r_getO C fl_F_27 d_F_isMeterRead_24 rfl rfl (fun hi => hi) ?_
      refine r_iconst C d_F_isMeterRead_27 (by decide) ?_
      refine r_iaload (ln := 13) C d_F_isMeterRead_28 rfl (fun _ => rfl) rfl (by omega) ?_
      rw [show (0 : Int).toNat = 0 from rfl]
      refine r_istore_n (i0 := 1) C d_F_isMeterRead_29 rfl (by decide) ?_
      refine r_iconst C d_F_isMeterRead_30 (by decide) ?_
      refine r_istore_n (i0 := 2) C d_F_isMeterRead_31 rfl (by decide) ?_
      exact loop _ 1 (by omega) (by omega) rfl (gI_start (by omega) (by omega))
    · refine r_iconst C d_F_isMeterRead_21 (by decide) ?_
      exact r_zret C d_F_isMeterRead_22 (by omega) (⟨vi_e (gI_none (by omega)).symm, rfl⟩) (by decide) (fun _ => ⟨rfl, rfl, rfl⟩)
theorem ubd {x y : Int} (hx : -100 ≤ x ∧ x ≤ 100) (hy : 0 ≤ y ∧ y ≤ 2) : -2147483648 ≤ x * y ∧ x * y ≤ 2147483647 := by
  have : y = 0 ∨ y = 1 ∨ y = 2 := by omega
  rcases this with rfl | rfl | rfl <;> omega
set_option maxHeartbeats 1000000 in
theorem c_F_unitsBetween {l : Launch} (hl : l.stackTraces = false) {w : XW} {h : AH} {f : Nat} {a b : Int} (hr : ∀ t : Nat, t < 13 → -1 ≤ h 5 f t ∧ h 5 f t ≤ 99) (hf : 0 ≤ h 4 f 2 ∧ h 4 f 2 ≤ 2) (ha : 0 ≤ a ∧ a < 13) (hb : 0 ≤ b ∧ b < 13) : AM l y_F_unitsBetween (wsM y_F_unitsBetween b_F_unitsBetween 3 (some .int) []) true (rmV 0 0) w [vO 4 f, vI a, vI b] h (Ret (some (vI ((h 5 f b.toNat - h 5 f a.toNat) * h 4 f 2))) h) := by
  refine AM.of hl (by decide +kernel) (Nat.le_of_ble_eq_true rfl) fun x hx C _ => ?_
  refine r_aload_n (i0 := 0) C d_F_unitsBetween_0 rfl rfl ?_
  refine r_getO C fl_F_27 d_F_unitsBetween_1 rfl rfl (fun hi => hi) ?_
  refine r_iload_n (i0 := 2) C d_F_unitsBetween_4 rfl rfl ?_
  refine r_iaload (ln := 13) C d_F_unitsBetween_5 rfl (fun _ => rfl) rfl (by omega) ?_
  refine r_aload_n (i0 := 0) C d_F_unitsBetween_6 rfl rfl ?_
  refine r_getO C fl_F_27 d_F_unitsBetween_7 rfl rfl (fun hi => hi) ?_
  refine r_iload_n (i0 := 1) C d_F_unitsBetween_10 rfl rfl ?_
  refine r_iaload (ln := 13) C d_F_unitsBetween_11 rfl (fun _ => rfl) rfl (by omega) ?_
  refine r_isub C d_F_unitsBetween_12 (by have := hr a.toNat (by omega); have := hr b.toNat (by omega); omega) ?_
  refine r_aload_n (i0 := 0) C d_F_unitsBetween_13 rfl rfl ?_
  refine r_getI C fl_F_18 d_F_unitsBetween_14 rfl ?_
  refine r_imul C d_F_unitsBetween_17 (ubd (by have := hr a.toNat (by omega); have := hr b.toNat (by omega); omega) hf) ?_
  exact r_iret C d_F_unitsBetween_18 (fun _ => ⟨rfl, rfl⟩) (by decide) (fun _ => ⟨rfl, rfl, rfl⟩)
set_option maxHeartbeats 1000000 in
theorem c_F_unitsOfYear {l : Launch} (hl : l.stackTraces = false) {w : XW} {h : AH} {f : Nat} (hr : ∀ t : Nat, t < 13 → -1 ≤ h 5 f t ∧ h 5 f t ≤ 99) (hf : 0 ≤ h 4 f 2 ∧ h 4 f 2 ≤ 2) : AM l y_F_unitsOfYear (wsM y_F_unitsOfYear b_F_unitsOfYear 1 (some .int) []) true (rmV 1 0) w [vO 4 f] h (Ret (some (vI (mU (h 4 f 2) (h 5 f)))) h) := by
  refine AM.of hl (by decide +kernel) (Nat.le_of_ble_eq_true rfl) fun x hx C _ => ?_
  refine r_aload_n (i0 := 0) C d_F_unitsOfYear_0 rfl rfl ?_
  refine r_iconst C d_F_unitsOfYear_1 (by decide) ?_
  refine r_bipush C d_F_unitsOfYear_2 (by decide) (by decide) ?_
  refine r_callVp C cl_F_40 im_F_unitsBetween rfl rfl (c_F_unitsBetween hx hr hf (by omega) (by omega)) rfl rfl d_F_unitsOfYear_4 (by decide) (Nat.le_of_ble_eq_true rfl) ?_
  exact r_iret C d_F_unitsOfYear_7 (fun _ => ⟨rfl, rfl⟩) (by decide) (fun _ => ⟨rfl, rfl, rfl⟩)
set_option maxHeartbeats 1000000 in
theorem c_R_isRead {l : Launch} (hl : l.stackTraces = false) {w : XW} {h : AH} {a : Int} (ha : 0 ≤ a ∧ a < 6) (hr : ∀ t : Nat, t < 13 → -1 ≤ rdR h a.toNat t ∧ rdR h a.toNat t ≤ 99) : AM l y_R_isRead (wsM y_R_isRead b_R_isRead 6 (some .boolean) []) true (rmV 0 0) w [vO 40 0, vI a] h (Ret (some (vI (rdI (rdR h a.toNat)))) h) := by
  refine AM.of hl (by decide +kernel) (Nat.le_of_ble_eq_true rfl) fun x hx C _ => ?_
  have loop : ∀ (m : Nat) (t g b : Int), 1 ≤ t → t ≤ 13 → (13 - t).toNat = m → g = gI (rdR h a.toNat) (t - 1).toNat → b = lastR (rdR h a.toNat) (t - 1).toNat → AW x w 6 true 0 0 (AQ x w true 0 0 (Ret (some (vI (rdI (rdR h a.toNat)))) h)) 38 [(4, vI t), (3, vI g), (2, vI b), (0, vO 40 0), (1, vI a)] [] h := by
    intro m
    induction m using Nat.strongRecOn with
    | _ m ih =>
    intro t g b ht0 ht1 hm hg hb
    refine r_iload C d_R_isRead_38 rfl ?_
    refine r_bipush C d_R_isRead_40 (by decide) (by decide) ?_
    refine r_icmp_ge (tgt := 98) C d_R_isRead_42 (by decide) (fun q42 => ?_) (fun q42 => ?_)
    · refine r_iload_n (i0 := 3) C d_R_isRead_98 rfl rfl ?_
      exact r_zret C d_R_isRead_99 (by rw [hg]; exact gI_01 _ _) (⟨vi_e (by rw [hg, show (t - 1).toNat = 12 by omega]; rfl), rfl⟩) (by decide) (fun _ => ⟨rfl, rfl, rfl⟩)
    · refine r_aload_n (i0 := 0) C d_R_isRead_45 rfl rfl ?_
      refine r_getO C fl_R_19 d_R_isRead_46 rfl rfl (fun hi => hi) ?_
      refine r_bipush C d_R_isRead_49 (by decide) (by decide) ?_
      refine r_iload_n (i0 := 1) C d_R_isRead_51 rfl rfl ?_
      refine r_imul C d_R_isRead_52 (by omega) ?_
      refine r_iload C d_R_isRead_53 rfl ?_
      refine r_iadd C d_R_isRead_55 (by omega) ?_
      refine r_iaload (ln := 78) C d_R_isRead_56 rfl (fun _ => rfl) rfl (by omega) ?_
      rw [rdR_ix h ha.1 (by omega)]
      refine r_istore C d_R_isRead_57 (by decide) ?_
      refine r_iload_n (i0 := 3) C d_R_isRead_59 rfl rfl ?_
      refine r_if_eq (tgt := 78) C d_R_isRead_60 (by decide) (fun q60 => ?_) (fun q60 => ?_)
      · refine r_iconst C d_R_isRead_78 (by decide) ?_
        refine r_istore_n (i0 := 3) C d_R_isRead_79 rfl (by decide) ?_
        refine r_iload C d_R_isRead_80 rfl ?_
        refine r_if_ge (tgt := 89) C d_R_isRead_82 (by decide) (fun q82 => ?_) (fun q82 => ?_)
        · refine r_iload C d_R_isRead_89 rfl ?_
          refine r_istore_n (i0 := 2) C d_R_isRead_91 rfl (by decide) ?_
          refine r_iinc C d_R_isRead_92 rfl (by decide) (by omega) ?_
          refine r_goto (tgt := 38) C d_R_isRead_95 (by decide) ?_
          have k1 : t.toNat = (t - 1).toNat + 1 := by omega
          have k2 : (t + 1 - 1).toNat = (t - 1).toNat + 1 := by omega
          have hrt := hr t.toNat (by omega)
          refine AW.lvs [(4, _), (3, _), (2, _), (0, _), (1, _)] ⟨rfl, rfl, rfl, rfl, rfl, trivial⟩ (ih (m - 1) (by omega) (t + 1) _ _ (by omega) (by omega) (by omega) ?_ ?_)
          · rw [k2]
            first
              | (rw [gI_zero (by omega)]; done)
              | (rw [gI_bad (by rw [← k1]; omega) (by rw [← k1, ← hb]; omega)]; done)
              | (rw [gI_keep (Or.inl (by rw [← k1]; omega))]; have := gI_01 (rdR h a.toNat) (t - 1).toNat; omega)
              | (rw [gI_keep (Or.inr (by rw [← k1, ← hb]; omega))]; have := gI_01 (rdR h a.toNat) (t - 1).toNat; omega)
          · rw [k2]
            first
              | (rw [lastR_skip (by rw [← k1]; omega)]; exact hb)
              | (rw [lastR_new (by rw [← k1]; omega), ← k1]; done)
        · refine r_iload_n (i0 := 2) C d_R_isRead_85 rfl rfl ?_
          refine r_goto (tgt := 91) C d_R_isRead_86 (by decide) ?_
          refine r_istore_n (i0 := 2) C d_R_isRead_91 rfl (by decide) ?_
          refine r_iinc C d_R_isRead_92 rfl (by decide) (by omega) ?_
          refine r_goto (tgt := 38) C d_R_isRead_95 (by decide) ?_
          have k1 : t.toNat = (t - 1).toNat + 1 := by omega
          have k2 : (t + 1 - 1).toNat = (t - 1).toNat + 1 := by omega
          have hrt := hr t.toNat (by omega)
          refine AW.lvs [(4, _), (3, _), (2, _), (0, _), (1, _)] ⟨rfl, rfl, rfl, rfl, rfl, trivial⟩ (ih (m - 1) (by omega) (t + 1) _ _ (by omega) (by omega) (by omega) ?_ ?_)
          · rw [k2]
            first
              | (rw [gI_zero (by omega)]; done)
              | (rw [gI_bad (by rw [← k1]; omega) (by rw [← k1, ← hb]; omega)]; done)
              | (rw [gI_keep (Or.inl (by rw [← k1]; omega))]; have := gI_01 (rdR h a.toNat) (t - 1).toNat; omega)
              | (rw [gI_keep (Or.inr (by rw [← k1, ← hb]; omega))]; have := gI_01 (rdR h a.toNat) (t - 1).toNat; omega)
          · rw [k2]
            first
              | (rw [lastR_skip (by rw [← k1]; omega)]; exact hb)
              | (rw [lastR_new (by rw [← k1]; omega), ← k1]; done)
      · refine r_iload C d_R_isRead_63 rfl ?_
        refine r_if_lt (tgt := 74) C d_R_isRead_65 (by decide) (fun q65 => ?_) (fun q65 => ?_)
        · refine r_iconst C d_R_isRead_74 (by decide) ?_
          refine r_goto (tgt := 79) C d_R_isRead_75 (by decide) ?_
          refine r_istore_n (i0 := 3) C d_R_isRead_79 rfl (by decide) ?_
          refine r_iload C d_R_isRead_80 rfl ?_
          refine r_if_ge (tgt := 89) C d_R_isRead_82 (by decide) (fun q82 => ?_) (fun q82 => ?_)
          · refine r_iload C d_R_isRead_89 rfl ?_
            refine r_istore_n (i0 := 2) C d_R_isRead_91 rfl (by decide) ?_
            refine r_iinc C d_R_isRead_92 rfl (by decide) (by omega) ?_
            refine r_goto (tgt := 38) C d_R_isRead_95 (by decide) ?_
            have k1 : t.toNat = (t - 1).toNat + 1 := by omega
            have k2 : (t + 1 - 1).toNat = (t - 1).toNat + 1 := by omega
            have hrt := hr t.toNat (by omega)
            refine AW.lvs [(4, _), (3, _), (2, _), (0, _), (1, _)] ⟨rfl, rfl, rfl, rfl, rfl, trivial⟩ (ih (m - 1) (by omega) (t + 1) _ _ (by omega) (by omega) (by omega) ?_ ?_)
            · rw [k2]
              first
                | (rw [gI_zero (by omega)]; done)
                | (rw [gI_bad (by rw [← k1]; omega) (by rw [← k1, ← hb]; omega)]; done)
                | (rw [gI_keep (Or.inl (by rw [← k1]; omega))]; have := gI_01 (rdR h a.toNat) (t - 1).toNat; omega)
                | (rw [gI_keep (Or.inr (by rw [← k1, ← hb]; omega))]; have := gI_01 (rdR h a.toNat) (t - 1).toNat; omega)
            · rw [k2]
              first
                | (rw [lastR_skip (by rw [← k1]; omega)]; exact hb)
                | (rw [lastR_new (by rw [← k1]; omega), ← k1]; done)
          · refine r_iload_n (i0 := 2) C d_R_isRead_85 rfl rfl ?_
            refine r_goto (tgt := 91) C d_R_isRead_86 (by decide) ?_
            refine r_istore_n (i0 := 2) C d_R_isRead_91 rfl (by decide) ?_
            refine r_iinc C d_R_isRead_92 rfl (by decide) (by omega) ?_
            refine r_goto (tgt := 38) C d_R_isRead_95 (by decide) ?_
            have k1 : t.toNat = (t - 1).toNat + 1 := by omega
            have k2 : (t + 1 - 1).toNat = (t - 1).toNat + 1 := by omega
            have hrt := hr t.toNat (by omega)
            refine AW.lvs [(4, _), (3, _), (2, _), (0, _), (1, _)] ⟨rfl, rfl, rfl, rfl, rfl, trivial⟩ (ih (m - 1) (by omega) (t + 1) _ _ (by omega) (by omega) (by omega) ?_ ?_)
            · rw [k2]
              first
                | (rw [gI_zero (by omega)]; done)
                | (rw [gI_bad (by rw [← k1]; omega) (by rw [← k1, ← hb]; omega)]; done)
                | (rw [gI_keep (Or.inl (by rw [← k1]; omega))]; have := gI_01 (rdR h a.toNat) (t - 1).toNat; omega)
                | (rw [gI_keep (Or.inr (by rw [← k1, ← hb]; omega))]; have := gI_01 (rdR h a.toNat) (t - 1).toNat; omega)
            · rw [k2]
              first
                | (rw [lastR_skip (by rw [← k1]; omega)]; exact hb)
                | (rw [lastR_new (by rw [← k1]; omega), ← k1]; done)
        · refine r_iload C d_R_isRead_68 rfl ?_
          refine r_iload_n (i0 := 2) C d_R_isRead_70 rfl rfl ?_
          refine r_icmp_lt (tgt := 78) C d_R_isRead_71 (by decide) (fun q71 => ?_) (fun q71 => ?_)
          · refine r_iconst C d_R_isRead_78 (by decide) ?_
            refine r_istore_n (i0 := 3) C d_R_isRead_79 rfl (by decide) ?_
            refine r_iload C d_R_isRead_80 rfl ?_
            refine r_if_ge (tgt := 89) C d_R_isRead_82 (by decide) (fun q82 => ?_) (fun q82 => ?_)
            · refine r_iload C d_R_isRead_89 rfl ?_
              refine r_istore_n (i0 := 2) C d_R_isRead_91 rfl (by decide) ?_
              refine r_iinc C d_R_isRead_92 rfl (by decide) (by omega) ?_
              refine r_goto (tgt := 38) C d_R_isRead_95 (by decide) ?_
              have k1 : t.toNat = (t - 1).toNat + 1 := by omega
              have k2 : (t + 1 - 1).toNat = (t - 1).toNat + 1 := by omega
              have hrt := hr t.toNat (by omega)
              refine AW.lvs [(4, _), (3, _), (2, _), (0, _), (1, _)] ⟨rfl, rfl, rfl, rfl, rfl, trivial⟩ (ih (m - 1) (by omega) (t + 1) _ _ (by omega) (by omega) (by omega) ?_ ?_)
              · rw [k2]
                first
                  | (rw [gI_zero (by omega)]; done)
                  | (rw [gI_bad (by rw [← k1]; omega) (by rw [← k1, ← hb]; omega)]; done)
                  | (rw [gI_keep (Or.inl (by rw [← k1]; omega))]; have := gI_01 (rdR h a.toNat) (t - 1).toNat; omega)
                  | (rw [gI_keep (Or.inr (by rw [← k1, ← hb]; omega))]; have := gI_01 (rdR h a.toNat) (t - 1).toNat; omega)
              · rw [k2]
                first
                  | (rw [lastR_skip (by rw [← k1]; omega)]; exact hb)
                  | (rw [lastR_new (by rw [← k1]; omega), ← k1]; done)
            · refine r_iload_n (i0 := 2) C d_R_isRead_85 rfl rfl ?_
              refine r_goto (tgt := 91) C d_R_isRead_86 (by decide) ?_
              refine r_istore_n (i0 := 2) C d_R_isRead_91 rfl (by decide) ?_
              refine r_iinc C d_R_isRead_92 rfl (by decide) (by omega) ?_
              refine r_goto (tgt := 38) C d_R_isRead_95 (by decide) ?_
              have k1 : t.toNat = (t - 1).toNat + 1 := by omega
              have k2 : (t + 1 - 1).toNat = (t - 1).toNat + 1 := by omega
              have hrt := hr t.toNat (by omega)
              refine AW.lvs [(4, _), (3, _), (2, _), (0, _), (1, _)] ⟨rfl, rfl, rfl, rfl, rfl, trivial⟩ (ih (m - 1) (by omega) (t + 1) _ _ (by omega) (by omega) (by omega) ?_ ?_)
              · rw [k2]
                first
                  | (rw [gI_zero (by omega)]; done)
                  | (rw [gI_bad (by rw [← k1]; omega) (by rw [← k1, ← hb]; omega)]; done)
                  | (rw [gI_keep (Or.inl (by rw [← k1]; omega))]; have := gI_01 (rdR h a.toNat) (t - 1).toNat; omega)
                  | (rw [gI_keep (Or.inr (by rw [← k1, ← hb]; omega))]; have := gI_01 (rdR h a.toNat) (t - 1).toNat; omega)
              · rw [k2]
                first
                  | (rw [lastR_skip (by rw [← k1]; omega)]; exact hb)
                  | (rw [lastR_new (by rw [← k1]; omega), ← k1]; done)
          · refine r_iconst C d_R_isRead_74 (by decide) ?_
            refine r_goto (tgt := 79) C d_R_isRead_75 (by decide) ?_
            refine r_istore_n (i0 := 3) C d_R_isRead_79 rfl (by decide) ?_
            refine r_iload C d_R_isRead_80 rfl ?_
            refine r_if_ge (tgt := 89) C d_R_isRead_82 (by decide) (fun q82 => ?_) (fun q82 => ?_)
            · refine r_iload C d_R_isRead_89 rfl ?_
              refine r_istore_n (i0 := 2) C d_R_isRead_91 rfl (by decide) ?_
              refine r_iinc C d_R_isRead_92 rfl (by decide) (by omega) ?_
              refine r_goto (tgt := 38) C d_R_isRead_95 (by decide) ?_
              have k1 : t.toNat = (t - 1).toNat + 1 := by omega
              have k2 : (t + 1 - 1).toNat = (t - 1).toNat + 1 := by omega
              have hrt := hr t.toNat (by omega)
              refine AW.lvs [(4, _), (3, _), (2, _), (0, _), (1, _)] ⟨rfl, rfl, rfl, rfl, rfl, trivial⟩ (ih (m - 1) (by omega) (t + 1) _ _ (by omega) (by omega) (by omega) ?_ ?_)
              · rw [k2]
                first
                  | (rw [gI_zero (by omega)]; done)
                  | (rw [gI_bad (by rw [← k1]; omega) (by rw [← k1, ← hb]; omega)]; done)
                  | (rw [gI_keep (Or.inl (by rw [← k1]; omega))]; have := gI_01 (rdR h a.toNat) (t - 1).toNat; omega)
                  | (rw [gI_keep (Or.inr (by rw [← k1, ← hb]; omega))]; have := gI_01 (rdR h a.toNat) (t - 1).toNat; omega)
              · rw [k2]
                first
                  | (rw [lastR_skip (by rw [← k1]; omega)]; exact hb)
                  | (rw [lastR_new (by rw [← k1]; omega), ← k1]; done)
            · refine r_iload_n (i0 := 2) C d_R_isRead_85 rfl rfl ?_
              refine r_goto (tgt := 91) C d_R_isRead_86 (by decide) ?_
              refine r_istore_n (i0 := 2) C d_R_isRead_91 rfl (by decide) ?_
              refine r_iinc C d_R_isRead_92 rfl (by decide) (by omega) ?_
              refine r_goto (tgt := 38) C d_R_isRead_95 (by decide) ?_
              have k1 : t.toNat = (t - 1).toNat + 1 := by omega
              have k2 : (t + 1 - 1).toNat = (t - 1).toNat + 1 := by omega
              have hrt := hr t.toNat (by omega)
              refine AW.lvs [(4, _), (3, _), (2, _), (0, _), (1, _)] ⟨rfl, rfl, rfl, rfl, rfl, trivial⟩ (ih (m - 1) (by omega) (t + 1) _ _ (by omega) (by omega) (by omega) ?_ ?_)
              · rw [k2]
                first
                  | (rw [gI_zero (by omega)]; done)
                  | (rw [gI_bad (by rw [← k1]; omega) (by rw [← k1, ← hb]; omega)]; done)
                  | (rw [gI_keep (Or.inl (by rw [← k1]; omega))]; have := gI_01 (rdR h a.toNat) (t - 1).toNat; omega)
                  | (rw [gI_keep (Or.inr (by rw [← k1, ← hb]; omega))]; have := gI_01 (rdR h a.toNat) (t - 1).toNat; omega)
              · rw [k2]
                first
                  | (rw [lastR_skip (by rw [← k1]; omega)]; exact hb)
                  | (rw [lastR_new (by rw [← k1]; omega), ← k1]; done)
  refine r_aload_n (i0 := 0) C d_R_isRead_0 rfl rfl ?_
  refine r_getO C fl_R_19 d_R_isRead_1 rfl rfl (fun hi => hi) ?_
  refine r_bipush C d_R_isRead_4 (by decide) (by decide) ?_
  refine r_iload_n (i0 := 1) C d_R_isRead_6 rfl rfl ?_
  refine r_imul C d_R_isRead_7 (by omega) ?_
  refine r_iaload (ln := 78) C d_R_isRead_8 rfl (fun _ => rfl) rfl (by omega) ?_
  rw [rdR_0 h ha.1]
  refine r_istore_n (i0 := 2) C d_R_isRead_9 rfl (by decide) ?_
  refine r_iload_n (i0 := 2) C d_R_isRead_10 rfl rfl ?_
  refine r_if_lt (tgt := 33) C d_R_isRead_11 (by decide) (fun q11 => ?_) (fun q11 => ?_)
  · refine r_iconst C d_R_isRead_33 (by decide) ?_
    refine r_istore_n (i0 := 3) C d_R_isRead_34 rfl (by decide) ?_
    refine r_iconst C d_R_isRead_35 (by decide) ?_
    refine r_istore C d_R_isRead_36 (by decide) ?_
    have r0 := hr 0 (by omega)
    have r12 := hr 12 (by omega)
    first
      | exact loop _ 1 _ _ (by omega) (by omega) rfl (by rw [show (1 - 1 : Int).toNat = 0 from rfl, gI_start (by omega) (by omega)]) rfl
      | exact loop _ 1 _ _ (by omega) (by omega) rfl (by rw [gI_none (by omega)]) rfl
  · refine r_aload_n (i0 := 0) C d_R_isRead_14 rfl rfl ?_
    refine r_getO C fl_R_19 d_R_isRead_15 rfl rfl (fun hi => hi) ?_
    refine r_bipush C d_R_isRead_18 (by decide) (by decide) ?_
    refine r_iload_n (i0 := 1) C d_R_isRead_20 rfl rfl ?_
    refine r_imul C d_R_isRead_21 (by omega) ?_
    refine r_bipush C d_R_isRead_22 (by decide) (by decide) ?_
    refine r_iadd C d_R_isRead_24 (by omega) ?_
    refine r_iaload (ln := 78) C d_R_isRead_25 rfl (fun _ => rfl) rfl (by omega) ?_
    rw [rdR_ix h ha.1 (by omega), show (12 : Int).toNat = 12 from rfl]
    refine r_if_lt (tgt := 33) C d_R_isRead_26 (by decide) (fun q26 => ?_) (fun q26 => ?_)
    · refine r_iconst C d_R_isRead_33 (by decide) ?_
      refine r_istore_n (i0 := 3) C d_R_isRead_34 rfl (by decide) ?_
      refine r_iconst C d_R_isRead_35 (by decide) ?_
      refine r_istore C d_R_isRead_36 (by decide) ?_
      have r0 := hr 0 (by omega)
      have r12 := hr 12 (by omega)
      first
        | exact loop _ 1 _ _ (by omega) (by omega) rfl (by rw [show (1 - 1 : Int).toNat = 0 from rfl, gI_start (by omega) (by omega)]) rfl
        | exact loop _ 1 _ _ (by omega) (by omega) rfl (by rw [gI_none (by omega)]) rfl
    · refine r_iconst C d_R_isRead_29 (by decide) ?_
      refine r_goto (tgt := 34) C d_R_isRead_30 (by decide) ?_
      refine r_istore_n (i0 := 3) C d_R_isRead_34 rfl (by decide) ?_
      refine r_iconst C d_R_isRead_35 (by decide) ?_
      refine r_istore C d_R_isRead_36 (by decide) ?_
      have r0 := hr 0 (by omega)
      have r12 := hr 12 (by omega)
      first
        | exact loop _ 1 _ _ (by omega) (by omega) rfl (by rw [show (1 - 1 : Int).toNat = 0 from rfl, gI_start (by omega) (by omega)]) rfl
        | exact loop _ 1 _ _ (by omega) (by omega) rfl (by rw [gI_none (by omega)]) rfl
set_option maxHeartbeats 1000000 in
theorem c_R_measured {l : Launch} (hl : l.stackTraces = false) {w : XW} {h : AH} {a : Int} (ha : 0 ≤ a ∧ a < 6) (hr : ∀ t : Nat, t < 13 → -1 ≤ rdR h a.toNat t ∧ rdR h a.toNat t ≤ 99) (hf : 0 ≤ h 43 0 a.toNat ∧ h 43 0 a.toNat ≤ 2) : AM l y_R_measured (wsM y_R_measured b_R_measured 2 (some .int) []) true (rmV 0 0) w [vO 40 0, vI a] h (Ret (some (vI (mU (h 43 0 a.toNat) (rdR h a.toNat)))) h) := by
  refine AM.of hl (by decide +kernel) (Nat.le_of_ble_eq_true rfl) fun x hx C _ => ?_
  refine r_aload_n (i0 := 0) C d_R_measured_0 rfl rfl ?_
  refine r_getO C fl_R_16 d_R_measured_1 rfl rfl (fun hi => hi) ?_
  refine r_iload_n (i0 := 1) C d_R_measured_4 rfl rfl ?_
  refine r_iaload (ln := 6) C d_R_measured_5 rfl (fun _ => rfl) rfl (by omega) ?_
  refine r_aload_n (i0 := 0) C d_R_measured_6 rfl rfl ?_
  refine r_getO C fl_R_19 d_R_measured_7 rfl rfl (fun hi => hi) ?_
  refine r_bipush C d_R_measured_10 (by decide) (by decide) ?_
  refine r_iload_n (i0 := 1) C d_R_measured_12 rfl rfl ?_
  refine r_imul C d_R_measured_13 (by omega) ?_
  refine r_bipush C d_R_measured_14 (by decide) (by decide) ?_
  refine r_iadd C d_R_measured_16 (by omega) ?_
  refine r_iaload (ln := 78) C d_R_measured_17 rfl (fun _ => rfl) rfl (by omega) ?_
  rw [rdR_ix h ha.1 (by omega), show (12 : Int).toNat = 12 from rfl]
  refine r_aload_n (i0 := 0) C d_R_measured_18 rfl rfl ?_
  refine r_getO C fl_R_19 d_R_measured_19 rfl rfl (fun hi => hi) ?_
  refine r_bipush C d_R_measured_22 (by decide) (by decide) ?_
  refine r_iload_n (i0 := 1) C d_R_measured_24 rfl rfl ?_
  refine r_imul C d_R_measured_25 (by omega) ?_
  refine r_iaload (ln := 78) C d_R_measured_26 rfl (fun _ => rfl) rfl (by omega) ?_
  rw [rdR_0 h ha.1]
  refine r_isub C d_R_measured_27 (by have := hr 12 (by omega); have := hr 0 (by omega); omega) ?_
  refine r_imul C d_R_measured_28 (by rw [Int.mul_comm]; exact ubd (by have := hr 12 (by omega); have := hr 0 (by omega); omega) hf) ?_
  exact r_iret C d_R_measured_29 (fun _ => ⟨vi_e (by unfold mU; rw [Int.mul_comm]), rfl⟩) (by decide) (fun _ => ⟨rfl, rfl, rfl⟩)
end
section
/-! Sums over the flats. -/
theorem sumF_bd {g : Nat → Int} {L M : Int} : ∀ {n : Nat}, (∀ k, k < n → L ≤ g k ∧ g k ≤ M) → L * n ≤ sumF n g ∧ sumF n g ≤ M * n := by
  intro n
  induction n with
  | zero => intro _; simp [sumF]
  | succ n ih =>
    intro h
    have h1 := ih fun k hk => h k (by omega)
    have h2 := h n (by omega)
    rw [sumF_succ]
    have e1 : L * ((n + 1 : Nat) : Int) = L * (n : Int) + L := by rw [Int.natCast_add, Int.mul_add]; simp
    have e2 : M * ((n + 1 : Nat) : Int) = M * (n : Int) + M := by rw [Int.natCast_add, Int.mul_add]; simp
    rw [e1, e2]; omega
theorem rdI_01 (r : Nat → Int) : rdI r = 0 ∨ rdI r = 1 := gI_01 r 12
theorem gI_one {r : Nat → Int} {k : Nat} (h : gI r k = 1) : r 0 ≠ -1 ∧ r 12 ≠ -1 ∧ goodR r k = true := by
  unfold gI at h
  split at h
  · assumption
  · cases h
theorem lastR_ge {r : Nat → Int} : ∀ {k : Nat}, goodR r k = true → r 0 ≤ lastR r k := by
  intro k
  induction k with
  | zero => intro _; exact Int.le_refl _
  | succ k ih =>
    intro h
    obtain ⟨h1, h2⟩ := (goodR_succ r k).mp h
    have h3 := ih h1
    by_cases z : r (k + 1) = -1
    · rw [lastR_skip z]; exact h3
    · rw [lastR_new z]; omega
theorem rdI_le {r : Nat → Int} (h : rdI r = 1) : r 0 ≤ r 12 ∧ r 0 ≠ -1 ∧ r 12 ≠ -1 := by
  obtain ⟨h1, h2, h3⟩ := gI_one h
  have h4 := lastR_ge h3
  have h5 : lastR r 12 = r 12 := lastR_new (k := 11) h2
  omega
theorem mU_bd {fc : Int} {r : Nat → Int} (h : rdI r = 1) (hr : ∀ t : Nat, t < 13 → -1 ≤ r t ∧ r t ≤ 99) (hf : 0 ≤ fc ∧ fc ≤ 2) : 0 ≤ mU fc r ∧ mU fc r ≤ 200 := by
  have h1 := rdI_le h
  have h2 := hr 0 (by omega)
  have h3 := hr 12 (by omega)
  unfold mU
  have : fc = 0 ∨ fc = 1 ∨ fc = 2 := by omega
  rcases this with rfl | rfl | rfl <;> omega
/-- what is summed over the flats: units and areas of the read ones; units of those that are read and known, and what is known of them; how many are read -/
def ruG (fc : Nat → Int) (rd : Nat → Nat → Int) : Nat → Int := fun f => if rdI (rd f) = 1 then mU (fc f) (rd f) else 0
def raG (ar : Nat → Int) (rd : Nat → Nat → Int) : Nat → Int := fun f => if rdI (rd f) = 1 then ar f else 0
def rcG (rd : Nat → Nat → Int) : Nat → Int := fun f => if rdI (rd f) = 1 then 1 else 0
def puG (fc kn : Nat → Int) (rd : Nat → Nat → Int) : Nat → Int := fun f => if rdI (rd f) = 1 ∧ kn f ≠ -1 then mU (fc f) (rd f) else 0
def plG (kn : Nat → Int) (rd : Nat → Nat → Int) : Nat → Int := fun f => if rdI (rd f) = 1 ∧ kn f ≠ -1 then kn f else 0
/-- the ranges of what the flats hold -/
def FIv (n : Nat) (ar fc kn : Nat → Int) (rd : Nat → Nat → Int) : Prop := ∀ f : Nat, f < n → (0 ≤ ar f ∧ ar f ≤ 50) ∧ (0 ≤ fc f ∧ fc f ≤ 2) ∧ (kn f = -1 ∨ 1 ≤ kn f ∧ kn f ≤ 200) ∧ ∀ t : Nat, t < 13 → -1 ≤ rd f t ∧ rd f t ≤ 99
section SUMS
variable {n : Nat} {ar fc kn : Nat → Int} {rd : Nat → Nat → Int}
theorem ru_bd (H : FIv n ar fc kn rd) : 0 * (n : Int) ≤ sumF n (ruG fc rd) ∧ sumF n (ruG fc rd) ≤ 200 * n := sumF_bd fun k hk => by
  obtain ⟨h1, h2, h3, h4⟩ := H k hk
  unfold ruG
  split
  · rename_i z; exact mU_bd z h4 h2
  · omega
theorem ra_bd (H : FIv n ar fc kn rd) : 0 * (n : Int) ≤ sumF n (raG ar rd) ∧ sumF n (raG ar rd) ≤ 50 * n := sumF_bd fun k hk => by
  obtain ⟨h1, h2, h3, h4⟩ := H k hk
  unfold raG
  split <;> omega
theorem rc_bd : 0 * (n : Int) ≤ sumF n (rcG rd) ∧ sumF n (rcG rd) ≤ 1 * n := sumF_bd fun k hk => by
  unfold rcG
  split <;> omega
theorem pu_bd (H : FIv n ar fc kn rd) : 0 * (n : Int) ≤ sumF n (puG fc kn rd) ∧ sumF n (puG fc kn rd) ≤ 200 * n := sumF_bd fun k hk => by
  obtain ⟨h1, h2, h3, h4⟩ := H k hk
  unfold puG
  split
  · rename_i z; exact mU_bd z.1 h4 h2
  · omega
theorem pl_bd (H : FIv n ar fc kn rd) : 0 * (n : Int) ≤ sumF n (plG kn rd) ∧ sumF n (plG kn rd) ≤ 200 * n := sumF_bd fun k hk => by
  obtain ⟨h1, h2, h3, h4⟩ := H k hk
  unfold plG
  split <;> omega
end SUMS
theorem FIv.sub {n m : Nat} {ar fc kn : Nat → Int} {rd : Nat → Nat → Int} (H : FIv n ar fc kn rd) (h : m ≤ n) : FIv m ar fc kn rd := fun f hf => H f (by omega)
/-- the class's flats -/
abbrev cAr (h : AH) : Nat → Int := fun f => h 4 f 0
abbrev cFc (h : AH) : Nat → Int := fun f => h 4 f 2
abbrev cKn (h : AH) : Nat → Int := fun f => h 4 f 4
abbrev cRd (h : AH) : Nat → Nat → Int := fun f => h 5 f
def FIc (h : AH) : Prop := FIv 6 (cAr h) (cFc h) (cKn h) (cRd h)
/-- the reference's -/
abbrev rAr (h : AH) : Nat → Int := fun f => h 41 0 f
abbrev rFc (h : AH) : Nat → Int := fun f => h 43 0 f
abbrev rKn (h : AH) : Nat → Int := fun f => h 47 0 f
abbrev rRd (h : AH) : Nat → Nat → Int := fun f => rdR h f
def FIr (n : Nat) (h : AH) : Prop := FIv n (rAr h) (rFc h) (rKn h) (rRd h)
/-- Meters' four sums -/
def MS (h : AH) (a b c d : Int) : AH := fun t i j => if t = 10 ∧ i = 0 then (if j = 4 then a else if j = 5 then b else if j = 6 then c else if j = 7 then d else h t i j) else h t i j
theorem MS_fr (h : AH) (a b c d : Int) {t : Nat} (e : t ≠ 10) : MS h a b c d t = h t := by
  funext i j; unfold MS; rw [if_neg (by omega)]
theorem MS_4 (h : AH) (a b c d x : Int) : hset (MS h a b c d) 10 0 4 x = MS h x b c d := by
  funext t i j; unfold hset MS
  by_cases e : t = 10 ∧ i = 0
  · obtain ⟨rfl, rfl⟩ := e; by_cases z : j = 4 <;> simp [z]
  · rw [if_neg (by omega), if_neg e, if_neg e]
theorem MS_5 (h : AH) (a b c d x : Int) : hset (MS h a b c d) 10 0 5 x = MS h a x c d := by
  funext t i j; unfold hset MS
  by_cases e : t = 10 ∧ i = 0
  · obtain ⟨rfl, rfl⟩ := e; by_cases z : j = 5 <;> simp [z]
  · rw [if_neg (by omega), if_neg e, if_neg e]
theorem MS_6 (h : AH) (a b c d x : Int) : hset (MS h a b c d) 10 0 6 x = MS h a b x d := by
  funext t i j; unfold hset MS
  by_cases e : t = 10 ∧ i = 0
  · obtain ⟨rfl, rfl⟩ := e; by_cases z : j = 6 <;> simp [z]
  · rw [if_neg (by omega), if_neg e, if_neg e]
theorem MS_7 (h : AH) (a b c d x : Int) : hset (MS h a b c d) 10 0 7 x = MS h a b c x := by
  funext t i j; unfold hset MS
  by_cases e : t = 10 ∧ i = 0
  · obtain ⟨rfl, rfl⟩ := e; by_cases z : j = 7 <;> simp [z]
  · rw [if_neg (by omega), if_neg e, if_neg e]
theorem MS_self (h : AH) : MS h (h 10 0 4) (h 10 0 5) (h 10 0 6) (h 10 0 7) = h := by
  funext t i j; unfold MS
  by_cases e : t = 10 ∧ i = 0
  · obtain ⟨rfl, rfl⟩ := e
    rw [if_pos ⟨rfl, rfl⟩]
    (repeat' split) <;> simp_all
  · rw [if_neg e]
theorem MS_g4 (h : AH) (a b c d : Int) : MS h a b c d 10 0 4 = a := rfl
theorem MS_g5 (h : AH) (a b c d : Int) : MS h a b c d 10 0 5 = b := rfl
theorem MS_g6 (h : AH) (a b c d : Int) : MS h a b c d 10 0 6 = c := rfl
theorem MS_g7 (h : AH) (a b c d : Int) : MS h a b c d 10 0 7 = d := rfl
end
section
/-! Contracts: Meters.sumRead. -/
set_option maxHeartbeats 1000000 in
theorem c_M_sumRead {l : Launch} (hl : l.stackTraces = false) {w : XW} {h : AH} (hc : 0 ≤ h 2 0 1 ∧ h 2 0 1 ≤ 6) (hF : FIc h) : AM l y_M_sumRead (wsM y_M_sumRead b_M_sumRead 4 none []) false (rmV 2 0) w [vO 10 0, vO 2 0] h (RetP none (fun h' => h' = MS h (sumF (h 2 0 1).toNat (ruG (cFc h) (cRd h))) (sumF (h 2 0 1).toNat (raG (cAr h) (cRd h))) (sumF (h 2 0 1).toNat (puG (cFc h) (cKn h) (cRd h))) (sumF (h 2 0 1).toNat (plG (cKn h) (cRd h))))) := by
  refine AM.of hl (by decide +kernel) (Nat.le_of_ble_eq_true rfl) fun x hx C _ => ?_
  have loop : ∀ (m : Nat) (i A B G D : Int), 0 ≤ i → i ≤ h 2 0 1 → (h 2 0 1 - i).toNat = m → A = sumF i.toNat (ruG (cFc h) (cRd h)) → B = sumF i.toNat (raG (cAr h) (cRd h)) → G = sumF i.toNat (puG (cFc h) (cKn h) (cRd h)) → D = sumF i.toNat (plG (cKn h) (cRd h)) → AW x w 4 false 0 0 (AQ x w false 0 0 (RetP none (fun h' => h' = MS h (sumF (h 2 0 1).toNat (ruG (cFc h) (cRd h))) (sumF (h 2 0 1).toNat (raG (cAr h) (cRd h))) (sumF (h 2 0 1).toNat (puG (cFc h) (cKn h) (cRd h))) (sumF (h 2 0 1).toNat (plG (cKn h) (cRd h)))))) 22 [(2, vI i), (0, vO 10 0), (1, vO 2 0)] [] (MS h A B G D) := by
    intro m
    induction m using Nat.strongRecOn with
    | _ m ih =>
    intro i A B G D hi0 hi1 hm hA hB hG hD
    refine r_iload_n (i0 := 2) C d_M_sumRead_22 rfl rfl ?_
    refine r_aload_n (i0 := 1) C d_M_sumRead_23 rfl rfl ?_
    refine r_getI C fl_M_43 d_M_sumRead_24 rfl ?_
    simp only [MS_fr _ _ _ _ _ (show (2 : Nat) ≠ 10 by decide)]
    refine r_icmp_ge (tgt := 110) C d_M_sumRead_27 (by decide) (fun q27 => ?_) (fun q27 => ?_)
    · have e : i.toNat = (h 2 0 1).toNat := (by have : h 2 0 1 ≤ i := q27; omega)
      exact r_vret C d_M_sumRead_110 (⟨rfl, by rw [hA, hB, hG, hD, e]⟩) (by decide) (fun q => nomatch q)
    · refine r_aload_n (i0 := 1) C d_M_sumRead_30 rfl rfl ?_
      refine r_getO C fl_M_48 d_M_sumRead_31 rfl rfl (fun hi => hi) ?_
      refine r_iload_n (i0 := 2) C d_M_sumRead_34 rfl rfl ?_
      refine r_aaF C d_M_sumRead_35 (by have : ¬ h 2 0 1 ≤ i := q27; omega) ?_
      refine r_astore_n (i0 := 3) C d_M_sumRead_36 rfl (by decide) ?_
      refine r_aload_n (i0 := 3) C d_M_sumRead_37 rfl rfl ?_
      refine r_callVp C cl_M_60 im_F_isMeterRead rfl rfl (c_F_isMeterRead hx) rfl rfl d_M_sumRead_38 (by decide) (Nat.le_of_ble_eq_true rfl) ?_
      simp only [MS_fr _ _ _ _ _ (show (5 : Nat) ≠ 10 by decide), MS_fr _ _ _ _ _ (show (4 : Nat) ≠ 10 by decide)]
      refine r_if_eq (tgt := 104) C d_M_sumRead_41 (by decide) (fun q41 => ?_) (fun q41 => ?_)
      · refine r_iinc C d_M_sumRead_104 rfl (by decide) (by omega) ?_
        refine r_goto (tgt := 22) C d_M_sumRead_107 (by decide) ?_
        refine AW.lvs [(2, vI (i + 1)), (0, vO 10 0), (1, vO 2 0)] ⟨rfl, rfl, rfl, trivial⟩ (ih (m - 1) (by omega) (i + 1) _ _ _ _ (by omega) (by omega) (by omega) ?_ ?_ ?_ ?_)
        · exact (by rw [sumF_int hi0, ← hA]; unfold ruG; (try dsimp only [cAr, cFc, cKn, cRd]); have := rdI_01 (h 5 i.toNat); (repeat' split) <;> omega)
        · exact (by rw [sumF_int hi0, ← hB]; unfold raG; (try dsimp only [cAr, cFc, cKn, cRd]); have := rdI_01 (h 5 i.toNat); (repeat' split) <;> omega)
        · exact (by rw [sumF_int hi0, ← hG]; unfold puG; (try dsimp only [cAr, cFc, cKn, cRd]); have := rdI_01 (h 5 i.toNat); (repeat' split) <;> omega)
        · exact (by rw [sumF_int hi0, ← hD]; unfold plG; (try dsimp only [cAr, cFc, cKn, cRd]); have := rdI_01 (h 5 i.toNat); (repeat' split) <;> omega)
      · refine r_aload_n (i0 := 0) C d_M_sumRead_44 rfl rfl ?_
        refine r_dup C d_M_sumRead_45 rfl ?_
        refine r_getI C fl_M_26 d_M_sumRead_46 rfl ?_
        rw [MS_g4]
        refine r_aload_n (i0 := 3) C d_M_sumRead_49 rfl rfl ?_
        refine r_callVp C cl_M_66 im_F_unitsOfYear rfl rfl (c_F_unitsOfYear hx (fun t ht => (hF i.toNat (by omega)).2.2.2 t ht) (hF i.toNat (by omega)).2.1) rfl rfl d_M_sumRead_50 (by decide) (Nat.le_of_ble_eq_true rfl) ?_
        simp only [MS_fr _ _ _ _ _ (show (5 : Nat) ≠ 10 by decide), MS_fr _ _ _ _ _ (show (4 : Nat) ≠ 10 by decide)]
        refine r_iadd C d_M_sumRead_53 (by have b1 := ru_bd (hF.sub (show i.toNat ≤ 6 by omega)); have b2 := ra_bd (hF.sub (show i.toNat ≤ 6 by omega)); have b3 := pu_bd (hF.sub (show i.toNat ≤ 6 by omega)); have b4 := pl_bd (hF.sub (show i.toNat ≤ 6 by omega)); have f0 := hF i.toNat (by omega); dsimp only [cAr, cFc, cKn, cRd] at f0; have m0 := mU_bd (fc := h 4 i.toNat 2) (r := h 5 i.toNat) (by have := rdI_01 (h 5 i.toNat); omega) f0.2.2.2 f0.2.1; omega) ?_
        refine r_putI C pl_M_26 d_M_sumRead_54 rfl ?_
        rw [MS_4]
        refine r_aload_n (i0 := 0) C d_M_sumRead_57 rfl rfl ?_
        refine r_dup C d_M_sumRead_58 rfl ?_
        refine r_getI C fl_M_30 d_M_sumRead_59 rfl ?_
        rw [MS_g5]
        refine r_aload_n (i0 := 3) C d_M_sumRead_62 rfl rfl ?_
        refine r_getI C fl_M_70 d_M_sumRead_63 rfl ?_
        simp only [MS_fr _ _ _ _ _ (show (5 : Nat) ≠ 10 by decide), MS_fr _ _ _ _ _ (show (4 : Nat) ≠ 10 by decide)]
        refine r_iadd C d_M_sumRead_66 (by have b1 := ru_bd (hF.sub (show i.toNat ≤ 6 by omega)); have b2 := ra_bd (hF.sub (show i.toNat ≤ 6 by omega)); have b3 := pu_bd (hF.sub (show i.toNat ≤ 6 by omega)); have b4 := pl_bd (hF.sub (show i.toNat ≤ 6 by omega)); have f0 := hF i.toNat (by omega); dsimp only [cAr, cFc, cKn, cRd] at f0; have m0 := mU_bd (fc := h 4 i.toNat 2) (r := h 5 i.toNat) (by have := rdI_01 (h 5 i.toNat); omega) f0.2.2.2 f0.2.1; omega) ?_
        refine r_putI C pl_M_30 d_M_sumRead_67 rfl ?_
        rw [MS_5]
        refine r_aload_n (i0 := 3) C d_M_sumRead_70 rfl rfl ?_
        refine r_getI C fl_M_73 d_M_sumRead_71 rfl ?_
        simp only [MS_fr _ _ _ _ _ (show (5 : Nat) ≠ 10 by decide), MS_fr _ _ _ _ _ (show (4 : Nat) ≠ 10 by decide)]
        refine r_iconst C d_M_sumRead_74 (by decide) ?_
        refine r_icmp_eq (tgt := 104) C d_M_sumRead_75 (by decide) (fun q75 => ?_) (fun q75 => ?_)
        · refine r_iinc C d_M_sumRead_104 rfl (by decide) (by omega) ?_
          refine r_goto (tgt := 22) C d_M_sumRead_107 (by decide) ?_
          refine AW.lvs [(2, vI (i + 1)), (0, vO 10 0), (1, vO 2 0)] ⟨rfl, rfl, rfl, trivial⟩ (ih (m - 1) (by omega) (i + 1) _ _ _ _ (by omega) (by omega) (by omega) ?_ ?_ ?_ ?_)
          · exact (by rw [sumF_int hi0, ← hA]; unfold ruG; (try dsimp only [cAr, cFc, cKn, cRd]); have := rdI_01 (h 5 i.toNat); (repeat' split) <;> omega)
          · exact (by rw [sumF_int hi0, ← hB]; unfold raG; (try dsimp only [cAr, cFc, cKn, cRd]); have := rdI_01 (h 5 i.toNat); (repeat' split) <;> omega)
          · exact (by rw [sumF_int hi0, ← hG]; unfold puG; (try dsimp only [cAr, cFc, cKn, cRd]); have := rdI_01 (h 5 i.toNat); (repeat' split) <;> omega)
          · exact (by rw [sumF_int hi0, ← hD]; unfold plG; (try dsimp only [cAr, cFc, cKn, cRd]); have := rdI_01 (h 5 i.toNat); (repeat' split) <;> omega)
        · refine r_aload_n (i0 := 0) C d_M_sumRead_78 rfl rfl ?_
          refine r_dup C d_M_sumRead_79 rfl ?_
          refine r_getI C fl_M_33 d_M_sumRead_80 rfl ?_
          rw [MS_g6]
          refine r_aload_n (i0 := 3) C d_M_sumRead_83 rfl rfl ?_
          refine r_callVp C cl_M_66 im_F_unitsOfYear rfl rfl (c_F_unitsOfYear hx (fun t ht => (hF i.toNat (by omega)).2.2.2 t ht) (hF i.toNat (by omega)).2.1) rfl rfl d_M_sumRead_84 (by decide) (Nat.le_of_ble_eq_true rfl) ?_
          simp only [MS_fr _ _ _ _ _ (show (5 : Nat) ≠ 10 by decide), MS_fr _ _ _ _ _ (show (4 : Nat) ≠ 10 by decide)]
          refine r_iadd C d_M_sumRead_87 (by have b1 := ru_bd (hF.sub (show i.toNat ≤ 6 by omega)); have b2 := ra_bd (hF.sub (show i.toNat ≤ 6 by omega)); have b3 := pu_bd (hF.sub (show i.toNat ≤ 6 by omega)); have b4 := pl_bd (hF.sub (show i.toNat ≤ 6 by omega)); have f0 := hF i.toNat (by omega); dsimp only [cAr, cFc, cKn, cRd] at f0; have m0 := mU_bd (fc := h 4 i.toNat 2) (r := h 5 i.toNat) (by have := rdI_01 (h 5 i.toNat); omega) f0.2.2.2 f0.2.1; omega) ?_
          refine r_putI C pl_M_33 d_M_sumRead_88 rfl ?_
          rw [MS_6]
          refine r_aload_n (i0 := 0) C d_M_sumRead_91 rfl rfl ?_
          refine r_dup C d_M_sumRead_92 rfl ?_
          refine r_getI C fl_M_36 d_M_sumRead_93 rfl ?_
          rw [MS_g7]
          refine r_aload_n (i0 := 3) C d_M_sumRead_96 rfl rfl ?_
          refine r_getI C fl_M_73 d_M_sumRead_97 rfl ?_
          simp only [MS_fr _ _ _ _ _ (show (5 : Nat) ≠ 10 by decide), MS_fr _ _ _ _ _ (show (4 : Nat) ≠ 10 by decide)]
          refine r_iadd C d_M_sumRead_100 (by have b1 := ru_bd (hF.sub (show i.toNat ≤ 6 by omega)); have b2 := ra_bd (hF.sub (show i.toNat ≤ 6 by omega)); have b3 := pu_bd (hF.sub (show i.toNat ≤ 6 by omega)); have b4 := pl_bd (hF.sub (show i.toNat ≤ 6 by omega)); have f0 := hF i.toNat (by omega); dsimp only [cAr, cFc, cKn, cRd] at f0; have m0 := mU_bd (fc := h 4 i.toNat 2) (r := h 5 i.toNat) (by have := rdI_01 (h 5 i.toNat); omega) f0.2.2.2 f0.2.1; omega) ?_
          refine r_putI C pl_M_36 d_M_sumRead_101 rfl ?_
          rw [MS_7]
          refine r_iinc C d_M_sumRead_104 rfl (by decide) (by omega) ?_
          refine r_goto (tgt := 22) C d_M_sumRead_107 (by decide) ?_
          refine AW.lvs [(2, vI (i + 1)), (0, vO 10 0), (1, vO 2 0)] ⟨rfl, rfl, rfl, trivial⟩ (ih (m - 1) (by omega) (i + 1) _ _ _ _ (by omega) (by omega) (by omega) ?_ ?_ ?_ ?_)
          · exact (by rw [sumF_int hi0, ← hA]; unfold ruG; (try dsimp only [cAr, cFc, cKn, cRd]); have := rdI_01 (h 5 i.toNat); (repeat' split) <;> omega)
          · exact (by rw [sumF_int hi0, ← hB]; unfold raG; (try dsimp only [cAr, cFc, cKn, cRd]); have := rdI_01 (h 5 i.toNat); (repeat' split) <;> omega)
          · exact (by rw [sumF_int hi0, ← hG]; unfold puG; (try dsimp only [cAr, cFc, cKn, cRd]); have := rdI_01 (h 5 i.toNat); (repeat' split) <;> omega)
          · exact (by rw [sumF_int hi0, ← hD]; unfold plG; (try dsimp only [cAr, cFc, cKn, cRd]); have := rdI_01 (h 5 i.toNat); (repeat' split) <;> omega)
  refine r_aload_n (i0 := 0) C d_M_sumRead_0 rfl rfl ?_
  refine r_iconst C d_M_sumRead_1 (by decide) ?_
  refine r_putI C pl_M_26 d_M_sumRead_2 rfl ?_
  refine r_aload_n (i0 := 0) C d_M_sumRead_5 rfl rfl ?_
  refine r_iconst C d_M_sumRead_6 (by decide) ?_
  refine r_putI C pl_M_30 d_M_sumRead_7 rfl ?_
  refine r_aload_n (i0 := 0) C d_M_sumRead_10 rfl rfl ?_
  refine r_iconst C d_M_sumRead_11 (by decide) ?_
  refine r_putI C pl_M_33 d_M_sumRead_12 rfl ?_
  refine r_aload_n (i0 := 0) C d_M_sumRead_15 rfl rfl ?_
  refine r_iconst C d_M_sumRead_16 (by decide) ?_
  refine r_putI C pl_M_36 d_M_sumRead_17 rfl ?_
  refine r_iconst C d_M_sumRead_20 (by decide) ?_
  refine r_istore_n (i0 := 2) C d_M_sumRead_21 rfl (by decide) ?_
  have e0 := loop _ 0 0 0 0 0 (by omega) (by omega) rfl rfl rfl rfl rfl
  have e1 : MS h 0 0 0 0 = hset (hset (hset (hset h 10 0 4 0) 10 0 5 0) 10 0 6 0) 10 0 7 0 := by
    conv => rhs; rw [← MS_self h]
    simp only [MS_4, MS_5, MS_6, MS_7]
  rw [e1] at e0
  exact e0
end
section
/-! How a meter is replaced, and its units over one denominator. -/
theorem mulB {a b A B : Int} (ha : -A ≤ a ∧ a ≤ A) (hb : -B ≤ b ∧ b ≤ B) : -(A * B) ≤ a * b ∧ a * b ≤ A * B := by
  have h1 : a.natAbs ≤ A.toNat := by omega
  have h2 : b.natAbs ≤ B.toNat := by omega
  have h3 := Nat.mul_le_mul h1 h2
  rw [← Int.natAbs_mul] at h3
  have h4 : ((A.toNat * B.toNat : Nat) : Int) = A * B := by
    rw [Int.natCast_mul, Int.toNat_of_nonneg (by omega), Int.toNat_of_nonneg (by omega)]
  omega
theorem mulN {a b A B : Int} (ha : 0 ≤ a ∧ a ≤ A) (hb : 0 ≤ b ∧ b ≤ B) : 0 ≤ a * b ∧ a * b ≤ A * B :=
  ⟨Int.mul_nonneg ha.1 hb.1, mul_le' ha.2 hb.2 hb.1 (by omega)⟩
def kdS (rI kn pu pl ra : Int) : Int := if rI = 1 then 0 else if kn ≠ -1 ∧ 0 < pu ∧ 0 < pl then 1 else if 0 < ra then 2 else 3
def mn (a b : Int) : Int := if b < a then b else a
def unS (k mu kn ar pu ru sc ls lk : Int) : Int := if k = 0 then mu * sc else if k = 1 then mn (200 * sc) (kn * pu * lk) else if k = 2 then mn (200 * sc) (ar * ru * ls) else 0
def or1 (a : Int) : Int := if 0 < a then a else 1
section VIEW
variable (n : Nat) (ar fc kn : Nat → Int) (rd : Nat → Nat → Int)
def ruV : Int := sumF n (ruG fc rd)
def raV : Int := sumF n (raG ar rd)
def puV : Int := sumF n (puG fc kn rd)
def plV : Int := sumF n (plG kn rd)
def kdV : Nat → Int := fun f => kdS (rdI (rd f)) (kn f) (puV n fc kn rd) (plV n kn rd) (raV n ar rd)
def lsV : Int := or1 (plV n kn rd)
def lkV : Int := or1 (raV n ar rd)
def scV : Int := lsV n kn rd * lkV n ar rd
def unV : Nat → Int := fun f => unS (kdV n ar fc kn rd f) (mU (fc f) (rd f)) (kn f) (ar f) (puV n fc kn rd) (ruV n fc rd) (scV n ar kn rd) (lsV n kn rd) (lkV n ar rd)
end VIEW
section VIEWB
variable {n : Nat} {ar fc kn : Nat → Int} {rd : Nat → Nat → Int}
theorem ruV_bd (H : FIv n ar fc kn rd) (hn : n ≤ 6) : 0 ≤ ruV n fc rd ∧ ruV n fc rd ≤ 1200 := by have := ru_bd H; unfold ruV; omega
theorem raV_bd (H : FIv n ar fc kn rd) (hn : n ≤ 6) : 0 ≤ raV n ar rd ∧ raV n ar rd ≤ 300 := by have := ra_bd H; unfold raV; omega
theorem puV_bd (H : FIv n ar fc kn rd) (hn : n ≤ 6) : 0 ≤ puV n fc kn rd ∧ puV n fc kn rd ≤ 1200 := by have := pu_bd H; unfold puV; omega
theorem plV_bd (H : FIv n ar fc kn rd) (hn : n ≤ 6) : 0 ≤ plV n kn rd ∧ plV n kn rd ≤ 1200 := by have := pl_bd H; unfold plV; omega
theorem lsV_bd (H : FIv n ar fc kn rd) (hn : n ≤ 6) : 1 ≤ lsV n kn rd ∧ lsV n kn rd ≤ 1200 := by have := plV_bd H hn; unfold lsV or1; split <;> omega
theorem lkV_bd (H : FIv n ar fc kn rd) (hn : n ≤ 6) : 1 ≤ lkV n ar rd ∧ lkV n ar rd ≤ 300 := by have := raV_bd H hn; unfold lkV or1; split <;> omega
theorem scV_bd (H : FIv n ar fc kn rd) (hn : n ≤ 6) : 1 ≤ scV n ar kn rd ∧ scV n ar kn rd ≤ 360000 := by
  have h1 := lsV_bd H hn
  have h2 := lkV_bd H hn
  unfold scV
  have h3 := mulN (A := 1200) (B := 300) ⟨by omega, h1.2⟩ ⟨by omega, h2.2⟩
  have h4 := Int.mul_pos (show 0 < lsV n kn rd by omega) (show 0 < lkV n ar rd by omega)
  omega
end VIEWB
theorem unS_bd {k mu kn ar pu ru sc ls lk : Int} (hm : k = 0 → 0 ≤ mu ∧ mu ≤ 200) (hk : k = 1 → 0 ≤ kn) (ha : 0 ≤ ar) (hp : 0 ≤ pu) (hr : 0 ≤ ru) (hs : 1 ≤ sc) (hl : 0 ≤ ls) (hl2 : 0 ≤ lk) : 0 ≤ unS k mu kn ar pu ru sc ls lk ∧ unS k mu kn ar pu ru sc ls lk ≤ 200 * sc := by
  unfold unS mn
  split
  · rename_i z
    have h := hm z
    exact ⟨Int.mul_nonneg h.1 (by omega), Int.mul_le_mul_of_nonneg_right h.2 (by omega)⟩
  · split
    · rename_i z
      have h1 : 0 ≤ kn * pu * lk := Int.mul_nonneg (Int.mul_nonneg (hk z) hp) hl2
      split <;> omega
    · split
      · have h1 : 0 ≤ ar * ru * ls := Int.mul_nonneg (Int.mul_nonneg ha hr) hl
        split <;> omega
      · omega
/-- what Meters.look leaves behind, i flats on -/
def LK (h : AH) (n : Nat) (kd un : Nat → Int) (a b c d sc au : Int) : AH := fun t i j =>
  if t = 10 ∧ i = 0 then (if j = 2 then sc else if j = 3 then au else if j = 4 then a else if j = 5 then b else if j = 6 then c else if j = 7 then d else h t i j)
  else if t = 11 ∧ i = 0 ∧ j < n then kd j else if t = 12 ∧ i = 0 ∧ j < n then un j else h t i j
theorem LK_fr (h : AH) (n : Nat) (kd un : Nat → Int) (a b c d sc au : Int) {t : Nat} (e : t ≠ 10 ∧ t ≠ 11 ∧ t ≠ 12) : LK h n kd un a b c d sc au t = h t := by
  funext i j; unfold LK; rw [if_neg (by omega), if_neg (by omega), if_neg (by omega)]
theorem LK_zero (h : AH) (kd un : Nat → Int) (a b c d sc : Int) : hset (hset (MS h a b c d) 10 0 2 sc) 10 0 3 0 = LK h 0 kd un a b c d sc 0 := by
  funext t i j; unfold hset MS LK
  by_cases e : t = 10 ∧ i = 0
  · obtain ⟨rfl, rfl⟩ := e
    by_cases z2 : j = 2
    · subst z2; simp
    · by_cases z3 : j = 3
      · subst z3; simp
      · simp [z2, z3]
  · rw [if_neg (by omega), if_neg (by omega), if_neg e, if_neg e, if_neg (by omega), if_neg (by omega)]
theorem LK_step (h : AH) (n : Nat) (kd un : Nat → Int) (a b c d sc au : Int) : hset (hset (hset (LK h n kd un a b c d sc au) 11 0 n (kd n)) 12 0 n (un n)) 10 0 3 (au + un n) = LK h (n + 1) kd un a b c d sc (au + un n) := by
  funext t i j; unfold hset LK
  by_cases e : t = 10 ∧ i = 0
  · obtain ⟨rfl, rfl⟩ := e
    by_cases z3 : j = 3
    · subst z3; simp
    · simp [z3]
  · rw [if_neg (by omega)]
    by_cases e11 : t = 11 ∧ i = 0
    · obtain ⟨rfl, rfl⟩ := e11
      by_cases z : j = n
      · subst z; simp
      · simp only [z, and_false, if_false]
        by_cases z1 : j < n
        · simp [z1, show j < n + 1 by omega]
        · simp [z1, show ¬ j < n + 1 by omega]
    · by_cases e12 : t = 12 ∧ i = 0
      · obtain ⟨rfl, rfl⟩ := e12
        by_cases z : j = n
        · subst z; simp
        · simp only [z, and_false, if_false]
          by_cases z1 : j < n
          · simp [z1, show j < n + 1 by omega]
          · simp [z1, show ¬ j < n + 1 by omega]
      · rw [if_neg (by omega), if_neg (by omega), if_neg e, if_neg e, if_neg (by omega), if_neg (by omega), if_neg (by omega), if_neg (by omega)]
end
section
/-! Contracts: Meters.kindOf, scaledUnits, look. -/
set_option maxHeartbeats 1000000 in
theorem c_M_kindOf {l : Launch} (hl : l.stackTraces = false) {w : XW} {h : AH} {f : Nat} : AM l y_M_kindOf (wsM y_M_kindOf b_M_kindOf 2 (some .int) []) true (rmV 1 0) w [vO 10 0, vO 4 f] h (Ret (some (vI (kdS (rdI (h 5 f)) (h 4 f 4) (h 10 0 6) (h 10 0 7) (h 10 0 5)))) h) := by
  refine AM.of hl (by decide +kernel) (Nat.le_of_ble_eq_true rfl) fun x hx C _ => ?_
  refine r_aload_n (i0 := 1) C d_M_kindOf_0 rfl rfl ?_
  refine r_callVp C cl_M_60 im_F_isMeterRead rfl rfl (c_F_isMeterRead hx) rfl rfl d_M_kindOf_1 (by decide) (Nat.le_of_ble_eq_true rfl) ?_
  refine r_if_eq (tgt := 9) C d_M_kindOf_4 (by decide) (fun q4 => ?_) (fun q4 => ?_)
  · refine r_aload_n (i0 := 1) C d_M_kindOf_9 rfl rfl ?_
    refine r_getI C fl_M_73 d_M_kindOf_10 rfl ?_
    refine r_iconst C d_M_kindOf_13 (by decide) ?_
    refine r_icmp_eq (tgt := 33) C d_M_kindOf_14 (by decide) (fun q14 => ?_) (fun q14 => ?_)
    · refine r_aload_n (i0 := 0) C d_M_kindOf_33 rfl rfl ?_
      refine r_getI C fl_M_30 d_M_kindOf_34 rfl ?_
      refine r_if_le (tgt := 44) C d_M_kindOf_37 (by decide) (fun q37 => ?_) (fun q37 => ?_)
      · refine r_iconst C d_M_kindOf_44 (by decide) ?_
        exact r_iret C d_M_kindOf_45 (fun _ => ⟨vi_e (by have := rdI_01 (h 5 f); unfold kdS; (repeat' split) <;> omega), rfl⟩) (by decide) (fun _ => ⟨rfl, rfl, rfl⟩)
      · refine r_iconst C d_M_kindOf_40 (by decide) ?_
        refine r_goto (tgt := 45) C d_M_kindOf_41 (by decide) ?_
        exact r_iret C d_M_kindOf_45 (fun _ => ⟨vi_e (by have := rdI_01 (h 5 f); unfold kdS; (repeat' split) <;> omega), rfl⟩) (by decide) (fun _ => ⟨rfl, rfl, rfl⟩)
    · refine r_aload_n (i0 := 0) C d_M_kindOf_17 rfl rfl ?_
      refine r_getI C fl_M_33 d_M_kindOf_18 rfl ?_
      refine r_if_le (tgt := 33) C d_M_kindOf_21 (by decide) (fun q21 => ?_) (fun q21 => ?_)
      · refine r_aload_n (i0 := 0) C d_M_kindOf_33 rfl rfl ?_
        refine r_getI C fl_M_30 d_M_kindOf_34 rfl ?_
        refine r_if_le (tgt := 44) C d_M_kindOf_37 (by decide) (fun q37 => ?_) (fun q37 => ?_)
        · refine r_iconst C d_M_kindOf_44 (by decide) ?_
          exact r_iret C d_M_kindOf_45 (fun _ => ⟨vi_e (by have := rdI_01 (h 5 f); unfold kdS; (repeat' split) <;> omega), rfl⟩) (by decide) (fun _ => ⟨rfl, rfl, rfl⟩)
        · refine r_iconst C d_M_kindOf_40 (by decide) ?_
          refine r_goto (tgt := 45) C d_M_kindOf_41 (by decide) ?_
          exact r_iret C d_M_kindOf_45 (fun _ => ⟨vi_e (by have := rdI_01 (h 5 f); unfold kdS; (repeat' split) <;> omega), rfl⟩) (by decide) (fun _ => ⟨rfl, rfl, rfl⟩)
      · refine r_aload_n (i0 := 0) C d_M_kindOf_24 rfl rfl ?_
        refine r_getI C fl_M_36 d_M_kindOf_25 rfl ?_
        refine r_if_le (tgt := 33) C d_M_kindOf_28 (by decide) (fun q28 => ?_) (fun q28 => ?_)
        · refine r_aload_n (i0 := 0) C d_M_kindOf_33 rfl rfl ?_
          refine r_getI C fl_M_30 d_M_kindOf_34 rfl ?_
          refine r_if_le (tgt := 44) C d_M_kindOf_37 (by decide) (fun q37 => ?_) (fun q37 => ?_)
          · refine r_iconst C d_M_kindOf_44 (by decide) ?_
            exact r_iret C d_M_kindOf_45 (fun _ => ⟨vi_e (by have := rdI_01 (h 5 f); unfold kdS; (repeat' split) <;> omega), rfl⟩) (by decide) (fun _ => ⟨rfl, rfl, rfl⟩)
          · refine r_iconst C d_M_kindOf_40 (by decide) ?_
            refine r_goto (tgt := 45) C d_M_kindOf_41 (by decide) ?_
            exact r_iret C d_M_kindOf_45 (fun _ => ⟨vi_e (by have := rdI_01 (h 5 f); unfold kdS; (repeat' split) <;> omega), rfl⟩) (by decide) (fun _ => ⟨rfl, rfl, rfl⟩)
        · refine r_iconst C d_M_kindOf_31 (by decide) ?_
          exact r_iret C d_M_kindOf_32 (fun _ => ⟨vi_e (by have := rdI_01 (h 5 f); unfold kdS; (repeat' split) <;> omega), rfl⟩) (by decide) (fun _ => ⟨rfl, rfl, rfl⟩)
  · refine r_iconst C d_M_kindOf_7 (by decide) ?_
    exact r_iret C d_M_kindOf_8 (fun _ => ⟨vi_e (by have := rdI_01 (h 5 f); unfold kdS; (repeat' split) <;> omega), rfl⟩) (by decide) (fun _ => ⟨rfl, rfl, rfl⟩)
set_option maxHeartbeats 1000000 in
theorem c_M_scaledUnits {l : Launch} (hl : l.stackTraces = false) {w : XW} {h : AH} {f : Nat} {k ls lk : Int} (hr : ∀ t : Nat, t < 13 → -1 ≤ h 5 f t ∧ h 5 f t ≤ 99) (hf : 0 ≤ h 4 f 2 ∧ h 4 f 2 ≤ 2) (hk : -1 ≤ h 4 f 4 ∧ h 4 f 4 ≤ 200) (ha : 0 ≤ h 4 f 0 ∧ h 4 f 0 ≤ 50) (hp : 0 ≤ h 10 0 6 ∧ h 10 0 6 ≤ 1200) (hu : 0 ≤ h 10 0 4 ∧ h 10 0 4 ≤ 1200) (hs : 1 ≤ h 10 0 2 ∧ h 10 0 2 ≤ 360000) (hls : 1 ≤ ls ∧ ls ≤ 1200) (hlk : 1 ≤ lk ∧ lk ≤ 300) (hk4 : 0 ≤ k ∧ k < 4) : AM l y_M_scaledUnits (wsM y_M_scaledUnits b_M_scaledUnits 9 (some .long) []) true (rmV 2 0) w [vO 10 0, vO 4 f, vI k, vL ls, vL lk] h (Ret (some (vL (unS k (mU (h 4 f 2) (h 5 f)) (h 4 f 4) (h 4 f 0) (h 10 0 6) (h 10 0 4) (h 10 0 2) ls lk))) h) := by
  refine AM.of hl (by decide +kernel) (Nat.le_of_ble_eq_true rfl) fun x hx C _ => ?_
  refine r_ldc2 C d_M_scaledUnits_0 k_M_76 (by decide) ?_
  refine r_aload_n (i0 := 0) C d_M_scaledUnits_3 rfl rfl ?_
  refine r_getL C fl_M_19 d_M_scaledUnits_4 rfl ?_
  refine r_lmul C d_M_scaledUnits_7 (by omega) ?_
  refine r_lstore C d_M_scaledUnits_8 (by decide) ?_
  refine r_iload_n (i0 := 2) C d_M_scaledUnits_10 rfl rfl ?_
  have hk5 : k = 0 ∨ k = 1 ∨ k = 2 ∨ k = 3 := by omega
  rcases hk5 with rfl | rfl | rfl | rfl
  · refine r_tableIn (tgt := 36) C d_M_scaledUnits_11 (by omega) (by omega) rfl (by decide) ?_
    refine r_aload_n (i0 := 1) C d_M_scaledUnits_36 rfl rfl ?_
    refine r_callVp C cl_M_66 im_F_unitsOfYear rfl rfl (c_F_unitsOfYear hx hr hf) rfl rfl d_M_scaledUnits_37 (by decide) (Nat.le_of_ble_eq_true rfl) ?_
    refine r_i2l C d_M_scaledUnits_40 ?_
    refine r_aload_n (i0 := 0) C d_M_scaledUnits_41 rfl rfl ?_
    refine r_getL C fl_M_19 d_M_scaledUnits_42 rfl ?_
    refine r_lmul C d_M_scaledUnits_45 (by have u0 := ubd (x := h 5 f 12 - h 5 f 0) (y := h 4 f 2) (by have := hr 0 (by omega); have := hr 12 (by omega); omega) hf; have u1 := mulB (A := 100) (B := 2) (a := h 5 f 12 - h 5 f 0) (b := h 4 f 2) (by have := hr 0 (by omega); have := hr 12 (by omega); omega) (by omega); have u2 := mulB (A := 200) (B := 360000) (a := mU (h 4 f 2) (h 5 f)) (b := h 10 0 2) (by unfold mU; omega) (by omega); omega) ?_
    exact r_lret C d_M_scaledUnits_46 (fun _ => ⟨vl_e rfl, rfl⟩) (by decide) (fun _ => ⟨rfl, rfl, rfl⟩)
  · refine r_tableIn (tgt := 47) C d_M_scaledUnits_11 (by omega) (by omega) rfl (by decide) ?_
    refine r_lload C d_M_scaledUnits_47 rfl ?_
    refine r_aload_n (i0 := 1) C d_M_scaledUnits_49 rfl rfl ?_
    refine r_getI C fl_M_73 d_M_scaledUnits_50 rfl ?_
    refine r_i2l C d_M_scaledUnits_53 ?_
    refine r_aload_n (i0 := 0) C d_M_scaledUnits_54 rfl rfl ?_
    refine r_getI C fl_M_33 d_M_scaledUnits_55 rfl ?_
    refine r_i2l C d_M_scaledUnits_58 ?_
    refine r_lmul C d_M_scaledUnits_59 (by have p1 := mulB (A := 300) (B := 1200) (a := h 4 f 4) (b := h 10 0 6) (by omega) (by omega); have p2 := mulB (A := 360000) (B := 300) (a := h 4 f 4 * h 10 0 6) (b := lk) (by omega) (by omega); omega) ?_
    refine r_lload C d_M_scaledUnits_60 rfl ?_
    refine r_lmul C d_M_scaledUnits_62 (by have p1 := mulB (A := 300) (B := 1200) (a := h 4 f 4) (b := h 10 0 6) (by omega) (by omega); have p2 := mulB (A := 360000) (B := 300) (a := h 4 f 4 * h 10 0 6) (b := lk) (by omega) (by omega); omega) ?_
    refine r_callSp C cl_M_78 st_J_minJ (c_J_minJ hx) rfl rfl d_M_scaledUnits_63 (by decide) (Nat.le_of_ble_eq_true rfl) ?_
    exact r_lret C d_M_scaledUnits_66 (fun _ => ⟨vl_e rfl, rfl⟩) (by decide) (fun _ => ⟨rfl, rfl, rfl⟩)
  · refine r_tableIn (tgt := 67) C d_M_scaledUnits_11 (by omega) (by omega) rfl (by decide) ?_
    refine r_lload C d_M_scaledUnits_67 rfl ?_
    refine r_aload_n (i0 := 1) C d_M_scaledUnits_69 rfl rfl ?_
    refine r_getI C fl_M_70 d_M_scaledUnits_70 rfl ?_
    refine r_i2l C d_M_scaledUnits_73 ?_
    refine r_aload_n (i0 := 0) C d_M_scaledUnits_74 rfl rfl ?_
    refine r_getI C fl_M_26 d_M_scaledUnits_75 rfl ?_
    refine r_i2l C d_M_scaledUnits_78 ?_
    refine r_lmul C d_M_scaledUnits_79 (by have p1 := mulB (A := 300) (B := 1200) (a := h 4 f 0) (b := h 10 0 4) (by omega) (by omega); have p2 := mulB (A := 360000) (B := 1200) (a := h 4 f 0 * h 10 0 4) (b := ls) (by omega) (by omega); omega) ?_
    refine r_lload_n (i0 := 3) C d_M_scaledUnits_80 rfl rfl ?_
    refine r_lmul C d_M_scaledUnits_81 (by have p1 := mulB (A := 300) (B := 1200) (a := h 4 f 0) (b := h 10 0 4) (by omega) (by omega); have p2 := mulB (A := 360000) (B := 1200) (a := h 4 f 0 * h 10 0 4) (b := ls) (by omega) (by omega); omega) ?_
    refine r_callSp C cl_M_78 st_J_minJ (c_J_minJ hx) rfl rfl d_M_scaledUnits_82 (by decide) (Nat.le_of_ble_eq_true rfl) ?_
    exact r_lret C d_M_scaledUnits_85 (fun _ => ⟨vl_e rfl, rfl⟩) (by decide) (fun _ => ⟨rfl, rfl, rfl⟩)
  · refine r_tableOut (tgt := 86) C d_M_scaledUnits_11 (by omega) (by decide) ?_
    refine r_lconst C 0 d_M_scaledUnits_86 (by decide) (by decide) ?_
    exact r_lret C d_M_scaledUnits_87 (fun _ => ⟨vl_e rfl, rfl⟩) (by decide) (fun _ => ⟨rfl, rfl, rfl⟩)
theorem LK_f2 (h : AH) (n : Nat) (kd un : Nat → Int) (a b c d sc au : Int) : LK h n kd un a b c d sc au 2 = h 2 := LK_fr h n kd un a b c d sc au (by decide)
theorem LK_f3 (h : AH) (n : Nat) (kd un : Nat → Int) (a b c d sc au : Int) : LK h n kd un a b c d sc au 3 = h 3 := LK_fr h n kd un a b c d sc au (by decide)
theorem LK_f4 (h : AH) (n : Nat) (kd un : Nat → Int) (a b c d sc au : Int) : LK h n kd un a b c d sc au 4 = h 4 := LK_fr h n kd un a b c d sc au (by decide)
theorem LK_f5 (h : AH) (n : Nat) (kd un : Nat → Int) (a b c d sc au : Int) : LK h n kd un a b c d sc au 5 = h 5 := LK_fr h n kd un a b c d sc au (by decide)
theorem LK_g2 (h : AH) (n : Nat) (kd un : Nat → Int) (a b c d sc au : Int) : LK h n kd un a b c d sc au 10 0 2 = sc := rfl
theorem LK_g3 (h : AH) (n : Nat) (kd un : Nat → Int) (a b c d sc au : Int) : LK h n kd un a b c d sc au 10 0 3 = au := rfl
theorem LK_g4 (h : AH) (n : Nat) (kd un : Nat → Int) (a b c d sc au : Int) : LK h n kd un a b c d sc au 10 0 4 = a := rfl
theorem LK_g5 (h : AH) (n : Nat) (kd un : Nat → Int) (a b c d sc au : Int) : LK h n kd un a b c d sc au 10 0 5 = b := rfl
theorem LK_g6 (h : AH) (n : Nat) (kd un : Nat → Int) (a b c d sc au : Int) : LK h n kd un a b c d sc au 10 0 6 = c := rfl
theorem LK_g7 (h : AH) (n : Nat) (kd un : Nat → Int) (a b c d sc au : Int) : LK h n kd un a b c d sc au 10 0 7 = d := rfl
set_option maxHeartbeats 1000000 in
theorem c_M_look {l : Launch} (hl : l.stackTraces = false) {w : XW} {h : AH} (hc : 0 ≤ h 2 0 1 ∧ h 2 0 1 ≤ 6) (hF : FIc h) : AM l y_M_look (wsM y_M_look b_M_look 8 none []) false (rmV 3 0) w [vO 10 0, vO 2 0] h (RetP none (fun h' => h' = LK h (h 2 0 1).toNat (kdV (h 2 0 1).toNat (cAr h) (cFc h) (cKn h) (cRd h)) (unV (h 2 0 1).toNat (cAr h) (cFc h) (cKn h) (cRd h)) (ruV (h 2 0 1).toNat (cFc h) (cRd h)) (raV (h 2 0 1).toNat (cAr h) (cRd h)) (puV (h 2 0 1).toNat (cFc h) (cKn h) (cRd h)) (plV (h 2 0 1).toNat (cKn h) (cRd h)) (scV (h 2 0 1).toNat (cAr h) (cKn h) (cRd h)) (sumF (h 2 0 1).toNat (unV (h 2 0 1).toNat (cAr h) (cFc h) (cKn h) (cRd h))))) := by
  refine AM.of hl (by decide +kernel) (Nat.le_of_ble_eq_true rfl) fun x hx C _ => ?_
  have hU : ∀ f : Nat, f < (h 2 0 1).toNat → 0 ≤ (unV (h 2 0 1).toNat (cAr h) (cFc h) (cKn h) (cRd h)) f ∧ (unV (h 2 0 1).toNat (cAr h) (cFc h) (cKn h) (cRd h)) f ≤ 72000000 := by
    intro f hf
    have a3 := scV_bd (hF.sub (show (h 2 0 1).toNat ≤ 6 by omega)) (show (h 2 0 1).toNat ≤ 6 by omega)
    have a4 := lsV_bd (hF.sub (show (h 2 0 1).toNat ≤ 6 by omega)) (show (h 2 0 1).toNat ≤ 6 by omega)
    have a5 := lkV_bd (hF.sub (show (h 2 0 1).toNat ≤ 6 by omega)) (show (h 2 0 1).toNat ≤ 6 by omega)
    have a1 := ruV_bd (hF.sub (show (h 2 0 1).toNat ≤ 6 by omega)) (show (h 2 0 1).toNat ≤ 6 by omega)
    have a2 := puV_bd (hF.sub (show (h 2 0 1).toNat ≤ 6 by omega)) (show (h 2 0 1).toNat ≤ 6 by omega)
    have f0 := hF f (by omega)
    dsimp only [cAr, cFc, cKn, cRd] at f0
    have u := unS_bd (k := (kdV (h 2 0 1).toNat (cAr h) (cFc h) (cKn h) (cRd h)) f) (mu := mU (h 4 f 2) (h 5 f)) (kn := h 4 f 4) (ar := h 4 f 0) (pu := (puV (h 2 0 1).toNat (cFc h) (cKn h) (cRd h))) (ru := (ruV (h 2 0 1).toNat (cFc h) (cRd h))) (sc := (scV (h 2 0 1).toNat (cAr h) (cKn h) (cRd h))) (ls := (lsV (h 2 0 1).toNat (cKn h) (cRd h))) (lk := (lkV (h 2 0 1).toNat (cAr h) (cRd h))) (fun z => mU_bd (by have := rdI_01 (h 5 f); unfold kdV kdS at z; dsimp only [cRd, cKn] at z; revert z; (repeat' split) <;> omega) f0.2.2.2 f0.2.1) (fun z => by unfold kdV kdS at z; dsimp only [cRd, cKn] at z; revert z; (repeat' split) <;> omega) f0.1.1 a2.1 a1.1 a3.1 (by omega) (by omega)
    have e : (unV (h 2 0 1).toNat (cAr h) (cFc h) (cKn h) (cRd h)) f = unS ((kdV (h 2 0 1).toNat (cAr h) (cFc h) (cKn h) (cRd h)) f) (mU (h 4 f 2) (h 5 f)) (h 4 f 4) (h 4 f 0) (puV (h 2 0 1).toNat (cFc h) (cKn h) (cRd h)) (ruV (h 2 0 1).toNat (cFc h) (cRd h)) (scV (h 2 0 1).toNat (cAr h) (cKn h) (cRd h)) (lsV (h 2 0 1).toNat (cKn h) (cRd h)) (lkV (h 2 0 1).toNat (cAr h) (cRd h)) := rfl
    omega
  have loop : ∀ (m : Nat) (i : Int), 0 ≤ i → i ≤ h 2 0 1 → (h 2 0 1 - i).toNat = m → AW x w 8 false 0 0 (AQ x w false 0 0 (RetP none (fun h' => h' = LK h (h 2 0 1).toNat (kdV (h 2 0 1).toNat (cAr h) (cFc h) (cKn h) (cRd h)) (unV (h 2 0 1).toNat (cAr h) (cFc h) (cKn h) (cRd h)) (ruV (h 2 0 1).toNat (cFc h) (cRd h)) (raV (h 2 0 1).toNat (cAr h) (cRd h)) (puV (h 2 0 1).toNat (cFc h) (cKn h) (cRd h)) (plV (h 2 0 1).toNat (cKn h) (cRd h)) (scV (h 2 0 1).toNat (cAr h) (cKn h) (cRd h)) (sumF (h 2 0 1).toNat (unV (h 2 0 1).toNat (cAr h) (cFc h) (cKn h) (cRd h)))))) 56 [(6, vI i), (0, vO 10 0), (1, vO 2 0), (2, vL (lsV (h 2 0 1).toNat (cKn h) (cRd h))), (4, vL (lkV (h 2 0 1).toNat (cAr h) (cRd h)))] [] (LK h i.toNat (kdV (h 2 0 1).toNat (cAr h) (cFc h) (cKn h) (cRd h)) (unV (h 2 0 1).toNat (cAr h) (cFc h) (cKn h) (cRd h)) (ruV (h 2 0 1).toNat (cFc h) (cRd h)) (raV (h 2 0 1).toNat (cAr h) (cRd h)) (puV (h 2 0 1).toNat (cFc h) (cKn h) (cRd h)) (plV (h 2 0 1).toNat (cKn h) (cRd h)) (scV (h 2 0 1).toNat (cAr h) (cKn h) (cRd h)) (sumF i.toNat (unV (h 2 0 1).toNat (cAr h) (cFc h) (cKn h) (cRd h)))) := by
    intro m
    induction m using Nat.strongRecOn with
    | _ m ih =>
    intro i hi0 hi1 hm
    refine r_iload C d_M_look_56 rfl ?_
    refine r_aload_n (i0 := 1) C d_M_look_58 rfl rfl ?_
    refine r_getI C fl_M_43 d_M_look_59 rfl ?_
    simp only [hset_fr, hset_tag, hset_slot, hset_same, LK_f2, LK_f3, LK_f4, LK_f5, LK_g2, LK_g3, LK_g4, LK_g5, LK_g6, LK_g7, ne_eq, not_false_eq_true, reduceCtorEq, Nat.reduceEqDiff]
    refine r_icmp_ge (tgt := 132) C d_M_look_62 (by decide) (fun q62 => ?_) (fun q62 => ?_)
    · have e : i.toNat = (h 2 0 1).toNat := (by omega)
      rw [e]
      exact r_vret C d_M_look_132 (⟨rfl, rfl⟩) (by decide) (fun q => nomatch q)
    · refine r_aload_n (i0 := 1) C d_M_look_65 rfl rfl ?_
      refine r_getO C fl_M_48 d_M_look_66 rfl rfl (fun hi => hi) ?_
      refine r_iload C d_M_look_69 rfl ?_
      refine r_aaF C d_M_look_71 (by omega) ?_
      refine r_astore C d_M_look_72 (by decide) ?_
      refine r_aload_n (i0 := 0) C d_M_look_74 rfl rfl ?_
      refine r_getO C fl_M_9 d_M_look_75 rfl rfl (fun hi => hi) ?_
      refine r_iload C d_M_look_78 rfl ?_
      refine r_aload_n (i0 := 0) C d_M_look_80 rfl rfl ?_
      refine r_aload C d_M_look_81 rfl ?_
      refine r_callVp C cl_M_52 im_M_kindOf rfl rfl (c_M_kindOf hx) rfl rfl d_M_look_83 (by decide) (Nat.le_of_ble_eq_true rfl) ?_
      simp only [hset_fr, hset_tag, hset_slot, hset_same, LK_f2, LK_f3, LK_f4, LK_f5, LK_g2, LK_g3, LK_g4, LK_g5, LK_g6, LK_g7, ne_eq, not_false_eq_true, reduceCtorEq, Nat.reduceEqDiff]
      rw [show kdS (rdI (h 5 i.toNat)) (h 4 i.toNat 4) (puV (h 2 0 1).toNat (cFc h) (cKn h) (cRd h)) (plV (h 2 0 1).toNat (cKn h) (cRd h)) (raV (h 2 0 1).toNat (cAr h) (cRd h)) = (kdV (h 2 0 1).toNat (cAr h) (cFc h) (cKn h) (cRd h)) i.toNat from rfl]
      refine r_iastore (ln := 6) C d_M_look_86 rfl (fun _ => rfl) rfl (by omega) ?_
      refine r_aload_n (i0 := 0) C d_M_look_87 rfl rfl ?_
      refine r_getO C fl_M_15 d_M_look_88 rfl rfl (fun hi => hi) ?_
      refine r_iload C d_M_look_91 rfl ?_
      refine r_aload_n (i0 := 0) C d_M_look_93 rfl rfl ?_
      refine r_aload C d_M_look_94 rfl ?_
      refine r_aload_n (i0 := 0) C d_M_look_96 rfl rfl ?_
      refine r_getO C fl_M_9 d_M_look_97 rfl rfl (fun hi => hi) ?_
      refine r_iload C d_M_look_100 rfl ?_
      refine r_iaload (ln := 6) C d_M_look_102 rfl (fun _ => rfl) rfl (by omega) ?_
      rw [hset_same]
      refine r_lload_n (i0 := 2) C d_M_look_103 rfl rfl ?_
      refine r_lload C d_M_look_104 rfl ?_
      refine r_callVp C cl_M_56 im_M_scaledUnits rfl rfl (c_M_scaledUnits hx (by simp only [hset_fr _ _ _ _ (show (5 : Nat) ≠ 11 by decide), LK_f5]; exact (hF i.toNat (by omega)).2.2.2) (by have f0 := hF i.toNat (by omega); dsimp only [cAr, cFc, cKn, cRd] at f0; simp only [hset_fr, hset_tag, hset_slot, hset_same, LK_f2, LK_f3, LK_f4, LK_f5, LK_g2, LK_g3, LK_g4, LK_g5, LK_g6, LK_g7, ne_eq, not_false_eq_true, reduceCtorEq, Nat.reduceEqDiff]; omega) (by have f0 := hF i.toNat (by omega); dsimp only [cAr, cFc, cKn, cRd] at f0; simp only [hset_fr, hset_tag, hset_slot, hset_same, LK_f2, LK_f3, LK_f4, LK_f5, LK_g2, LK_g3, LK_g4, LK_g5, LK_g6, LK_g7, ne_eq, not_false_eq_true, reduceCtorEq, Nat.reduceEqDiff]; omega) (by have f0 := hF i.toNat (by omega); dsimp only [cAr, cFc, cKn, cRd] at f0; simp only [hset_fr, hset_tag, hset_slot, hset_same, LK_f2, LK_f3, LK_f4, LK_f5, LK_g2, LK_g3, LK_g4, LK_g5, LK_g6, LK_g7, ne_eq, not_false_eq_true, reduceCtorEq, Nat.reduceEqDiff]; omega) (by have a1 := ruV_bd (hF.sub (show (h 2 0 1).toNat ≤ 6 by omega)) (show (h 2 0 1).toNat ≤ 6 by omega); have a2 := puV_bd (hF.sub (show (h 2 0 1).toNat ≤ 6 by omega)) (show (h 2 0 1).toNat ≤ 6 by omega); have a3 := scV_bd (hF.sub (show (h 2 0 1).toNat ≤ 6 by omega)) (show (h 2 0 1).toNat ≤ 6 by omega); have a4 := lsV_bd (hF.sub (show (h 2 0 1).toNat ≤ 6 by omega)) (show (h 2 0 1).toNat ≤ 6 by omega); have a5 := lkV_bd (hF.sub (show (h 2 0 1).toNat ≤ 6 by omega)) (show (h 2 0 1).toNat ≤ 6 by omega); simp only [hset_fr, hset_tag, hset_slot, hset_same, LK_f2, LK_f3, LK_f4, LK_f5, LK_g2, LK_g3, LK_g4, LK_g5, LK_g6, LK_g7, ne_eq, not_false_eq_true, reduceCtorEq, Nat.reduceEqDiff]; omega) (by have a1 := ruV_bd (hF.sub (show (h 2 0 1).toNat ≤ 6 by omega)) (show (h 2 0 1).toNat ≤ 6 by omega); have a2 := puV_bd (hF.sub (show (h 2 0 1).toNat ≤ 6 by omega)) (show (h 2 0 1).toNat ≤ 6 by omega); have a3 := scV_bd (hF.sub (show (h 2 0 1).toNat ≤ 6 by omega)) (show (h 2 0 1).toNat ≤ 6 by omega); have a4 := lsV_bd (hF.sub (show (h 2 0 1).toNat ≤ 6 by omega)) (show (h 2 0 1).toNat ≤ 6 by omega); have a5 := lkV_bd (hF.sub (show (h 2 0 1).toNat ≤ 6 by omega)) (show (h 2 0 1).toNat ≤ 6 by omega); simp only [hset_fr, hset_tag, hset_slot, hset_same, LK_f2, LK_f3, LK_f4, LK_f5, LK_g2, LK_g3, LK_g4, LK_g5, LK_g6, LK_g7, ne_eq, not_false_eq_true, reduceCtorEq, Nat.reduceEqDiff]; omega) (by have a1 := ruV_bd (hF.sub (show (h 2 0 1).toNat ≤ 6 by omega)) (show (h 2 0 1).toNat ≤ 6 by omega); have a2 := puV_bd (hF.sub (show (h 2 0 1).toNat ≤ 6 by omega)) (show (h 2 0 1).toNat ≤ 6 by omega); have a3 := scV_bd (hF.sub (show (h 2 0 1).toNat ≤ 6 by omega)) (show (h 2 0 1).toNat ≤ 6 by omega); have a4 := lsV_bd (hF.sub (show (h 2 0 1).toNat ≤ 6 by omega)) (show (h 2 0 1).toNat ≤ 6 by omega); have a5 := lkV_bd (hF.sub (show (h 2 0 1).toNat ≤ 6 by omega)) (show (h 2 0 1).toNat ≤ 6 by omega); simp only [hset_fr, hset_tag, hset_slot, hset_same, LK_f2, LK_f3, LK_f4, LK_f5, LK_g2, LK_g3, LK_g4, LK_g5, LK_g6, LK_g7, ne_eq, not_false_eq_true, reduceCtorEq, Nat.reduceEqDiff]; omega) (by have a1 := ruV_bd (hF.sub (show (h 2 0 1).toNat ≤ 6 by omega)) (show (h 2 0 1).toNat ≤ 6 by omega); have a2 := puV_bd (hF.sub (show (h 2 0 1).toNat ≤ 6 by omega)) (show (h 2 0 1).toNat ≤ 6 by omega); have a3 := scV_bd (hF.sub (show (h 2 0 1).toNat ≤ 6 by omega)) (show (h 2 0 1).toNat ≤ 6 by omega); have a4 := lsV_bd (hF.sub (show (h 2 0 1).toNat ≤ 6 by omega)) (show (h 2 0 1).toNat ≤ 6 by omega); have a5 := lkV_bd (hF.sub (show (h 2 0 1).toNat ≤ 6 by omega)) (show (h 2 0 1).toNat ≤ 6 by omega); omega) (by have a1 := ruV_bd (hF.sub (show (h 2 0 1).toNat ≤ 6 by omega)) (show (h 2 0 1).toNat ≤ 6 by omega); have a2 := puV_bd (hF.sub (show (h 2 0 1).toNat ≤ 6 by omega)) (show (h 2 0 1).toNat ≤ 6 by omega); have a3 := scV_bd (hF.sub (show (h 2 0 1).toNat ≤ 6 by omega)) (show (h 2 0 1).toNat ≤ 6 by omega); have a4 := lsV_bd (hF.sub (show (h 2 0 1).toNat ≤ 6 by omega)) (show (h 2 0 1).toNat ≤ 6 by omega); have a5 := lkV_bd (hF.sub (show (h 2 0 1).toNat ≤ 6 by omega)) (show (h 2 0 1).toNat ≤ 6 by omega); omega) (by unfold kdV kdS; (repeat' split) <;> omega)) rfl rfl d_M_look_106 (by decide) (Nat.le_of_ble_eq_true rfl) ?_
      simp only [hset_fr, hset_tag, hset_slot, hset_same, LK_f2, LK_f3, LK_f4, LK_f5, LK_g2, LK_g3, LK_g4, LK_g5, LK_g6, LK_g7, ne_eq, not_false_eq_true, reduceCtorEq, Nat.reduceEqDiff]
      rw [show unS ((kdV (h 2 0 1).toNat (cAr h) (cFc h) (cKn h) (cRd h)) i.toNat) (mU (h 4 i.toNat 2) (h 5 i.toNat)) (h 4 i.toNat 4) (h 4 i.toNat 0) (puV (h 2 0 1).toNat (cFc h) (cKn h) (cRd h)) (ruV (h 2 0 1).toNat (cFc h) (cRd h)) (scV (h 2 0 1).toNat (cAr h) (cKn h) (cRd h)) (lsV (h 2 0 1).toNat (cKn h) (cRd h)) (lkV (h 2 0 1).toNat (cAr h) (cRd h)) = (unV (h 2 0 1).toNat (cAr h) (cFc h) (cKn h) (cRd h)) i.toNat from rfl]
      refine r_lastore (ln := 6) C d_M_look_109 rfl (fun _ => rfl) rfl (by omega) ?_
      refine r_aload_n (i0 := 0) C d_M_look_110 rfl rfl ?_
      refine r_dup C d_M_look_111 rfl ?_
      refine r_getL C fl_M_23 d_M_look_112 rfl ?_
      simp only [hset_fr, hset_tag, hset_slot, hset_same, LK_f2, LK_f3, LK_f4, LK_f5, LK_g2, LK_g3, LK_g4, LK_g5, LK_g6, LK_g7, ne_eq, not_false_eq_true, reduceCtorEq, Nat.reduceEqDiff]
      refine r_aload_n (i0 := 0) C d_M_look_115 rfl rfl ?_
      refine r_getO C fl_M_15 d_M_look_116 rfl rfl (fun hi => hi) ?_
      refine r_iload C d_M_look_119 rfl ?_
      refine r_laload (ln := 6) C d_M_look_121 rfl (fun _ => rfl) rfl (by omega) ?_
      rw [hset_same]
      refine r_ladd C d_M_look_122 (by have a3 := scV_bd (hF.sub (show (h 2 0 1).toNat ≤ 6 by omega)) (show (h 2 0 1).toNat ≤ 6 by omega); have s0 := sumF_bd (n := i.toNat) (g := (unV (h 2 0 1).toNat (cAr h) (cFc h) (cKn h) (cRd h))) (L := 0) (M := 72000000) (fun k hk => by have u := hU k (by omega); omega); have u1 := hU i.toNat (by omega); omega) ?_
      refine r_putL C pl_M_23 d_M_look_123 rfl ?_
      refine r_iinc C d_M_look_126 rfl (by decide) (by omega) ?_
      refine r_goto (tgt := 56) C d_M_look_129 (by decide) ?_
      have e2 : (i + 1).toNat = i.toNat + 1 := by omega
      rw [LK_step]
      refine AW.lvs [(6, vI (i + 1)), (0, vO 10 0), (1, vO 2 0), (2, vL (lsV (h 2 0 1).toNat (cKn h) (cRd h))), (4, vL (lkV (h 2 0 1).toNat (cAr h) (cRd h)))] ⟨rfl, rfl, rfl, rfl, rfl, trivial⟩ ?_
      have ee := ih (m - 1) (by omega) (i + 1) (by omega) (by omega) (by omega)
      rw [e2, sumF_succ] at ee
      exact ee
  have join38 : ∀ v : Int, v = (lkV (h 2 0 1).toNat (cAr h) (cRd h)) → AW x w 8 false 0 0 (AQ x w false 0 0 (RetP none (fun h' => h' = LK h (h 2 0 1).toNat (kdV (h 2 0 1).toNat (cAr h) (cFc h) (cKn h) (cRd h)) (unV (h 2 0 1).toNat (cAr h) (cFc h) (cKn h) (cRd h)) (ruV (h 2 0 1).toNat (cFc h) (cRd h)) (raV (h 2 0 1).toNat (cAr h) (cRd h)) (puV (h 2 0 1).toNat (cFc h) (cKn h) (cRd h)) (plV (h 2 0 1).toNat (cKn h) (cRd h)) (scV (h 2 0 1).toNat (cAr h) (cKn h) (cRd h)) (sumF (h 2 0 1).toNat (unV (h 2 0 1).toNat (cAr h) (cFc h) (cKn h) (cRd h)))))) 38 [(2, vL (lsV (h 2 0 1).toNat (cKn h) (cRd h))), (0, vO 10 0), (1, vO 2 0)] [vL v] (MS h (ruV (h 2 0 1).toNat (cFc h) (cRd h)) (raV (h 2 0 1).toNat (cAr h) (cRd h)) (puV (h 2 0 1).toNat (cFc h) (cKn h) (cRd h)) (plV (h 2 0 1).toNat (cKn h) (cRd h))) := by
    intro v hv
    subst hv
    refine r_lstore C d_M_look_38 (by decide) ?_
    refine r_aload_n (i0 := 0) C d_M_look_40 rfl rfl ?_
    refine r_lload_n (i0 := 2) C d_M_look_41 rfl rfl ?_
    refine r_lload C d_M_look_42 rfl ?_
    refine r_lmul C d_M_look_44 (by have := scV_bd (hF.sub (show (h 2 0 1).toNat ≤ 6 by omega)) (show (h 2 0 1).toNat ≤ 6 by omega); unfold scV at this; omega) ?_
    refine r_putL C pl_M_19 d_M_look_45 rfl ?_
    rw [show (lsV (h 2 0 1).toNat (cKn h) (cRd h)) * (lkV (h 2 0 1).toNat (cAr h) (cRd h)) = (scV (h 2 0 1).toNat (cAr h) (cKn h) (cRd h)) from rfl]
    refine r_aload_n (i0 := 0) C d_M_look_48 rfl rfl ?_
    refine r_lconst C 0 d_M_look_49 (by decide) (by decide) ?_
    refine r_putL C pl_M_23 d_M_look_50 rfl ?_
    refine r_iconst C d_M_look_53 (by decide) ?_
    refine r_istore C d_M_look_54 (by decide) ?_
    rw [LK_zero h (kdV (h 2 0 1).toNat (cAr h) (cFc h) (cKn h) (cRd h)) (unV (h 2 0 1).toNat (cAr h) (cFc h) (cKn h) (cRd h))]
    refine AW.lvs [(6, vI 0), (0, vO 10 0), (1, vO 2 0), (2, vL (lsV (h 2 0 1).toNat (cKn h) (cRd h))), (4, vL (lkV (h 2 0 1).toNat (cAr h) (cRd h)))] ⟨rfl, rfl, rfl, rfl, rfl, trivial⟩ ?_
    exact loop _ 0 (by omega) (by omega) rfl
  have join21 : ∀ v : Int, v = (lsV (h 2 0 1).toNat (cKn h) (cRd h)) → AW x w 8 false 0 0 (AQ x w false 0 0 (RetP none (fun h' => h' = LK h (h 2 0 1).toNat (kdV (h 2 0 1).toNat (cAr h) (cFc h) (cKn h) (cRd h)) (unV (h 2 0 1).toNat (cAr h) (cFc h) (cKn h) (cRd h)) (ruV (h 2 0 1).toNat (cFc h) (cRd h)) (raV (h 2 0 1).toNat (cAr h) (cRd h)) (puV (h 2 0 1).toNat (cFc h) (cKn h) (cRd h)) (plV (h 2 0 1).toNat (cKn h) (cRd h)) (scV (h 2 0 1).toNat (cAr h) (cKn h) (cRd h)) (sumF (h 2 0 1).toNat (unV (h 2 0 1).toNat (cAr h) (cFc h) (cKn h) (cRd h)))))) 21 [(0, vO 10 0), (1, vO 2 0)] [vL v] (MS h (ruV (h 2 0 1).toNat (cFc h) (cRd h)) (raV (h 2 0 1).toNat (cAr h) (cRd h)) (puV (h 2 0 1).toNat (cFc h) (cKn h) (cRd h)) (plV (h 2 0 1).toNat (cKn h) (cRd h))) := by
    intro v hv
    subst hv
    refine r_lstore_n (i0 := 2) C d_M_look_21 rfl (by decide) ?_
    refine r_aload_n (i0 := 0) C d_M_look_22 rfl rfl ?_
    refine r_getI C fl_M_30 d_M_look_23 rfl ?_
    rw [MS_g5]
    refine r_if_le (tgt := 37) C d_M_look_26 (by decide) (fun q26 => ?_) (fun q26 => ?_)
    · refine r_lconst C 1 d_M_look_37 (by decide) (by decide) ?_
      exact join38 _ (by unfold lkV or1; first | (rw [if_pos (by omega)]; done) | (rw [if_neg (by omega)]; done))
    · refine r_aload_n (i0 := 0) C d_M_look_29 rfl rfl ?_
      refine r_getI C fl_M_30 d_M_look_30 rfl ?_
      rw [MS_g5]
      refine r_i2l C d_M_look_33 ?_
      refine r_goto (tgt := 38) C d_M_look_34 (by decide) ?_
      exact join38 _ (by unfold lkV or1; first | (rw [if_pos (by omega)]; done) | (rw [if_neg (by omega)]; done))
  refine r_aload_n (i0 := 0) C d_M_look_0 rfl rfl ?_
  refine r_aload_n (i0 := 1) C d_M_look_1 rfl rfl ?_
  refine r_callVw C cl_M_39 im_M_sumRead rfl rfl (c_M_sumRead hx hc hF) rfl rfl d_M_look_2 (by decide) (by decide) (Nat.le_of_ble_eq_true rfl) (fun h2 p2 => ?_)
  subst p2
  change AW x w 8 false 0 0 _ _ _ _ (MS h (ruV (h 2 0 1).toNat (cFc h) (cRd h)) (raV (h 2 0 1).toNat (cAr h) (cRd h)) (puV (h 2 0 1).toNat (cFc h) (cKn h) (cRd h)) (plV (h 2 0 1).toNat (cKn h) (cRd h)))
  refine r_aload_n (i0 := 0) C d_M_look_5 rfl rfl ?_
  refine r_getI C fl_M_36 d_M_look_6 rfl ?_
  rw [MS_g7]
  refine r_if_le (tgt := 20) C d_M_look_9 (by decide) (fun q9 => ?_) (fun q9 => ?_)
  · refine r_lconst C 1 d_M_look_20 (by decide) (by decide) ?_
    exact join21 _ (by unfold lsV or1; first | (rw [if_pos (by omega)]; done) | (rw [if_neg (by omega)]; done))
  · refine r_aload_n (i0 := 0) C d_M_look_12 rfl rfl ?_
    refine r_getI C fl_M_36 d_M_look_13 rfl ?_
    rw [MS_g7]
    refine r_i2l C d_M_look_16 ?_
    refine r_goto (tgt := 21) C d_M_look_17 (by decide) ?_
    exact join21 _ (by unfold lsV or1; first | (rw [if_pos (by omega)]; done) | (rw [if_neg (by omega)]; done))
end
