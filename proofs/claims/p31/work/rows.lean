section
-- ===== PART A: goes FIRST, ahead of the names: the tables' words, and 'selects' of the private methods out of them =====
/-- a private method of a class that the tables say can be made, by its rows of tables_1 -/
def lw_okq (q : MethodName × Nat) : Prop := (q.1.cls ≠ "java/lang/invoke/MethodHandle" ∧ q.1.cls ≠ "java/lang/invoke/VarHandle") ∧ Cond.instantiable q.1.cls q.2 ∈ tables_1 ∧ Cond.privateMethod q.1 ∈ tables_1 ∧ Cond.instanceMethod q.1 ∈ tables_1
theorem lw_p0 : lw_okq (⟨"SkyFees", "finding", "(I)I"⟩, 16) := ⟨⟨by decide +kernel, by decide +kernel⟩, List.mem_of_getElem? (i := 22) (by decide +kernel), List.mem_of_getElem? (i := 441) (by decide +kernel), List.mem_of_getElem? (i := 442) (by decide +kernel)⟩
theorem lw_p1 : lw_okq (⟨"SkyFees$Court", "dayOf", "(I)I"⟩, 6) := ⟨⟨by decide +kernel, by decide +kernel⟩, List.mem_of_getElem? (i := 263) (by decide +kernel), List.mem_of_getElem? (i := 544) (by decide +kernel), List.mem_of_getElem? (i := 545) (by decide +kernel)⟩
theorem lw_p2 : lw_okq (⟨"SkyFees$Court", "allMiles", "(I)I"⟩, 6) := ⟨⟨by decide +kernel, by decide +kernel⟩, List.mem_of_getElem? (i := 263) (by decide +kernel), List.mem_of_getElem? (i := 567) (by decide +kernel), List.mem_of_getElem? (i := 568) (by decide +kernel)⟩
theorem lw_p3 : lw_okq (⟨"SkyFees$Court", "workOut", "(I)I"⟩, 6) := ⟨⟨by decide +kernel, by decide +kernel⟩, List.mem_of_getElem? (i := 263) (by decide +kernel), List.mem_of_getElem? (i := 578) (by decide +kernel), List.mem_of_getElem? (i := 579) (by decide +kernel)⟩
theorem lw_p4 : lw_okq (⟨"SkyFees$Court", "nameAt", "(I)I"⟩, 6) := ⟨⟨by decide +kernel, by decide +kernel⟩, List.mem_of_getElem? (i := 263) (by decide +kernel), List.mem_of_getElem? (i := 582) (by decide +kernel), List.mem_of_getElem? (i := 583) (by decide +kernel)⟩
theorem lw_p5 : lw_okq (⟨"SkyFees$Fleet", "payShares", "(II)I"⟩, 9) := ⟨⟨by decide +kernel, by decide +kernel⟩, List.mem_of_getElem? (i := 90) (by decide +kernel), List.mem_of_getElem? (i := 629) (by decide +kernel), List.mem_of_getElem? (i := 630) (by decide +kernel)⟩
theorem lw_p6 : lw_okq (⟨"SkyFees$Fleet", "payOneMore", "(I)V"⟩, 9) := ⟨⟨by decide +kernel, by decide +kernel⟩, List.mem_of_getElem? (i := 90) (by decide +kernel), List.mem_of_getElem? (i := 633) (by decide +kernel), List.mem_of_getElem? (i := 634) (by decide +kernel)⟩
theorem lw_p7 : lw_okq (⟨"SkyFees$Fleet", "loseDebts", "(ILSkyFees$Sky;)I"⟩, 9) := ⟨⟨by decide +kernel, by decide +kernel⟩, List.mem_of_getElem? (i := 90) (by decide +kernel), List.mem_of_getElem? (i := 638) (by decide +kernel), List.mem_of_getElem? (i := 639) (by decide +kernel)⟩
theorem lw_p8 : lw_okq (⟨"SkyFees$Reader", "readLevel", "(II)V"⟩, 6) := ⟨⟨by decide +kernel, by decide +kernel⟩, List.mem_of_getElem? (i := 236) (by decide +kernel), List.mem_of_getElem? (i := 665) (by decide +kernel), List.mem_of_getElem? (i := 666) (by decide +kernel)⟩
theorem lw_p9 : lw_okq (⟨"SkyFees$Reader", "readSmallest", "(I)V"⟩, 6) := ⟨⟨by decide +kernel, by decide +kernel⟩, List.mem_of_getElem? (i := 236) (by decide +kernel), List.mem_of_getElem? (i := 669) (by decide +kernel), List.mem_of_getElem? (i := 670) (by decide +kernel)⟩
theorem lw_p10 : lw_okq (⟨"SkyFees$Reader", "sign", "()I"⟩, 6) := ⟨⟨by decide +kernel, by decide +kernel⟩, List.mem_of_getElem? (i := 236) (by decide +kernel), List.mem_of_getElem? (i := 673) (by decide +kernel), List.mem_of_getElem? (i := 674) (by decide +kernel)⟩
theorem lw_p11 : lw_okq (⟨"SkyFees$Reader", "readNumber", "()V"⟩, 6) := ⟨⟨by decide +kernel, by decide +kernel⟩, List.mem_of_getElem? (i := 236) (by decide +kernel), List.mem_of_getElem? (i := 683) (by decide +kernel), List.mem_of_getElem? (i := 684) (by decide +kernel)⟩
theorem lw_p12 : lw_okq (⟨"SkyFees$Reader", "emit", "(I)V"⟩, 6) := ⟨⟨by decide +kernel, by decide +kernel⟩, List.mem_of_getElem? (i := 236) (by decide +kernel), List.mem_of_getElem? (i := 687) (by decide +kernel), List.mem_of_getElem? (i := 688) (by decide +kernel)⟩
theorem lw_p13 : lw_okq (⟨"SkyFees$Reader", "readClosing", "()V"⟩, 6) := ⟨⟨by decide +kernel, by decide +kernel⟩, List.mem_of_getElem? (i := 236) (by decide +kernel), List.mem_of_getElem? (i := 691) (by decide +kernel), List.mem_of_getElem? (i := 692) (by decide +kernel)⟩
theorem lw_p14 : lw_okq (⟨"SkyFees$Reader", "noteFault", "()V"⟩, 6) := ⟨⟨by decide +kernel, by decide +kernel⟩, List.mem_of_getElem? (i := 236) (by decide +kernel), List.mem_of_getElem? (i := 695) (by decide +kernel), List.mem_of_getElem? (i := 696) (by decide +kernel)⟩
theorem lw_p15 : lw_okq (⟨"SkyFees$Flights", "keepRow", "(ILSkyFees$Sheets;I)V"⟩, 12) := ⟨⟨by decide +kernel, by decide +kernel⟩, List.mem_of_getElem? (i := 172) (by decide +kernel), List.mem_of_getElem? (i := 747) (by decide +kernel), List.mem_of_getElem? (i := 748) (by decide +kernel)⟩
def lw_privs_1 : List (MethodName × Nat) := [(⟨"SkyFees", "finding", "(I)I"⟩, 16), (⟨"SkyFees$Court", "dayOf", "(I)I"⟩, 6), (⟨"SkyFees$Court", "allMiles", "(I)I"⟩, 6), (⟨"SkyFees$Court", "workOut", "(I)I"⟩, 6), (⟨"SkyFees$Court", "nameAt", "(I)I"⟩, 6), (⟨"SkyFees$Fleet", "payShares", "(II)I"⟩, 9), (⟨"SkyFees$Fleet", "payOneMore", "(I)V"⟩, 9), (⟨"SkyFees$Fleet", "loseDebts", "(ILSkyFees$Sky;)I"⟩, 9), (⟨"SkyFees$Reader", "readLevel", "(II)V"⟩, 6), (⟨"SkyFees$Reader", "readSmallest", "(I)V"⟩, 6), (⟨"SkyFees$Reader", "sign", "()I"⟩, 6), (⟨"SkyFees$Reader", "readNumber", "()V"⟩, 6), (⟨"SkyFees$Reader", "emit", "(I)V"⟩, 6), (⟨"SkyFees$Reader", "readClosing", "()V"⟩, 6), (⟨"SkyFees$Reader", "noteFault", "()V"⟩, 6), (⟨"SkyFees$Flights", "keepRow", "(ILSkyFees$Sheets;I)V"⟩, 12)]
theorem lw_r1 : ∀ q ∈ lw_privs_1, lw_okq q := List.forall_mem_cons.mpr ⟨lw_p0, List.forall_mem_cons.mpr ⟨lw_p1, List.forall_mem_cons.mpr ⟨lw_p2, List.forall_mem_cons.mpr ⟨lw_p3, List.forall_mem_cons.mpr ⟨lw_p4, List.forall_mem_cons.mpr ⟨lw_p5, List.forall_mem_cons.mpr ⟨lw_p6, List.forall_mem_cons.mpr ⟨lw_p7, List.forall_mem_cons.mpr ⟨lw_p8, List.forall_mem_cons.mpr ⟨lw_p9, List.forall_mem_cons.mpr ⟨lw_p10, List.forall_mem_cons.mpr ⟨lw_p11, List.forall_mem_cons.mpr ⟨lw_p12, List.forall_mem_cons.mpr ⟨lw_p13, List.forall_mem_cons.mpr ⟨lw_p14, List.forall_mem_cons.mpr ⟨lw_p15, fun _ h => absurd h List.not_mem_nil⟩⟩⟩⟩⟩⟩⟩⟩⟩⟩⟩⟩⟩⟩⟩⟩
theorem lw_p16 : lw_okq (⟨"SkyFees$Billing", "reach", "(IIJI)Z"⟩, 6) := ⟨⟨by decide +kernel, by decide +kernel⟩, List.mem_of_getElem? (i := 288) (by decide +kernel), List.mem_of_getElem? (i := 800) (by decide +kernel), List.mem_of_getElem? (i := 801) (by decide +kernel)⟩
theorem lw_p17 : lw_okq (⟨"SkyFees", "hasItsAirlineEnded", "(I)Z"⟩, 16) := ⟨⟨by decide +kernel, by decide +kernel⟩, List.mem_of_getElem? (i := 22) (by decide +kernel), List.mem_of_getElem? (i := 814) (by decide +kernel), List.mem_of_getElem? (i := 815) (by decide +kernel)⟩
theorem lw_p18 : lw_okq (⟨"SkyFees$Flights", "areTwins", "(II)Z"⟩, 12) := ⟨⟨by decide +kernel, by decide +kernel⟩, List.mem_of_getElem? (i := 172) (by decide +kernel), List.mem_of_getElem? (i := 842) (by decide +kernel), List.mem_of_getElem? (i := 843) (by decide +kernel)⟩
theorem lw_p19 : lw_okq (⟨"SkyFees$Billing", "feeBy", "(IIZ)I"⟩, 6) := ⟨⟨by decide +kernel, by decide +kernel⟩, List.mem_of_getElem? (i := 288) (by decide +kernel), List.mem_of_getElem? (i := 851) (by decide +kernel), List.mem_of_getElem? (i := 852) (by decide +kernel)⟩
theorem lw_p20 : lw_okq (⟨"SkyFees$Sky", "nextRate", "(I)I"⟩, 10) := ⟨⟨by decide +kernel, by decide +kernel⟩, List.mem_of_getElem? (i := 30) (by decide +kernel), List.mem_of_getElem? (i := 894) (by decide +kernel), List.mem_of_getElem? (i := 895) (by decide +kernel)⟩
theorem lw_p21 : lw_okq (⟨"SkyFees$Routes", "measureAll", "(I)V"⟩, 6) := ⟨⟨by decide +kernel, by decide +kernel⟩, List.mem_of_getElem? (i := 313) (by decide +kernel), List.mem_of_getElem? (i := 920) (by decide +kernel), List.mem_of_getElem? (i := 921) (by decide +kernel)⟩
theorem lw_p22 : lw_okq (⟨"SkyFees$Routes", "measureOne", "(I)Z"⟩, 6) := ⟨⟨by decide +kernel, by decide +kernel⟩, List.mem_of_getElem? (i := 313) (by decide +kernel), List.mem_of_getElem? (i := 925) (by decide +kernel), List.mem_of_getElem? (i := 926) (by decide +kernel)⟩
theorem lw_p23 : lw_okq (⟨"SkyFees$Routes", "farBy", "(II)J"⟩, 6) := ⟨⟨by decide +kernel, by decide +kernel⟩, List.mem_of_getElem? (i := 313) (by decide +kernel), List.mem_of_getElem? (i := 930) (by decide +kernel), List.mem_of_getElem? (i := 931) (by decide +kernel)⟩
theorem lw_p24 : lw_okq (⟨"SkyFees$Routes", "tollAt", "(I)I"⟩, 6) := ⟨⟨by decide +kernel, by decide +kernel⟩, List.mem_of_getElem? (i := 313) (by decide +kernel), List.mem_of_getElem? (i := 934) (by decide +kernel), List.mem_of_getElem? (i := 935) (by decide +kernel)⟩
theorem lw_p25 : lw_okq (⟨"SkyFees$Routes", "walk", "(II)V"⟩, 6) := ⟨⟨by decide +kernel, by decide +kernel⟩, List.mem_of_getElem? (i := 313) (by decide +kernel), List.mem_of_getElem? (i := 941) (by decide +kernel), List.mem_of_getElem? (i := 942) (by decide +kernel)⟩
theorem lw_p26 : lw_okq (⟨"SkyFees$Routes", "firstOnward", "(I)I"⟩, 6) := ⟨⟨by decide +kernel, by decide +kernel⟩, List.mem_of_getElem? (i := 313) (by decide +kernel), List.mem_of_getElem? (i := 945) (by decide +kernel), List.mem_of_getElem? (i := 946) (by decide +kernel)⟩
theorem lw_p27 : lw_okq (⟨"SkyFees$Voices", "say", "(IIII)I"⟩, 5) := ⟨⟨by decide +kernel, by decide +kernel⟩, List.mem_of_getElem? (i := 340) (by decide +kernel), List.mem_of_getElem? (i := 970) (by decide +kernel), List.mem_of_getElem? (i := 971) (by decide +kernel)⟩
theorem lw_p28 : lw_okq (⟨"SkyFees$Voices", "note", "(I)V"⟩, 5) := ⟨⟨by decide +kernel, by decide +kernel⟩, List.mem_of_getElem? (i := 340) (by decide +kernel), List.mem_of_getElem? (i := 982) (by decide +kernel), List.mem_of_getElem? (i := 983) (by decide +kernel)⟩
theorem lw_p29 : lw_okq (⟨"SkyFeesModel", "finding", "(I)I"⟩, 26) := ⟨⟨by decide +kernel, by decide +kernel⟩, List.mem_of_getElem? (i := 1070) (by decide +kernel), List.mem_of_getElem? (i := 1169) (by decide +kernel), List.mem_of_getElem? (i := 1170) (by decide +kernel)⟩
theorem lw_p30 : lw_okq (⟨"SkyFeesModel", "owedTo", "(I)I"⟩, 26) := ⟨⟨by decide +kernel, by decide +kernel⟩, List.mem_of_getElem? (i := 1070) (by decide +kernel), List.mem_of_getElem? (i := 1204) (by decide +kernel), List.mem_of_getElem? (i := 1205) (by decide +kernel)⟩
theorem lw_p31 : lw_okq (⟨"SkyFeesModel", "is", "(II)Z"⟩, 26) := ⟨⟨by decide +kernel, by decide +kernel⟩, List.mem_of_getElem? (i := 1070) (by decide +kernel), List.mem_of_getElem? (i := 1226) (by decide +kernel), List.mem_of_getElem? (i := 1227) (by decide +kernel)⟩
def lw_privs_2 : List (MethodName × Nat) := [(⟨"SkyFees$Billing", "reach", "(IIJI)Z"⟩, 6), (⟨"SkyFees", "hasItsAirlineEnded", "(I)Z"⟩, 16), (⟨"SkyFees$Flights", "areTwins", "(II)Z"⟩, 12), (⟨"SkyFees$Billing", "feeBy", "(IIZ)I"⟩, 6), (⟨"SkyFees$Sky", "nextRate", "(I)I"⟩, 10), (⟨"SkyFees$Routes", "measureAll", "(I)V"⟩, 6), (⟨"SkyFees$Routes", "measureOne", "(I)Z"⟩, 6), (⟨"SkyFees$Routes", "farBy", "(II)J"⟩, 6), (⟨"SkyFees$Routes", "tollAt", "(I)I"⟩, 6), (⟨"SkyFees$Routes", "walk", "(II)V"⟩, 6), (⟨"SkyFees$Routes", "firstOnward", "(I)I"⟩, 6), (⟨"SkyFees$Voices", "say", "(IIII)I"⟩, 5), (⟨"SkyFees$Voices", "note", "(I)V"⟩, 5), (⟨"SkyFeesModel", "finding", "(I)I"⟩, 26), (⟨"SkyFeesModel", "owedTo", "(I)I"⟩, 26), (⟨"SkyFeesModel", "is", "(II)Z"⟩, 26)]
theorem lw_r2 : ∀ q ∈ lw_privs_2, lw_okq q := List.forall_mem_cons.mpr ⟨lw_p16, List.forall_mem_cons.mpr ⟨lw_p17, List.forall_mem_cons.mpr ⟨lw_p18, List.forall_mem_cons.mpr ⟨lw_p19, List.forall_mem_cons.mpr ⟨lw_p20, List.forall_mem_cons.mpr ⟨lw_p21, List.forall_mem_cons.mpr ⟨lw_p22, List.forall_mem_cons.mpr ⟨lw_p23, List.forall_mem_cons.mpr ⟨lw_p24, List.forall_mem_cons.mpr ⟨lw_p25, List.forall_mem_cons.mpr ⟨lw_p26, List.forall_mem_cons.mpr ⟨lw_p27, List.forall_mem_cons.mpr ⟨lw_p28, List.forall_mem_cons.mpr ⟨lw_p29, List.forall_mem_cons.mpr ⟨lw_p30, List.forall_mem_cons.mpr ⟨lw_p31, fun _ h => absurd h List.not_mem_nil⟩⟩⟩⟩⟩⟩⟩⟩⟩⟩⟩⟩⟩⟩⟩⟩
theorem lw_p32 : lw_okq (⟨"SkyFeesModel", "plane", "(II)I"⟩, 26) := ⟨⟨by decide +kernel, by decide +kernel⟩, List.mem_of_getElem? (i := 1070) (by decide +kernel), List.mem_of_getElem? (i := 1235) (by decide +kernel), List.mem_of_getElem? (i := 1236) (by decide +kernel)⟩
theorem lw_p33 : lw_okq (⟨"SkyFeesModel", "factor", "(III)I"⟩, 26) := ⟨⟨by decide +kernel, by decide +kernel⟩, List.mem_of_getElem? (i := 1070) (by decide +kernel), List.mem_of_getElem? (i := 1246) (by decide +kernel), List.mem_of_getElem? (i := 1247) (by decide +kernel)⟩
theorem lw_p34 : lw_okq (⟨"SkyFeesModel", "dayOf", "(I)I"⟩, 26) := ⟨⟨by decide +kernel, by decide +kernel⟩, List.mem_of_getElem? (i := 1070) (by decide +kernel), List.mem_of_getElem? (i := 1250) (by decide +kernel), List.mem_of_getElem? (i := 1251) (by decide +kernel)⟩
theorem lw_p35 : lw_okq (⟨"SkyFeesModel", "forced", "(II)I"⟩, 26) := ⟨⟨by decide +kernel, by decide +kernel⟩, List.mem_of_getElem? (i := 1070) (by decide +kernel), List.mem_of_getElem? (i := 1257) (by decide +kernel), List.mem_of_getElem? (i := 1258) (by decide +kernel)⟩
theorem lw_p36 : lw_okq (⟨"SkyFeesModel", "ruled", "(IIII)I"⟩, 26) := ⟨⟨by decide +kernel, by decide +kernel⟩, List.mem_of_getElem? (i := 1070) (by decide +kernel), List.mem_of_getElem? (i := 1261) (by decide +kernel), List.mem_of_getElem? (i := 1262) (by decide +kernel)⟩
theorem lw_p37 : lw_okq (⟨"SkyFeesModel", "worked", "(IIII)I"⟩, 26) := ⟨⟨by decide +kernel, by decide +kernel⟩, List.mem_of_getElem? (i := 1070) (by decide +kernel), List.mem_of_getElem? (i := 1265) (by decide +kernel), List.mem_of_getElem? (i := 1266) (by decide +kernel)⟩
theorem lw_p38 : lw_okq (⟨"SkyFeesModel", "named", "(IIII)I"⟩, 26) := ⟨⟨by decide +kernel, by decide +kernel⟩, List.mem_of_getElem? (i := 1070) (by decide +kernel), List.mem_of_getElem? (i := 1269) (by decide +kernel), List.mem_of_getElem? (i := 1270) (by decide +kernel)⟩
theorem lw_p39 : lw_okq (⟨"SkyFeesModel", "allMiles", "(I)I"⟩, 26) := ⟨⟨by decide +kernel, by decide +kernel⟩, List.mem_of_getElem? (i := 1070) (by decide +kernel), List.mem_of_getElem? (i := 1273) (by decide +kernel), List.mem_of_getElem? (i := 1274) (by decide +kernel)⟩
theorem lw_p40 : lw_okq (⟨"SkyFeesModel", "owesAll", "(I)I"⟩, 26) := ⟨⟨by decide +kernel, by decide +kernel⟩, List.mem_of_getElem? (i := 1070) (by decide +kernel), List.mem_of_getElem? (i := 1295) (by decide +kernel), List.mem_of_getElem? (i := 1296) (by decide +kernel)⟩
theorem lw_p41 : lw_okq (⟨"SkyFeesModel", "either", "()V"⟩, 26) := ⟨⟨by decide +kernel, by decide +kernel⟩, List.mem_of_getElem? (i := 1070) (by decide +kernel), List.mem_of_getElem? (i := 1319) (by decide +kernel), List.mem_of_getElem? (i := 1320) (by decide +kernel)⟩
theorem lw_p42 : lw_okq (⟨"SkyFeesModel", "both", "()V"⟩, 26) := ⟨⟨by decide +kernel, by decide +kernel⟩, List.mem_of_getElem? (i := 1070) (by decide +kernel), List.mem_of_getElem? (i := 1323) (by decide +kernel), List.mem_of_getElem? (i := 1324) (by decide +kernel)⟩
theorem lw_p43 : lw_okq (⟨"SkyFeesModel", "test", "()V"⟩, 26) := ⟨⟨by decide +kernel, by decide +kernel⟩, List.mem_of_getElem? (i := 1070) (by decide +kernel), List.mem_of_getElem? (i := 1327) (by decide +kernel), List.mem_of_getElem? (i := 1328) (by decide +kernel)⟩
theorem lw_p44 : lw_okq (⟨"SkyFeesModel", "sum", "()V"⟩, 26) := ⟨⟨by decide +kernel, by decide +kernel⟩, List.mem_of_getElem? (i := 1070) (by decide +kernel), List.mem_of_getElem? (i := 1331) (by decide +kernel), List.mem_of_getElem? (i := 1332) (by decide +kernel)⟩
theorem lw_p45 : lw_okq (⟨"SkyFeesModel", "product", "()V"⟩, 26) := ⟨⟨by decide +kernel, by decide +kernel⟩, List.mem_of_getElem? (i := 1070) (by decide +kernel), List.mem_of_getElem? (i := 1335) (by decide +kernel), List.mem_of_getElem? (i := 1336) (by decide +kernel)⟩
theorem lw_p46 : lw_okq (⟨"SkyFeesModel", "part", "()V"⟩, 26) := ⟨⟨by decide +kernel, by decide +kernel⟩, List.mem_of_getElem? (i := 1070) (by decide +kernel), List.mem_of_getElem? (i := 1339) (by decide +kernel), List.mem_of_getElem? (i := 1340) (by decide +kernel)⟩
theorem lw_p47 : lw_okq (⟨"SkyFeesModel", "here", "()I"⟩, 26) := ⟨⟨by decide +kernel, by decide +kernel⟩, List.mem_of_getElem? (i := 1070) (by decide +kernel), List.mem_of_getElem? (i := 1343) (by decide +kernel), List.mem_of_getElem? (i := 1344) (by decide +kernel)⟩
def lw_privs_3 : List (MethodName × Nat) := [(⟨"SkyFeesModel", "plane", "(II)I"⟩, 26), (⟨"SkyFeesModel", "factor", "(III)I"⟩, 26), (⟨"SkyFeesModel", "dayOf", "(I)I"⟩, 26), (⟨"SkyFeesModel", "forced", "(II)I"⟩, 26), (⟨"SkyFeesModel", "ruled", "(IIII)I"⟩, 26), (⟨"SkyFeesModel", "worked", "(IIII)I"⟩, 26), (⟨"SkyFeesModel", "named", "(IIII)I"⟩, 26), (⟨"SkyFeesModel", "allMiles", "(I)I"⟩, 26), (⟨"SkyFeesModel", "owesAll", "(I)I"⟩, 26), (⟨"SkyFeesModel", "either", "()V"⟩, 26), (⟨"SkyFeesModel", "both", "()V"⟩, 26), (⟨"SkyFeesModel", "test", "()V"⟩, 26), (⟨"SkyFeesModel", "sum", "()V"⟩, 26), (⟨"SkyFeesModel", "product", "()V"⟩, 26), (⟨"SkyFeesModel", "part", "()V"⟩, 26), (⟨"SkyFeesModel", "here", "()I"⟩, 26)]
theorem lw_r3 : ∀ q ∈ lw_privs_3, lw_okq q := List.forall_mem_cons.mpr ⟨lw_p32, List.forall_mem_cons.mpr ⟨lw_p33, List.forall_mem_cons.mpr ⟨lw_p34, List.forall_mem_cons.mpr ⟨lw_p35, List.forall_mem_cons.mpr ⟨lw_p36, List.forall_mem_cons.mpr ⟨lw_p37, List.forall_mem_cons.mpr ⟨lw_p38, List.forall_mem_cons.mpr ⟨lw_p39, List.forall_mem_cons.mpr ⟨lw_p40, List.forall_mem_cons.mpr ⟨lw_p41, List.forall_mem_cons.mpr ⟨lw_p42, List.forall_mem_cons.mpr ⟨lw_p43, List.forall_mem_cons.mpr ⟨lw_p44, List.forall_mem_cons.mpr ⟨lw_p45, List.forall_mem_cons.mpr ⟨lw_p46, List.forall_mem_cons.mpr ⟨lw_p47, fun _ h => absurd h List.not_mem_nil⟩⟩⟩⟩⟩⟩⟩⟩⟩⟩⟩⟩⟩⟩⟩⟩
theorem lw_p48 : lw_okq (⟨"SkyFeesModel", "opens", "()Z"⟩, 26) := ⟨⟨by decide +kernel, by decide +kernel⟩, List.mem_of_getElem? (i := 1070) (by decide +kernel), List.mem_of_getElem? (i := 1347) (by decide +kernel), List.mem_of_getElem? (i := 1348) (by decide +kernel)⟩
theorem lw_p49 : lw_okq (⟨"SkyFeesModel", "put", "(I)V"⟩, 26) := ⟨⟨by decide +kernel, by decide +kernel⟩, List.mem_of_getElem? (i := 1070) (by decide +kernel), List.mem_of_getElem? (i := 1351) (by decide +kernel), List.mem_of_getElem? (i := 1352) (by decide +kernel)⟩
theorem lw_p50 : lw_okq (⟨"SkyFeesModel", "isRow", "(II)Z"⟩, 26) := ⟨⟨by decide +kernel, by decide +kernel⟩, List.mem_of_getElem? (i := 1070) (by decide +kernel), List.mem_of_getElem? (i := 1452) (by decide +kernel), List.mem_of_getElem? (i := 1453) (by decide +kernel)⟩
theorem lw_p51 : lw_okq (⟨"SkyFeesModel", "gone", "([IIIII)I"⟩, 26) := ⟨⟨by decide +kernel, by decide +kernel⟩, List.mem_of_getElem? (i := 1070) (by decide +kernel), List.mem_of_getElem? (i := 1456) (by decide +kernel), List.mem_of_getElem? (i := 1457) (by decide +kernel)⟩
theorem lw_p52 : lw_okq (⟨"SkyFeesModel", "isBilled", "(I)Z"⟩, 26) := ⟨⟨by decide +kernel, by decide +kernel⟩, List.mem_of_getElem? (i := 1070) (by decide +kernel), List.mem_of_getElem? (i := 1475) (by decide +kernel), List.mem_of_getElem? (i := 1476) (by decide +kernel)⟩
theorem lw_p53 : lw_okq (⟨"SkyFeesModel", "feesOf", "(I)I"⟩, 26) := ⟨⟨by decide +kernel, by decide +kernel⟩, List.mem_of_getElem? (i := 1070) (by decide +kernel), List.mem_of_getElem? (i := 1479) (by decide +kernel), List.mem_of_getElem? (i := 1480) (by decide +kernel)⟩
theorem lw_p54 : lw_okq (⟨"SkyFeesModel", "rowOf", "(II)I"⟩, 26) := ⟨⟨by decide +kernel, by decide +kernel⟩, List.mem_of_getElem? (i := 1070) (by decide +kernel), List.mem_of_getElem? (i := 1487) (by decide +kernel), List.mem_of_getElem? (i := 1488) (by decide +kernel)⟩
theorem lw_p55 : lw_okq (⟨"SkyFeesModel", "knownOn", "(II)I"⟩, 26) := ⟨⟨by decide +kernel, by decide +kernel⟩, List.mem_of_getElem? (i := 1070) (by decide +kernel), List.mem_of_getElem? (i := 1491) (by decide +kernel), List.mem_of_getElem? (i := 1492) (by decide +kernel)⟩
theorem lw_p56 : lw_okq (⟨"SkyFeesModel", "milesOf", "(IIII)I"⟩, 26) := ⟨⟨by decide +kernel, by decide +kernel⟩, List.mem_of_getElem? (i := 1070) (by decide +kernel), List.mem_of_getElem? (i := 1500) (by decide +kernel), List.mem_of_getElem? (i := 1501) (by decide +kernel)⟩
theorem lw_p57 : lw_okq (⟨"SkyFeesModel", "airlineOf", "(I)I"⟩, 26) := ⟨⟨by decide +kernel, by decide +kernel⟩, List.mem_of_getElem? (i := 1070) (by decide +kernel), List.mem_of_getElem? (i := 1508) (by decide +kernel), List.mem_of_getElem? (i := 1509) (by decide +kernel)⟩
theorem lw_p58 : lw_okq (⟨"SkyFeesModel", "findFees", "(IZI)Z"⟩, 26) := ⟨⟨by decide +kernel, by decide +kernel⟩, List.mem_of_getElem? (i := 1070) (by decide +kernel), List.mem_of_getElem? (i := 1512) (by decide +kernel), List.mem_of_getElem? (i := 1513) (by decide +kernel)⟩
theorem lw_p59 : lw_okq (⟨"SkyFeesModel", "isSame", "(II)Z"⟩, 26) := ⟨⟨by decide +kernel, by decide +kernel⟩, List.mem_of_getElem? (i := 1070) (by decide +kernel), List.mem_of_getElem? (i := 1517) (by decide +kernel), List.mem_of_getElem? (i := 1518) (by decide +kernel)⟩
theorem lw_p60 : lw_okq (⟨"SkyFeesModel", "yearEnds", "()V"⟩, 26) := ⟨⟨by decide +kernel, by decide +kernel⟩, List.mem_of_getElem? (i := 1070) (by decide +kernel), List.mem_of_getElem? (i := 1538) (by decide +kernel), List.mem_of_getElem? (i := 1539) (by decide +kernel)⟩
theorem lw_p61 : lw_okq (⟨"SkyFeesModel", "findWay", "(III)I"⟩, 26) := ⟨⟨by decide +kernel, by decide +kernel⟩, List.mem_of_getElem? (i := 1070) (by decide +kernel), List.mem_of_getElem? (i := 1552) (by decide +kernel), List.mem_of_getElem? (i := 1553) (by decide +kernel)⟩
theorem lw_p62 : lw_okq (⟨"SkyFeesModel", "voiced", "(II)I"⟩, 26) := ⟨⟨by decide +kernel, by decide +kernel⟩, List.mem_of_getElem? (i := 1070) (by decide +kernel), List.mem_of_getElem? (i := 1565) (by decide +kernel), List.mem_of_getElem? (i := 1566) (by decide +kernel)⟩
theorem lw_p63 : lw_okq (⟨"SkyFeesModel", "bodyFrom", "(III)I"⟩, 26) := ⟨⟨by decide +kernel, by decide +kernel⟩, List.mem_of_getElem? (i := 1070) (by decide +kernel), List.mem_of_getElem? (i := 1569) (by decide +kernel), List.mem_of_getElem? (i := 1570) (by decide +kernel)⟩
def lw_privs_4 : List (MethodName × Nat) := [(⟨"SkyFeesModel", "opens", "()Z"⟩, 26), (⟨"SkyFeesModel", "put", "(I)V"⟩, 26), (⟨"SkyFeesModel", "isRow", "(II)Z"⟩, 26), (⟨"SkyFeesModel", "gone", "([IIIII)I"⟩, 26), (⟨"SkyFeesModel", "isBilled", "(I)Z"⟩, 26), (⟨"SkyFeesModel", "feesOf", "(I)I"⟩, 26), (⟨"SkyFeesModel", "rowOf", "(II)I"⟩, 26), (⟨"SkyFeesModel", "knownOn", "(II)I"⟩, 26), (⟨"SkyFeesModel", "milesOf", "(IIII)I"⟩, 26), (⟨"SkyFeesModel", "airlineOf", "(I)I"⟩, 26), (⟨"SkyFeesModel", "findFees", "(IZI)Z"⟩, 26), (⟨"SkyFeesModel", "isSame", "(II)Z"⟩, 26), (⟨"SkyFeesModel", "yearEnds", "()V"⟩, 26), (⟨"SkyFeesModel", "findWay", "(III)I"⟩, 26), (⟨"SkyFeesModel", "voiced", "(II)I"⟩, 26), (⟨"SkyFeesModel", "bodyFrom", "(III)I"⟩, 26)]
theorem lw_r4 : ∀ q ∈ lw_privs_4, lw_okq q := List.forall_mem_cons.mpr ⟨lw_p48, List.forall_mem_cons.mpr ⟨lw_p49, List.forall_mem_cons.mpr ⟨lw_p50, List.forall_mem_cons.mpr ⟨lw_p51, List.forall_mem_cons.mpr ⟨lw_p52, List.forall_mem_cons.mpr ⟨lw_p53, List.forall_mem_cons.mpr ⟨lw_p54, List.forall_mem_cons.mpr ⟨lw_p55, List.forall_mem_cons.mpr ⟨lw_p56, List.forall_mem_cons.mpr ⟨lw_p57, List.forall_mem_cons.mpr ⟨lw_p58, List.forall_mem_cons.mpr ⟨lw_p59, List.forall_mem_cons.mpr ⟨lw_p60, List.forall_mem_cons.mpr ⟨lw_p61, List.forall_mem_cons.mpr ⟨lw_p62, List.forall_mem_cons.mpr ⟨lw_p63, fun _ h => absurd h List.not_mem_nil⟩⟩⟩⟩⟩⟩⟩⟩⟩⟩⟩⟩⟩⟩⟩⟩
theorem lw_p64 : lw_okq (⟨"SkyFeesModel", "body", "(III)I"⟩, 26) := ⟨⟨by decide +kernel, by decide +kernel⟩, List.mem_of_getElem? (i := 1070) (by decide +kernel), List.mem_of_getElem? (i := 1576) (by decide +kernel), List.mem_of_getElem? (i := 1577) (by decide +kernel)⟩
theorem lw_p65 : lw_okq (⟨"SkyFeesModel", "began", "(I)V"⟩, 26) := ⟨⟨by decide +kernel, by decide +kernel⟩, List.mem_of_getElem? (i := 1070) (by decide +kernel), List.mem_of_getElem? (i := 1580) (by decide +kernel), List.mem_of_getElem? (i := 1581) (by decide +kernel)⟩
def lw_privs_5 : List (MethodName × Nat) := [(⟨"SkyFeesModel", "body", "(III)I"⟩, 26), (⟨"SkyFeesModel", "began", "(I)V"⟩, 26)]
theorem lw_r5 : ∀ q ∈ lw_privs_5, lw_okq q := List.forall_mem_cons.mpr ⟨lw_p64, List.forall_mem_cons.mpr ⟨lw_p65, fun _ h => absurd h List.not_mem_nil⟩⟩
def lw_privs : List (MethodName × Nat) := lw_privs_1 ++ (lw_privs_2 ++ (lw_privs_3 ++ (lw_privs_4 ++ (lw_privs_5))))
def lw_tbl : List Cond := k2_sels lw_privs ++ tables_1
theorem lw_privs_ok : ∀ q ∈ lw_privs, lw_okq q := by
  show ∀ q ∈ lw_privs_1 ++ (lw_privs_2 ++ (lw_privs_3 ++ (lw_privs_4 ++ (lw_privs_5)))), lw_okq q
  exact List.forall_mem_append.mpr ⟨lw_r1, List.forall_mem_append.mpr ⟨lw_r2, List.forall_mem_append.mpr ⟨lw_r3, List.forall_mem_append.mpr ⟨lw_r4, lw_r5⟩⟩⟩⟩
end
section
def RX0 : String := "SkyFees$Billing"
def TX0 : u_T := fun k => match k with
  | 0 => ("SkyFees$Billing", "sky", "LSkyFees$Sky;", true)
  | 1 => ("SkyFees$Billing", "fleet", "LSkyFees$Fleet;", true)
  | 2 => ("SkyFees$Billing", "flights", "LSkyFees$Flights;", true)
  | 3 => ("SkyFees$Billing", "court", "LSkyFees$Court;", true)
  | 4 => ("SkyFees$Billing", "least", "[I", true)
  | _ => ("SkyFees$Billing", "most", "[I", true)
def tyX0 : Nat → FieldType := fun k => match k with
  | 0 => .object "SkyFees$Sky"
  | 1 => .object "SkyFees$Fleet"
  | 2 => .object "SkyFees$Flights"
  | 3 => .object "SkyFees$Court"
  | 4 => .array .int
  | _ => .array .int
theorem nmX0 : ∀ a, a < 6 → ∀ b, b < 6 → a ≠ b → (TX0 a).2.1 ≠ (TX0 b).2.1 := by decide +kernel
theorem tyX0_ok : ∀ k, k < 6 → parseFieldDescriptor (TX0 k).2.2.1 = some (tyX0 k) := by decide +kernel
def RX1 : String := "SkyFees$Court"
def TX1 : u_T := fun k => match k with
  | 0 => ("SkyFees$Court", "sky", "LSkyFees$Sky;", true)
  | 1 => ("SkyFees$Court", "fleet", "LSkyFees$Fleet;", true)
  | 2 => ("SkyFees$Court", "treaty", "LSkyFees$Treaty;", true)
  | 3 => ("SkyFees$Court", "flights", "LSkyFees$Flights;", true)
  | 4 => ("SkyFees$Court", "names", "[I", true)
  | _ => ("SkyFees$Court", "stack", "[I", true)
def tyX1 : Nat → FieldType := fun k => match k with
  | 0 => .object "SkyFees$Sky"
  | 1 => .object "SkyFees$Fleet"
  | 2 => .object "SkyFees$Treaty"
  | 3 => .object "SkyFees$Flights"
  | 4 => .array .int
  | _ => .array .int
theorem nmX1 : ∀ a, a < 6 → ∀ b, b < 6 → a ≠ b → (TX1 a).2.1 ≠ (TX1 b).2.1 := by decide +kernel
theorem tyX1_ok : ∀ k, k < 6 → parseFieldDescriptor (TX1 k).2.2.1 = some (tyX1 k) := by decide +kernel
def RX2 : String := "SkyFees$Fleet"
def TX2 : u_T := fun k => match k with
  | 0 => ("SkyFees$Fleet", "airlines", "I", false)
  | 1 => ("SkyFees$Fleet", "purse", "[I", true)
  | 2 => ("SkyFees$Fleet", "ended", "[Z", true)
  | 3 => ("SkyFees$Fleet", "debt", "[I", true)
  | 4 => ("SkyFees$Fleet", "planes", "I", false)
  | 5 => ("SkyFees$Fleet", "kind", "[I", true)
  | 6 => ("SkyFees$Fleet", "line", "[I", true)
  | 7 => ("SkyFees$Fleet", "weight", "[I", true)
  | _ => ("SkyFees$Fleet", "remainder", "[J", true)
def tyX2 : Nat → FieldType := fun k => match k with
  | 0 => .int
  | 1 => .array .int
  | 2 => .array .boolean
  | 3 => .array .int
  | 4 => .int
  | 5 => .array .int
  | 6 => .array .int
  | 7 => .array .int
  | _ => .array .long
theorem nmX2 : ∀ a, a < 9 → ∀ b, b < 9 → a ≠ b → (TX2 a).2.1 ≠ (TX2 b).2.1 := by decide +kernel
theorem tyX2_ok : ∀ k, k < 9 → parseFieldDescriptor (TX2 k).2.2.1 = some (tyX2 k) := by decide +kernel
def RX3 : String := "SkyFees$Flights"
def TX3 : u_T := fun k => match k with
  | 0 => ("SkyFees$Flights", "count", "I", false)
  | 1 => ("SkyFees$Flights", "plane", "[I", true)
  | 2 => ("SkyFees$Flights", "day", "[I", true)
  | 3 => ("SkyFees$Flights", "billedOn", "[I", true)
  | 4 => ("SkyFees$Flights", "doubled", "[Z", true)
  | 5 => ("SkyFees$Flights", "fees", "[I", true)
  | 6 => ("SkyFees$Flights", "rates", "[I", true)
  | 7 => ("SkyFees$Flights", "told", "I", false)
  | 8 => ("SkyFees$Flights", "toldFlight", "[I", true)
  | 9 => ("SkyFees$Flights", "toldDay", "[I", true)
  | 10 => ("SkyFees$Flights", "size", "[I", true)
  | _ => ("SkyFees$Flights", "numbers", "[I", true)
def tyX3 : Nat → FieldType := fun k => match k with
  | 0 => .int
  | 1 => .array .int
  | 2 => .array .int
  | 3 => .array .int
  | 4 => .array .boolean
  | 5 => .array .int
  | 6 => .array .int
  | 7 => .int
  | 8 => .array .int
  | 9 => .array .int
  | 10 => .array .int
  | _ => .array .int
theorem nmX3 : ∀ a, a < 12 → ∀ b, b < 12 → a ≠ b → (TX3 a).2.1 ≠ (TX3 b).2.1 := by decide +kernel
theorem tyX3_ok : ∀ k, k < 12 → parseFieldDescriptor (TX3 k).2.2.1 = some (tyX3 k) := by decide +kernel
def RX4 : String := "SkyFees$Reader"
def TX4 : u_T := fun k => match k with
  | 0 => ("SkyFees$Reader", "code", "[I", true)
  | 1 => ("SkyFees$Reader", "size", "I", false)
  | 2 => ("SkyFees$Reader", "text", "[B", false)
  | 3 => ("SkyFees$Reader", "bytes", "I", false)
  | 4 => ("SkyFees$Reader", "place", "I", false)
  | _ => ("SkyFees$Reader", "fault", "I", false)
def tyX4 : Nat → FieldType := fun k => match k with
  | 0 => .array .int
  | 1 => .int
  | 2 => .array .byte
  | 3 => .int
  | 4 => .int
  | _ => .int
theorem nmX4 : ∀ a, a < 6 → ∀ b, b < 6 → a ≠ b → (TX4 a).2.1 ≠ (TX4 b).2.1 := by decide +kernel
theorem tyX4_ok : ∀ k, k < 6 → parseFieldDescriptor (TX4 k).2.2.1 = some (tyX4 k) := by decide +kernel
def RX5 : String := "SkyFees$Routes"
def TX5 : u_T := fun k => match k with
  | 0 => ("SkyFees$Routes", "way", "[I", true)
  | 1 => ("SkyFees$Routes", "steps", "I", false)
  | 2 => ("SkyFees$Routes", "sky", "LSkyFees$Sky;", true)
  | 3 => ("SkyFees$Routes", "court", "LSkyFees$Court;", true)
  | 4 => ("SkyFees$Routes", "toll", "[I", true)
  | _ => ("SkyFees$Routes", "far", "[J", true)
def tyX5 : Nat → FieldType := fun k => match k with
  | 0 => .array .int
  | 1 => .int
  | 2 => .object "SkyFees$Sky"
  | 3 => .object "SkyFees$Court"
  | 4 => .array .int
  | _ => .array .long
theorem nmX5 : ∀ a, a < 6 → ∀ b, b < 6 → a ≠ b → (TX5 a).2.1 ≠ (TX5 b).2.1 := by decide +kernel
theorem tyX5_ok : ∀ k, k < 6 → parseFieldDescriptor (TX5 k).2.2.1 = some (tyX5 k) := by decide +kernel
def RX6 : String := "SkyFees$Sheets"
def TX6 : u_T := fun k => match k with
  | 0 => ("SkyFees$Sheets", "bits", "[I", true)
  | 1 => ("SkyFees$Sheets", "numbers", "[I", true)
  | _ => ("SkyFees$Sheets", "size", "[I", true)
def tyX6 : Nat → FieldType := fun k => match k with
  | 0 => .array .int
  | 1 => .array .int
  | _ => .array .int
theorem nmX6 : ∀ a, a < 3 → ∀ b, b < 3 → a ≠ b → (TX6 a).2.1 ≠ (TX6 b).2.1 := by decide +kernel
theorem tyX6_ok : ∀ k, k < 3 → parseFieldDescriptor (TX6 k).2.2.1 = some (tyX6 k) := by decide +kernel
def RX7 : String := "SkyFees$Sky"
def TX7 : u_T := fun k => match k with
  | 0 => ("SkyFees$Sky", "owner", "[I", true)
  | 1 => ("SkyFees$Sky", "shut", "[Z", true)
  | 2 => ("SkyFees$Sky", "cost", "[I", true)
  | 3 => ("SkyFees$Sky", "foretold", "[I", true)
  | 4 => ("SkyFees$Sky", "rate", "[I", true)
  | 5 => ("SkyFees$Sky", "income", "[I", true)
  | 6 => ("SkyFees$Sky", "rest", "[I", true)
  | 7 => ("SkyFees$Sky", "lost", "[I", true)
  | 8 => ("SkyFees$Sky", "day", "I", false)
  | _ => ("SkyFees$Sky", "fuelPrice", "I", false)
def tyX7 : Nat → FieldType := fun k => match k with
  | 0 => .array .int
  | 1 => .array .boolean
  | 2 => .array .int
  | 3 => .array .int
  | 4 => .array .int
  | 5 => .array .int
  | 6 => .array .int
  | 7 => .array .int
  | 8 => .int
  | _ => .int
theorem nmX7 : ∀ a, a < 10 → ∀ b, b < 10 → a ≠ b → (TX7 a).2.1 ≠ (TX7 b).2.1 := by decide +kernel
theorem tyX7_ok : ∀ k, k < 10 → parseFieldDescriptor (TX7 k).2.2.1 = some (tyX7 k) := by decide +kernel
def RX8 : String := "SkyFees$Treaty"
def TX8 : u_T := fun k => match k with
  | 0 => ("SkyFees$Treaty", "tape", "[B", true)
  | 1 => ("SkyFees$Treaty", "tapeSize", "I", false)
  | 2 => ("SkyFees$Treaty", "laws", "I", false)
  | 3 => ("SkyFees$Treaty", "use", "[I", true)
  | 4 => ("SkyFees$Treaty", "from", "[I", true)
  | 5 => ("SkyFees$Treaty", "size", "[I", true)
  | _ => ("SkyFees$Treaty", "code", "[I", true)
def tyX8 : Nat → FieldType := fun k => match k with
  | 0 => .array .byte
  | 1 => .int
  | 2 => .int
  | 3 => .array .int
  | 4 => .array .int
  | 5 => .array .int
  | _ => .array .int
theorem nmX8 : ∀ a, a < 7 → ∀ b, b < 7 → a ≠ b → (TX8 a).2.1 ≠ (TX8 b).2.1 := by decide +kernel
theorem tyX8_ok : ∀ k, k < 7 → parseFieldDescriptor (TX8 k).2.2.1 = some (tyX8 k) := by decide +kernel
def RX9 : String := "SkyFees$Voices"
def TX9 : u_T := fun k => match k with
  | 0 => ("SkyFees$Voices", "bodies", "[I", true)
  | 1 => ("SkyFees$Voices", "begun", "I", false)
  | 2 => ("SkyFees$Voices", "number", "I", false)
  | 3 => ("SkyFees$Voices", "weight", "I", false)
  | _ => ("SkyFees$Voices", "kind", "I", false)
def tyX9 : Nat → FieldType := fun k => match k with
  | 0 => .array .int
  | 1 => .int
  | 2 => .int
  | 3 => .int
  | _ => .int
theorem nmX9 : ∀ a, a < 5 → ∀ b, b < 5 → a ≠ b → (TX9 a).2.1 ≠ (TX9 b).2.1 := by decide +kernel
theorem tyX9_ok : ∀ k, k < 5 → parseFieldDescriptor (TX9 k).2.2.1 = some (tyX9 k) := by decide +kernel
def RX10 : String := "SkyFees"
def TX10 : u_T := fun k => match k with
  | 0 => ("SkyFees", "sky", "LSkyFees$Sky;", true)
  | 1 => ("SkyFees", "fleet", "LSkyFees$Fleet;", true)
  | 2 => ("SkyFees", "treaty", "LSkyFees$Treaty;", true)
  | 3 => ("SkyFees", "flights", "LSkyFees$Flights;", true)
  | 4 => ("SkyFees", "keptSky", "LSkyFees$Sky;", true)
  | 5 => ("SkyFees", "keptFleet", "LSkyFees$Fleet;", true)
  | 6 => ("SkyFees", "keptTreaty", "LSkyFees$Treaty;", true)
  | 7 => ("SkyFees", "keptFlights", "LSkyFees$Flights;", true)
  | 8 => ("SkyFees", "reader", "LSkyFees$Reader;", true)
  | 9 => ("SkyFees", "court", "LSkyFees$Court;", true)
  | 10 => ("SkyFees", "billing", "LSkyFees$Billing;", true)
  | 11 => ("SkyFees", "routes", "LSkyFees$Routes;", true)
  | 12 => ("SkyFees", "voices", "LSkyFees$Voices;", true)
  | 13 => ("SkyFees", "sheets", "LSkyFees$Sheets;", true)
  | 14 => ("SkyFees", "findings", "[I", true)
  | _ => ("SkyFees", "images", "I", false)
def tyX10 : Nat → FieldType := fun k => match k with
  | 0 => .object "SkyFees$Sky"
  | 1 => .object "SkyFees$Fleet"
  | 2 => .object "SkyFees$Treaty"
  | 3 => .object "SkyFees$Flights"
  | 4 => .object "SkyFees$Sky"
  | 5 => .object "SkyFees$Fleet"
  | 6 => .object "SkyFees$Treaty"
  | 7 => .object "SkyFees$Flights"
  | 8 => .object "SkyFees$Reader"
  | 9 => .object "SkyFees$Court"
  | 10 => .object "SkyFees$Billing"
  | 11 => .object "SkyFees$Routes"
  | 12 => .object "SkyFees$Voices"
  | 13 => .object "SkyFees$Sheets"
  | 14 => .array .int
  | _ => .int
theorem nmX10 : ∀ a, a < 16 → ∀ b, b < 16 → a ≠ b → (TX10 a).2.1 ≠ (TX10 b).2.1 := by decide +kernel
theorem tyX10_ok : ∀ k, k < 16 → parseFieldDescriptor (TX10 k).2.2.1 = some (tyX10 k) := by decide +kernel
def RX11 : String := "SkyFeesModel"
def TX11 : u_T := fun k => match k with
  | 0 => ("SkyFeesModel", "now", "[I", true)
  | 1 => ("SkyFeesModel", "kept", "[I", true)
  | 2 => ("SkyFeesModel", "images", "I", false)
  | 3 => ("SkyFeesModel", "found", "[I", true)
  | 4 => ("SkyFeesModel", "widths", "[I", true)
  | 5 => ("SkyFeesModel", "sizes", "[I", true)
  | 6 => ("SkyFeesModel", "numbers", "[I", true)
  | 7 => ("SkyFeesModel", "trace", "[I", true)
  | 8 => ("SkyFeesModel", "traced", "I", false)
  | 9 => ("SkyFeesModel", "parts", "[J", true)
  | 10 => ("SkyFeesModel", "remainders", "[J", true)
  | 11 => ("SkyFeesModel", "at", "I", false)
  | 12 => ("SkyFeesModel", "open", "I", false)
  | 13 => ("SkyFeesModel", "isFault", "Z", false)
  | 14 => ("SkyFeesModel", "code", "[I", true)
  | 15 => ("SkyFeesModel", "coded", "I", false)
  | 16 => ("SkyFeesModel", "pile", "[I", true)
  | 17 => ("SkyFeesModel", "ways", "[I", true)
  | 18 => ("SkyFeesModel", "behind", "[I", true)
  | 19 => ("SkyFeesModel", "due", "[I", true)
  | 20 => ("SkyFeesModel", "costs", "[I", true)
  | 21 => ("SkyFeesModel", "steps", "[I", true)
  | 22 => ("SkyFeesModel", "ends", "[I", true)
  | 23 => ("SkyFeesModel", "way", "[I", true)
  | 24 => ("SkyFeesModel", "speaker", "I", false)
  | _ => ("SkyFeesModel", "between", "[I", true)
def tyX11 : Nat → FieldType := fun k => match k with
  | 0 => .array .int
  | 1 => .array .int
  | 2 => .int
  | 3 => .array .int
  | 4 => .array .int
  | 5 => .array .int
  | 6 => .array .int
  | 7 => .array .int
  | 8 => .int
  | 9 => .array .long
  | 10 => .array .long
  | 11 => .int
  | 12 => .int
  | 13 => .boolean
  | 14 => .array .int
  | 15 => .int
  | 16 => .array .int
  | 17 => .array .int
  | 18 => .array .int
  | 19 => .array .int
  | 20 => .array .int
  | 21 => .array .int
  | 22 => .array .int
  | 23 => .array .int
  | 24 => .int
  | _ => .array .int
theorem nmX11 : ∀ a, a < 26 → ∀ b, b < 26 → a ≠ b → (TX11 a).2.1 ≠ (TX11 b).2.1 := by decide +kernel
theorem tyX11_ok : ∀ k, k < 26 → parseFieldDescriptor (TX11 k).2.2.1 = some (tyX11 k) := by decide +kernel
abbrev pq_cl : List vw_C := [(RX0, TX0, 6), (RX1, TX1, 6), (RX2, TX2, 9), (RX3, TX3, 12), (RX4, TX4, 6), (RX5, TX5, 6), (RX6, TX6, 3), (RX7, TX7, 10), (RX8, TX8, 7), (RX9, TX9, 5), (RX10, TX10, 16), (RX11, TX11, 26)]
def pq_dfl : List (List Value) := [[.null, .null, .null, .null, .null, .null], [.null, .null, .null, .null, .null, .null], [.int 0, .null, .null, .null, .int 0, .null, .null, .null, .null], [.int 0, .null, .null, .null, .null, .null, .null, .int 0, .null, .null, .null, .null], [.null, .int 0, .null, .int 0, .int 0, .int 0], [.null, .int 0, .null, .null, .null, .null], [.null, .null, .null], [.null, .null, .null, .null, .null, .null, .null, .null, .int 0, .int 0], [.null, .int 0, .int 0, .null, .null, .null, .null], [.null, .int 0, .int 0, .int 0, .int 0], [.null, .null, .null, .null, .null, .null, .null, .null, .null, .null, .null, .null, .null, .null, .null, .int 0], [.null, .null, .int 0, .null, .null, .null, .null, .null, .int 0, .null, .null, .int 0, .int 0, .int 0, .null, .int 0, .null, .null, .null, .null, .null, .null, .null, .null, .int 0, .null]]
def pq_gt : List Cond := lw_tbl.filter goodWord
def pq_isN : Cond → Bool
  | .methodLinkNest .. => true
  | .fieldLinkNest .. => true
  | _ => false
def pq_Ns (U : State) : Prop := ∀ w ∈ lw_tbl, pq_isN w = true → va_Nw w U
def pq_piece (k : Nat) : List Cond := match k with
  | 0 => k2_sels lw_privs
  | 1 => tables_1_1
  | 2 => tables_1_2
  | 3 => tables_1_3
  | 4 => tables_1_4
  | 5 => tables_1_5
  | 6 => tables_1_6
  | _ => tables_1_7
/-- the word at a place: a piece of the tables' words, and its number there -/
def pq_wat (t : Nat) : Option Cond := (pq_piece (t / 1000))[t % 1000]?
theorem pq_piece_mem (k : Nat) (w : Cond) (h : w ∈ pq_piece k) : w ∈ lw_tbl := by
  unfold lw_tbl tables_1
  simp only [List.mem_append]
  unfold pq_piece at h
  split at h
  · exact Or.inl h
  · exact Or.inr (Or.inl h)
  · exact Or.inr (Or.inr (Or.inl h))
  · exact Or.inr (Or.inr (Or.inr (Or.inl h)))
  · exact Or.inr (Or.inr (Or.inr (Or.inr (Or.inl h))))
  · exact Or.inr (Or.inr (Or.inr (Or.inr (Or.inr (Or.inl h)))))
  · exact Or.inr (Or.inr (Or.inr (Or.inr (Or.inr (Or.inr (Or.inl h))))))
  · exact Or.inr (Or.inr (Or.inr (Or.inr (Or.inr (Or.inr (Or.inr h))))))
theorem pq_wat_mem {t : Nat} {w : Cond} (h : pq_wat t = some w) : w ∈ lw_tbl := pq_piece_mem _ _ (List.mem_of_getElem? h)
theorem pq_gt_mem {w : Cond} (t : Nat) (h : pq_wat t = some w) (hg : goodWord w = true) : w ∈ pq_gt := List.mem_filter.mpr ⟨pq_wat_mem h, hg⟩
theorem pq_gt_good : GoodIn pq_gt pq_gt := fun w hw => ⟨hw, good_of_word (List.mem_filter.mp hw).2⟩
theorem pq_gt_in : GoodIn lw_tbl pq_gt := fun w hw => ⟨(List.mem_filter.mp hw).1, good_of_word (List.mem_filter.mp hw).2⟩
theorem pq_in0 : ∀ w ∈ u_ws RX0 TX0 6, w ∈ pq_gt := by
  intro w hw
  obtain ⟨k, hk, rfl⟩ := List.mem_map.mp hw
  have hk := List.mem_range.mp hk
  have H : ∀ k, k < 6 → pq_wat (([2059, 2061, 2063, 2065, 2067, 2069] : List Nat).getD k 0) = some (u_lay RX0 TX0 k) ∧ goodWord (u_lay RX0 TX0 k) = true := by decide +kernel
  exact pq_gt_mem _ (H k hk).1 (H k hk).2
theorem pq_in1 : ∀ w ∈ u_ws RX1 TX1 6, w ∈ pq_gt := by
  intro w hw
  obtain ⟨k, hk, rfl⟩ := List.mem_map.mp hw
  have hk := List.mem_range.mp hk
  have H : ∀ k, k < 6 → pq_wat (([2034, 2036, 2038, 2040, 2042, 2044] : List Nat).getD k 0) = some (u_lay RX1 TX1 k) ∧ goodWord (u_lay RX1 TX1 k) = true := by decide +kernel
  exact pq_gt_mem _ (H k hk).1 (H k hk).2
theorem pq_in2 : ∀ w ∈ u_ws RX2 TX2 9, w ∈ pq_gt := by
  intro w hw
  obtain ⟨k, hk, rfl⟩ := List.mem_map.mp hw
  have hk := List.mem_range.mp hk
  have H : ∀ k, k < 9 → pq_wat (([1117, 1119, 1121, 1123, 1125, 1127, 1129, 1131, 1133] : List Nat).getD k 0) = some (u_lay RX2 TX2 k) ∧ goodWord (u_lay RX2 TX2 k) = true := by decide +kernel
  exact pq_gt_mem _ (H k hk).1 (H k hk).2
theorem pq_in3 : ∀ w ∈ u_ws RX3 TX3 12, w ∈ pq_gt := by
  intro w hw
  obtain ⟨k, hk, rfl⟩ := List.mem_map.mp hw
  have hk := List.mem_range.mp hk
  have H : ∀ k, k < 12 → pq_wat (([1210, 1212, 1214, 1216, 1218, 1220, 1222, 1224, 1226, 1228, 1230, 1232] : List Nat).getD k 0) = some (u_lay RX3 TX3 k) ∧ goodWord (u_lay RX3 TX3 k) = true := by decide +kernel
  exact pq_gt_mem _ (H k hk).1 (H k hk).2
theorem pq_in4 : ∀ w ∈ u_ws RX4 TX4 6, w ∈ pq_gt := by
  intro w hw
  obtain ⟨k, hk, rfl⟩ := List.mem_map.mp hw
  have hk := List.mem_range.mp hk
  have H : ∀ k, k < 6 → pq_wat (([2009, 2011, 2013, 2015, 2017, 2019] : List Nat).getD k 0) = some (u_lay RX4 TX4 k) ∧ goodWord (u_lay RX4 TX4 k) = true := by decide +kernel
  exact pq_gt_mem _ (H k hk).1 (H k hk).2
theorem pq_in5 : ∀ w ∈ u_ws RX5 TX5 6, w ∈ pq_gt := by
  intro w hw
  obtain ⟨k, hk, rfl⟩ := List.mem_map.mp hw
  have hk := List.mem_range.mp hk
  have H : ∀ k, k < 6 → pq_wat (([2086, 2088, 2090, 2092, 2094, 2096] : List Nat).getD k 0) = some (u_lay RX5 TX5 k) ∧ goodWord (u_lay RX5 TX5 k) = true := by decide +kernel
  exact pq_gt_mem _ (H k hk).1 (H k hk).2
theorem pq_in6 : ∀ w ∈ u_ws RX6 TX6 3, w ∈ pq_gt := by
  intro w hw
  obtain ⟨k, hk, rfl⟩ := List.mem_map.mp hw
  have hk := List.mem_range.mp hk
  have H : ∀ k, k < 3 → pq_wat (([2134, 2136, 2138] : List Nat).getD k 0) = some (u_lay RX6 TX6 k) ∧ goodWord (u_lay RX6 TX6 k) = true := by decide +kernel
  exact pq_gt_mem _ (H k hk).1 (H k hk).2
theorem pq_in7 : ∀ w ∈ u_ws RX7 TX7 10, w ∈ pq_gt := by
  intro w hw
  obtain ⟨k, hk, rfl⟩ := List.mem_map.mp hw
  have hk := List.mem_range.mp hk
  have H : ∀ k, k < 10 → pq_wat (([1066, 1068, 1070, 1072, 1074, 1076, 1078, 1080, 1082, 1084] : List Nat).getD k 0) = some (u_lay RX7 TX7 k) ∧ goodWord (u_lay RX7 TX7 k) = true := by decide +kernel
  exact pq_gt_mem _ (H k hk).1 (H k hk).2
theorem pq_in8 : ∀ w ∈ u_ws RX8 TX8 7, w ∈ pq_gt := by
  intro w hw
  obtain ⟨k, hk, rfl⟩ := List.mem_map.mp hw
  have hk := List.mem_range.mp hk
  have H : ∀ k, k < 7 → pq_wat (([1155, 1157, 1159, 1161, 1163, 1165, 1167] : List Nat).getD k 0) = some (u_lay RX8 TX8 k) ∧ goodWord (u_lay RX8 TX8 k) = true := by decide +kernel
  exact pq_gt_mem _ (H k hk).1 (H k hk).2
theorem pq_in9 : ∀ w ∈ u_ws RX9 TX9 5, w ∈ pq_gt := by
  intro w hw
  obtain ⟨k, hk, rfl⟩ := List.mem_map.mp hw
  have hk := List.mem_range.mp hk
  have H : ∀ k, k < 5 → pq_wat (([2112, 2114, 2116, 2118, 2120] : List Nat).getD k 0) = some (u_lay RX9 TX9 k) ∧ goodWord (u_lay RX9 TX9 k) = true := by decide +kernel
  exact pq_gt_mem _ (H k hk).1 (H k hk).2
theorem pq_in10 : ∀ w ∈ u_ws RX10 TX10 16, w ∈ pq_gt := by
  intro w hw
  obtain ⟨k, hk, rfl⟩ := List.mem_map.mp hw
  have hk := List.mem_range.mp hk
  have H : ∀ k, k < 16 → pq_wat (([2157, 2159, 2161, 2163, 2165, 2167, 2169, 2171, 2173, 2175, 2177, 2179, 2181, 2183, 2185, 2187] : List Nat).getD k 0) = some (u_lay RX10 TX10 k) ∧ goodWord (u_lay RX10 TX10 k) = true := by decide +kernel
  exact pq_gt_mem _ (H k hk).1 (H k hk).2
theorem pq_in11 : ∀ w ∈ u_ws RX11 TX11 26, w ∈ pq_gt := by
  intro w hw
  obtain ⟨k, hk, rfl⟩ := List.mem_map.mp hw
  have hk := List.mem_range.mp hk
  have H : ∀ k, k < 26 → pq_wat (([5141, 5143, 5145, 5147, 5149, 5151, 5153, 5155, 5157, 5159, 5161, 5163, 5165, 5167, 5169, 5171, 5173, 5175, 5177, 5179, 5181, 5183, 5185, 5187, 5189, 5191] : List Nat).getD k 0) = some (u_lay RX11 TX11 k) ∧ goodWord (u_lay RX11 TX11 k) = true := by decide +kernel
  exact pq_gt_mem _ (H k hk).1 (H k hk).2
end
section
/-! a machine of my own over a list of cells: values are the kit's, a reference is a number in the list -/
abbrev pq_A : Type := FieldType × Nat × ((Nat → Int32) ⊕ (Nat → Int64))
abbrev pq_C : Type := pq_A ⊕ (Nat × List Value)
abbrev pq_W : Type := List pq_C
abbrev pq_L : Type := List (Nat × Value)
/-- a row of a method: its place, its kind, the next place, the instruction, numbers, a constant, the place of its word among the tables' -/
abbrev pq_N : Type := Nat × Nat × Nat × Instr × List Nat × Value × Nat
abbrev pq_B : Type := List (Nat × List pq_N)
abbrev pq_R : Type := Option Value × pq_W
/-- a method: its name, its bytes, how many slots, its answer's type, what it makes (cells, slots), numbers (kind, arguments, places of its words), its rows -/
abbrev pq_M : Type := MethodName × ByteArray × Nat × Option FieldType × (Nat × Nat) × List Nat × pq_B
def pq_E : Nat := 5
def pq_look1 : List pq_N → Nat → Option pq_N
  | [], _ => none
  | q :: r, pc => bif Nat.beq q.1 pc then some q else pq_look1 r pc
def pq_look : pq_B → Nat → Option pq_N
  | [], _ => none
  | b :: r, pc => bif Nat.ble pc b.1 then pq_look1 b.2 pc else pq_look r pc
theorem pq_look1_mem : ∀ (l : List pq_N) (pc : Nat) (q : pq_N), pq_look1 l pc = some q → q ∈ l ∧ q.1 = pc
  | [], pc, q, h => by cases h
  | a :: r, pc, q, h => by
    unfold pq_look1 at h
    cases hb : Nat.beq a.1 pc with
    | true =>
      rw [hb] at h
      cases h
      exact ⟨List.mem_cons_self, Nat.eq_of_beq_eq_true hb⟩
    | false =>
      rw [hb] at h
      obtain ⟨h1, h2⟩ := pq_look1_mem r pc q h
      exact ⟨List.mem_cons_of_mem _ h1, h2⟩
theorem pq_look_mem : ∀ (b : pq_B) (pc : Nat) (q : pq_N), pq_look b pc = some q → (∃ c ∈ b, q ∈ c.2) ∧ q.1 = pc
  | [], pc, q, h => by cases h
  | a :: r, pc, q, h => by
    unfold pq_look at h
    cases hb : Nat.ble pc a.1 with
    | true =>
      rw [hb] at h
      obtain ⟨h1, h2⟩ := pq_look1_mem a.2 pc q h
      exact ⟨⟨a, List.mem_cons_self, h1⟩, h2⟩
    | false =>
      rw [hb] at h
      obtain ⟨⟨c, h1, h2⟩, h3⟩ := pq_look_mem r pc q h
      exact ⟨⟨c, List.mem_cons_of_mem _ h1, h2⟩, h3⟩
def pq_lk : pq_L → Nat → Option Value
  | [], _ => none
  | q :: r, k => bif Nat.beq q.1 k then some q.2 else pq_lk r k
theorem pq_lk_mem : ∀ (l : pq_L) (k : Nat) (v : Value), pq_lk l k = some v → (k, v) ∈ l
  | [], k, v, h => by cases h
  | a :: r, k, v, h => by
    unfold pq_lk at h
    cases hb : Nat.beq a.1 k with
    | true =>
      rw [hb] at h
      cases h
      have e : a.1 = k := Nat.eq_of_beq_eq_true hb
      subst e
      exact List.mem_cons_self
    | false =>
      rw [hb] at h
      exact List.mem_cons_of_mem _ (pq_lk_mem r k v h)
def pq_st1 (l : pq_L) (i : Nat) (v : Value) : pq_L := (i, v) :: l.filter (fun q => !(q.1 == i) && !(q.1 + 1 == i && q.2.category == 2))
def pq_st2 (l : pq_L) (i : Nat) (v : Value) : pq_L := (i, v) :: l.filter (fun q => !(q.1 == i) && (!(q.1 == i + 1) && !(q.1 + 1 == i && q.2.category == 2)))
/-- how long an instruction is -/
def pq_il : Instr → Nat
  | .iload _ | .istore _ | .aload _ | .astore _ | .lload _ | .lstore _ | .bipush _ | .ldc _ | .newarray _ => 2
  | .sipush _ | .ldc_w _ | .ldc2_w _ | .ifCond _ _ | .if_icmp _ _ | .goto _ | .iinc _ _ | .getfield _ | .putfield _ | .invokevirtual _ | .invokestatic _ | .invokespecial _ | .new _ | .getstatic _ => 3
  | _ => 1
def pq_push (i : Instr) (v : Value) : Bool := match i with
  | .iconst n => decide (v = .int (Int32.ofInt n))
  | .bipush n => decide (v = .int (Int8.ofInt n).toInt32)
  | .sipush n => decide (v = .int (Int16.ofInt n).toInt32)
  | .lconst n => decide (v = .long (Int64.ofNat n))
  | .ldc _ | .ldc_w _ => match v with
    | .int _ => true
    | _ => false
  | .ldc2_w _ => match v with
    | .long _ => true
    | _ => false
  | _ => false
def pq_bin (i : Instr) (a b : Value) : Option Value := match a, b with
  | .int x, .int y => match i with
    | .iadd => some (.int (x + y))
    | .isub => some (.int (x - y))
    | .imul => some (.int (x * y))
    | .idiv => if y = 0 then none else some (.int (x / y))
    | .irem => if y = 0 then none else some (.int (x - x / y * y))
    | .iand => some (.int (x &&& y))
    | .ior => some (.int (x ||| y))
    | .ixor => some (.int (x ^^^ y))
    | .ishr => some (.int (x >>> (y &&& 31)))
    | _ => none
  | .long x, .long y => match i with
    | .ladd => some (.long (x + y))
    | .lsub => some (.long (x - y))
    | .lmul => some (.long (x * y))
    | .ldiv => if y = 0 then none else some (.long (x / y))
    | .lrem => if y = 0 then none else some (.long (x - x / y * y))
    | .land => some (.long (x &&& y))
    | .lor => some (.long (x ||| y))
    | .lcmp => some (.int (lg_cmp x y))
    | _ => none
  | .long x, .int y => match i with
    | .lshl => some (.long (x <<< (y.toInt64 &&& 63)))
    | .lshr => some (.long (x >>> (y.toInt64 &&& 63)))
    | .lushr => some (.long (x.toUInt64 >>> (y.toInt64.toUInt64 &&& Int64.toUInt64 63)).toInt64)
    | _ => none
  | _, _ => none
def pq_un (i : Instr) (a : Value) : Option Value := match a with
  | .int x => match i with
    | .ineg => some (.int (-x))
    | .i2l => some (.long x.toInt64)
    | .i2b => some (.int x.toInt8.toInt32)
    | .i2s => some (.int x.toInt16.toInt32)
    | _ => none
  | .long x => match i with
    | .l2i => some (.int x.toInt32)
    | _ => none
  | _ => none
def pq_br (c : Jvm.ClassFile.Cond) (x y : Int32) : Bool := match c with
  | .eq => decide (x = y)
  | .ne => decide (¬ x = y)
  | .lt => decide (x < y)
  | .ge => decide (y ≤ x)
  | .gt => decide (y < x)
  | .le => decide (x ≤ y)
def pq_lsw : List (Int × Int) → List Nat → Nat → Int32 → Option Nat
  | [], _, d, _ => some d
  | _ :: _, [], _, _ => none
  | q :: r, t :: ts, d, x => if x.toInt = q.1 then some t else pq_lsw r ts d x
/-- the place behind a switch -/
def pq_sw (i : Instr) (a : List Nat) (x : Int32) : Option Nat := match i with
  | .tableswitch _ lo hi _ => if x.toInt < lo ∨ hi < x.toInt then a[0]? else a[(x.toInt - lo).toNat + 1]?
  | .lookupswitch _ ps => pq_lsw ps.toList a.tail (a.headD 0) x
  | _ => none
/-- may a value stand in a field of this sort (0 int, 1 long, 2 boolean, 3 reference) -/
def pq_fit (t : Nat) (v : Value) : Bool := match v with
  | .int x => bif Nat.beq t 0 then true else bif Nat.beq t 2 then decide (x = 0 ∨ x = 1) else false
  | .long _ => Nat.beq t 1
  | .ref _ => Nat.beq t 3
  | _ => false
def pq_in (i : Int32) (n : Nat) : Bool := decide (¬ (i < 0 ∨ n ≤ i.toNatClampNeg))
/-- an array's place read -/
def pq_ald (x : pq_C) (i : Int32) (t : Nat) : Option Value := match x with
  | .inl (ty, n, .inl f) => match t with
    | 0 => if ty = .int ∧ pq_in i n = true then some (.int (f i.toNatClampNeg)) else none
    | 2 => if (ty = .byte ∨ ty = .boolean) ∧ pq_in i n = true then some (.int (f i.toNatClampNeg)) else none
    | _ => none
  | .inl (ty, n, .inr f) => match t with
    | 1 => if ty = .long ∧ pq_in i n = true then some (.long (f i.toNatClampNeg)) else none
    | _ => none
  | _ => none
/-- an array's place written -/
def pq_ast (x : pq_C) (i : Int32) (v : Value) (t : Nat) : Option pq_C := match x, v with
  | .inl (ty, n, .inl f), .int y => match t with
    | 0 => if ty = .int ∧ pq_in i n = true then some (.inl (ty, n, .inl (upd f i.toNatClampNeg y))) else none
    | 2 => if (ty = .byte ∨ ty = .boolean) ∧ pq_in i n = true then some (.inl (ty, n, .inl (upd f i.toNatClampNeg (vp_nar ty y)))) else none
    | _ => none
  | .inl (ty, n, .inr f), .long y => match t with
    | 1 => if ty = .long ∧ pq_in i n = true then some (.inl (ty, n, .inr (vp_updL f i.toNatClampNeg y))) else none
    | _ => none
  | _, _ => none
def pq_alen (x : pq_C) : Option Nat := match x with
  | .inl q => some q.2.1
  | _ => none
/-- System.arraycopy between arrays of ints, of bytes, of booleans -/
def pq_cp (x y : pq_C) (sp dp n : Int32) : Option pq_C := match x, y with
  | .inl (ty, n0, .inl f), .inl (ty1, n1, .inl g) => if (ty = .int ∨ ty = .byte ∨ ty = .boolean) ∧ ty1 = ty ∧ ¬ sp < 0 ∧ ¬ dp < 0 ∧ ¬ n < 0 ∧ sp.toNatClampNeg + n.toNatClampNeg ≤ n0 ∧ dp.toNatClampNeg + n.toNatClampNeg ≤ n1 then some (.inl (ty1, n1, .inl (va_cpy f g sp.toNatClampNeg dp.toNatClampNeg n.toNatClampNeg))) else none
  | _, _ => none
def pq_blank (t : Nat) (n : Nat) : Option pq_C := match t with
  | 0 => some (.inl (.int, n, .inl fun _ => 0))
  | 1 => some (.inl (.long, n, .inr fun _ => 0))
  | 2 => some (.inl (.byte, n, .inl fun _ => 0))
  | 3 => some (.inl (.boolean, n, .inl fun _ => 0))
  | _ => none
def pq_at2 : ArrayType → Nat
  | .int => 0
  | .long => 1
  | .byte => 2
  | .boolean => 3
  | _ => 9
def pq_sum (st : List Value) : Nat := (st.map fun v => v.category).sum
def pq_m0 (st : List Value) : Option (List Value) := match st with
  | .int y :: .int x :: r => some (.int (if x < y then y else x) :: r)
  | _ => none
def pq_m1 (st : List Value) : Option (List Value) := match st with
  | .int y :: .int x :: r => some (.int (if y < x then y else x) :: r)
  | _ => none
def pq_m2 (st : List Value) : Option (List Value) := match st with
  | .int x :: r => some (.int (if 0 ≤ x then x else 0 - x) :: r)
  | _ => none
def pq_m3 (st : List Value) : Option (List Value) := match st with
  | .long y :: .long x :: r => some (.long (if y < x then x else y) :: r)
  | _ => none
def pq_m4 (st : List Value) : Option (List Value) := match st with
  | .long y :: .long x :: r => some (.long (if y < x then y else x) :: r)
  | _ => none
def pq_math (op : Nat) (st : List Value) : Option (List Value) := match op with
  | 0 => pq_m0 st
  | 1 => pq_m1 st
  | 2 => pq_m2 st
  | 3 => pq_m3 st
  | 4 => pq_m4 st
  | _ => none
/-- one row: k goes on at a place with slots, stack, cells and what was made so far -/
def pq_do (call : Nat → List Value → pq_W → Option pq_R) (lim : Nat → Nat × Nat) (own : Nat × Nat) (ret : Option FieldType) (k : Nat → pq_L → List Value → pq_W → Nat → Nat → Option pq_R) (q : pq_N) (ls : pq_L) (st : List Value) (w : pq_W) (cs ss : Nat) : Option pq_R :=
  match q with
  | (_, cat, nx, i, a, v, _) => match cat with
    | 0 => k nx ls (v :: st) w cs ss
    | 1 => match pq_lk ls (a.headD 0) with
      | some (.int x) => k nx ls (.int x :: st) w cs ss
      | _ => none
    | 2 => match pq_lk ls (a.headD 0) with
      | some (.long x) => k nx ls (.long x :: st) w cs ss
      | _ => none
    | 3 => match pq_lk ls (a.headD 0) with
      | some (.ref x) => k nx ls (.ref x :: st) w cs ss
      | _ => none
    | 4 => match st with
      | .int x :: st => k nx (pq_st1 ls (a.headD 0) (.int x)) st w cs ss
      | _ => none
    | 5 => match st with
      | .long x :: st => k nx (pq_st2 ls (a.headD 0) (.long x)) st w cs ss
      | _ => none
    | 6 => match st with
      | .ref x :: st => k nx (pq_st1 ls (a.headD 0) (.ref x)) st w cs ss
      | _ => none
    | 7 => match pq_lk ls (a.headD 0), v with
      | some (.int x), .int y => k nx (pq_st1 ls (a.headD 0) (.int (x + y))) st w cs ss
      | _, _ => none
    | 8 => match st with
      | y :: x :: st => match pq_bin i x y with
        | some z => k nx ls (z :: st) w cs ss
        | none => none
      | _ => none
    | 9 => match st with
      | x :: st => match pq_un i x with
        | some z => k nx ls (z :: st) w cs ss
        | none => none
      | _ => none
    | 10 => match st with
      | x :: st => bif Nat.beq x.category 1 then k nx ls (x :: x :: st) w cs ss else none
      | _ => none
    | 11 => match st with
      | x :: y :: st => bif Nat.beq x.category 1 && Nat.beq y.category 1 then k nx ls (x :: y :: x :: y :: st) w cs ss else none
      | _ => none
    | 12 => match st, i with
      | .int x :: st, .ifCond c _ => bif pq_br c x 0 then k (a.headD 0) ls st w cs ss else k nx ls st w cs ss
      | _, _ => none
    | 13 => match st, i with
      | .int y :: .int x :: st, .if_icmp c _ => bif pq_br c x y then k (a.headD 0) ls st w cs ss else k nx ls st w cs ss
      | _, _ => none
    | 14 => k (a.headD 0) ls st w cs ss
    | 15 => match st with
      | .int x :: st => match pq_sw i a x with
        | some t => k t ls st w cs ss
        | none => none
      | _ => none
    | 16 => match st with
      | [.int x] => bif Nat.ble cs own.1 && Nat.ble ss own.2 then (match ret with
        | some .int => some (some (.int x), w)
        | some .boolean => if x = 0 ∨ x = 1 then some (some (.int x), w) else none
        | some .byte => if x = 0 ∨ x = 1 then some (some (.int x), w) else none
        | _ => none) else none
      | _ => none
    | 17 => match st with
      | [.long x] => bif Nat.ble cs own.1 && Nat.ble ss own.2 then (match ret with
        | some .long => some (some (.long x), w)
        | _ => none) else none
      | _ => none
    | 18 => match st with
      | [] => bif Nat.ble cs own.1 && Nat.ble ss own.2 then (match ret with
        | none => some (none, w)
        | _ => none) else none
      | _ => none
    | 19 => match st with
      | .ref r :: st => match w[r]? with
        | some (.inr (ci, fs)) => bif Nat.beq ci (a.headD 0) then (match fs[(a.getD 1 0)]? with
          | some z => k nx ls (z :: st) w cs ss
          | none => none) else none
        | _ => none
      | _ => none
    | 20 => match st with
      | z :: .ref r :: st => match w[r]? with
        | some (.inr (ci, fs)) => bif Nat.beq ci (a.headD 0) && Nat.ble pq_E r && Nat.blt (a.getD 1 0) fs.length && pq_fit (a.getD 2 9) z then k nx ls st (w.set r (.inr (ci, fs.set (a.getD 1 0) z))) cs ss else none
        | _ => none
      | _ => none
    | 21 => match st with
      | .int x :: .ref r :: st => match w[r]? with
        | some c => match pq_ald c x (a.headD 9) with
          | some z => k nx ls (z :: st) w cs ss
          | none => none
        | none => none
      | _ => none
    | 22 => match st with
      | z :: .int x :: .ref r :: st => match w[r]? with
        | some c => match pq_ast c x z (a.headD 9) with
          | some c1 => bif Nat.ble pq_E r then k nx ls st (w.set r c1) cs ss else none
          | none => none
        | none => none
      | _ => none
    | 23 => match st with
      | .ref r :: st => match w[r]? with
        | some c => match pq_alen c with
          | some n => k nx ls (.int (Int32.ofNat n) :: st) w cs ss
          | none => none
        | none => none
      | _ => none
    | 24 => match pq_dfl[(a.headD 0)]? with
      | some fs => bif Nat.ble (cs + 1) own.1 && Nat.ble (ss + fs.length) own.2 then k nx ls (.ref w.length :: st) (w ++ [.inr (a.headD 0, fs)]) (cs + 1) (ss + fs.length) else none
      | none => none
    | 25 => match st with
      | .int n :: st => match pq_blank (a.headD 9) n.toNatClampNeg with
        | some c => if n < 0 ∨ 60000000 < n.toNatClampNeg then none else bif Nat.ble (cs + 1) own.1 && Nat.ble (ss + n.toNatClampNeg) own.2 then k nx ls (.ref w.length :: st) (w ++ [c]) (cs + 1) (ss + n.toNatClampNeg) else none
        | none => none
      | _ => none
    | 26 => match st with
      | .ref _ :: st => bif Nat.ble (pq_sum st) 8 then k nx ls st w cs ss else none
      | _ => none
    | 27 => match st with
      | .int n :: .int dp :: .ref r1 :: .int sp :: .ref r0 :: st => match w[r0]?, w[r1]? with
        | some c0, some c1 => match pq_cp c0 c1 sp dp n with
          | some c2 => bif Nat.ble pq_E r0 && Nat.ble pq_E r1 && Nat.ble (pq_sum st) 8 then k nx ls st (w.set r1 c2) cs ss else none
          | none => none
        | _, _ => none
      | _ => none
    | 28 => bif Nat.ble (a.getD 1 0) st.length && Nat.ble (pq_sum (st.drop (a.getD 1 0))) 8 && Nat.ble (cs + (lim (a.headD 0)).1) own.1 && Nat.ble (ss + (lim (a.headD 0)).2) own.2 then (match call (a.headD 0) (st.take (a.getD 1 0)).reverse w with
      | some (r, w1) => k nx ls (r.toList ++ st.drop (a.getD 1 0)) w1 (cs + (lim (a.headD 0)).1) (ss + (lim (a.headD 0)).2)
      | none => none) else none
    | 29 => match pq_math (a.headD 9) st with
      | some st1 => bif Nat.ble (pq_sum st1) 8 && Nat.ble cs own.1 && Nat.ble ss own.2 then k nx ls st1 w cs ss else none
      | none => none
    | 30 => k nx ls (v :: st) w cs ss
    | 32 => match st with
      | x :: st => bif Nat.beq x.category 1 then k nx ls st w cs ss else none
      | _ => none
    | 31 => match st with
      | .ref r :: st => match w[r]? with
        | some (.inr (ci, _)) => bif Nat.beq r 3 && Nat.beq ci 99 then k nx ls (v :: st) w cs ss else none
        | _ => none
      | _ => none
    | _ => none
noncomputable def pq_exec (call : Nat → List Value → pq_W → Option pq_R) (lim : Nat → Nat × Nat) (own : Nat × Nat) (ret : Option FieldType) (L : pq_B) (f : Nat) : Nat → pq_L → List Value → pq_W → Nat → Nat → Option pq_R :=
  Nat.rec (motive := fun _ => Nat → pq_L → List Value → pq_W → Nat → Nat → Option pq_R) (fun _ _ _ _ _ _ => none) (fun _ ih pc ls st w cs ss => match pq_look L pc with
    | some q => pq_do call lim own ret ih q ls st w cs ss
    | none => none) f
theorem pq_exec_s (call : Nat → List Value → pq_W → Option pq_R) (lim : Nat → Nat × Nat) (own : Nat × Nat) (ret : Option FieldType) (L : pq_B) (f pc : Nat) (ls : pq_L) (st : List Value) (w : pq_W) (cs ss : Nat) : pq_exec call lim own ret L (f + 1) pc ls st w cs ss = match pq_look L pc with
    | some q => pq_do call lim own ret (pq_exec call lim own ret L f) q ls st w cs ss
    | none => none := rfl
end
section
/-! what a pure value, a pure cell, a pure list of cells says of the heap; ad: where cell i lies -/
def pq_v (ad : Nat → Nat) : Value → Value
  | .ref i => .ref (ad i)
  | .int x => .int x
  | .long x => .long x
  | .float x => .float x
  | .double x => .double x
  | .null => .null
  | .retAddr x => .retAddr x
def pq_ls (ad : Nat → Nat) (l : pq_L) : pq_L := l.map fun q => (q.1, pq_v ad q.2)
theorem pq_v_cat (ad : Nat → Nat) (v : Value) : (pq_v ad v).category = v.category := by cases v <;> rfl
theorem pq_ls_mem {ad : Nat → Nat} {l : pq_L} {k : Nat} {v : Value} (h : pq_lk l k = some v) : (k, pq_v ad v) ∈ pq_ls ad l := List.mem_map.mpr ⟨(k, v), pq_lk_mem l k v h, rfl⟩
theorem pq_ls_st1 (ad : Nat → Nat) (l : pq_L) (i : Nat) (v : Value) : (i, pq_v ad v) :: (pq_ls ad l).filter (fun q => !(q.1 == i) && !(q.1 + 1 == i && q.2.category == 2)) = pq_ls ad (pq_st1 l i v) := by
  unfold pq_ls pq_st1
  rw [List.map_cons, List.filter_map]
  congr 2
  apply List.filter_congr
  intro q _
  simp [Function.comp, pq_v_cat]
theorem pq_ls_st2 (ad : Nat → Nat) (l : pq_L) (i : Nat) (v : Value) : (i, pq_v ad v) :: (pq_ls ad l).filter (fun q => !(q.1 == i) && (!(q.1 == i + 1) && !(q.1 + 1 == i && q.2.category == 2))) = pq_ls ad (pq_st2 l i v) := by
  unfold pq_ls pq_st2
  rw [List.map_cons, List.filter_map]
  congr 2
  apply List.filter_congr
  intro q _
  simp [Function.comp, pq_v_cat]
theorem pq_sum_v (ad : Nat → Nat) (st : List Value) : ((st.map (pq_v ad)).map fun v => v.category).sum = pq_sum st := by
  unfold pq_sum
  rw [List.map_map]
  congr 1
  apply List.map_congr_left
  intro v _
  exact pq_v_cat ad v
def pq_at (ad : Nat → Nat) (D : va_G) (U : State) (H : Heap) (i : Nat) (x : pq_C) : Prop := match x with
  | .inl (ty, n, .inl f) => ∃ cA : ClassId, H[ad i]? = some (arrV cA n (fun j => .int (f j))) ∧ ArrOfT U cA ty ∧ ∀ j, fits ty (.int (f j)) = true
  | .inl (ty, n, .inr f) => ∃ cA : ClassId, H[ad i]? = some (arrV cA n (fun j => .long (f j))) ∧ ArrOfT U cA ty
  | .inr (ci, fs) => ∃ r : vw_C, pq_cl[ci]? = some r ∧ t_OB (ad i) (D.1 ci) r.2.2 (D.2 ci) H (vp_V (fs.map (pq_v ad)))
theorem pq_at.kept {ad : Nat → Nat} {D : va_G} {U : State} {H H1 : Heap} {i : Nat} {x : pq_C} (h : pq_at ad D U H i x) (e : H1[ad i]? = H[ad i]?) : pq_at ad D U H1 i x := by
  match x, h with
  | .inl (ty, n, .inl f), h =>
    obtain ⟨cA, h1, h2⟩ := h
    exact ⟨cA, by rw [e]; exact h1, h2⟩
  | .inl (ty, n, .inr f), h =>
    obtain ⟨cA, h1, h2⟩ := h
    exact ⟨cA, by rw [e]; exact h1, h2⟩
  | .inr (ci, fs), h =>
    obtain ⟨r, h1, h2⟩ := h
    exact ⟨r, h1, h2.kept e⟩
theorem pq_at.moved {ad : Nat → Nat} {D : va_G} {u U : State} {H : Heap} {i : Nat} {x : pq_C} (hvm : u.vm.Alike U.vm) (h : pq_at ad D u H i x) : pq_at ad D U H i x := by
  match x, h with
  | .inl (ty, n, .inl f), h =>
    obtain ⟨cA, h1, h2, h3⟩ := h
    exact ⟨cA, h1, arrOfT_moved hvm h2, h3⟩
  | .inl (ty, n, .inr f), h =>
    obtain ⟨cA, h1, h2⟩ := h
    exact ⟨cA, h1, arrOfT_moved hvm h2⟩
  | .inr (ci, fs), h => exact h
theorem pq_at.lt {ad : Nat → Nat} {D : va_G} {U : State} {H : Heap} {i : Nat} {x : pq_C} (h : pq_at ad D U H i x) : ad i < H.size := by
  match x, h with
  | .inl (ty, n, .inl f), h =>
    obtain ⟨cA, h1, h2⟩ := h
    exact (Array.getElem?_eq_some_iff.mp h1).1
  | .inl (ty, n, .inr f), h =>
    obtain ⟨cA, h1, h2⟩ := h
    exact (Array.getElem?_eq_some_iff.mp h1).1
  | .inr (ci, fs), h =>
    obtain ⟨r, h1, cell, h2, -⟩ := h
    exact (Array.getElem?_eq_some_iff.mp h2).1
/-- where our cells lie -/
def pq_wr (ad : Nat → Nat) : Nat → Prop := fun q => ∃ i, pq_E ≤ i ∧ ad i = q
/-- a cell that was there before: it is only read; an object: the text of names -/
def pq_ex (ad : Nat → Nat) (U : State) (H : Heap) (i : Nat) (x : pq_C) : Prop := match x with
  | .inl (ty, n, .inl f) => ∃ cell : Cell, H[ad i]? = some cell ∧ U.isArrayOf cell ty ∧ cell.vm ≠ .unknown ∧ (n ≤ cell.slots.size ∧ cell.slots.size.toInt32 = Int32.ofNat n) ∧ ∀ j, j < n → cell.slots[j]? = some (.int (f j))
  | .inr (ci, _) => ci = 99 ∧ va_O "java/lang/String" (ad i) (pq_wr ad) U H ∧ va_OF "java/lang/String" "coder" "B" (.int 0) (ad i) (pq_wr ad) U H ∧ va_OF "java/lang/String" "value" "[B" (.ref (ad 4)) (ad i) (pq_wr ad) U H
  | _ => False
theorem pq_ex.kept {ad : Nat → Nat} {U : State} {H H1 : Heap} {i : Nat} {x : pq_C} (h : pq_ex ad U H i x) (e : H1[ad i]? = H[ad i]?) : pq_ex ad U H1 i x := by
  match x, h with
  | .inl (ty, n, .inl f), h =>
    obtain ⟨cell, h1, h2⟩ := h
    exact ⟨cell, by rw [e]; exact h1, h2⟩
  | .inr (ci, fs), h =>
    obtain ⟨h0, ⟨c0, a1, a2⟩, ⟨cf, k, fi, f, cell, b1, b2, b3, b4⟩, ⟨cf', k', fi', f', cell', d1, d2, d3, d4⟩⟩ := h
    exact ⟨h0, ⟨c0, by rw [e]; exact a1, a2⟩, ⟨cf, k, fi, f, cell, b1, b2, by rw [e]; exact b3, b4⟩, ⟨cf', k', fi', f', cell', d1, d2, by rw [e]; exact d3, d4⟩⟩
theorem pq_ex.moved {ad : Nat → Nat} {u U : State} {H : Heap} {i : Nat} {x : pq_C} (hvm : u.vm.Alike U.vm) (h : pq_ex ad u H i x) : pq_ex ad U H i x := by
  match x, h with
  | .inl (ty, n, .inl f), h =>
    obtain ⟨cell, h1, h2, h3⟩ := h
    exact ⟨cell, h1, State.isArrayOf_alike hvm h2, h3⟩
  | .inr (ci, fs), h => exact ⟨h.1, va_O.moved hvm h.2.1, va_OF.moved hvm h.2.2.1, va_OF.moved hvm h.2.2.2⟩
theorem pq_ex.lt {ad : Nat → Nat} {U : State} {H : Heap} {i : Nat} {x : pq_C} (h : pq_ex ad U H i x) : ad i < H.size := by
  match x, h with
  | .inl (ty, n, .inl f), h =>
    obtain ⟨cell, h1, h2⟩ := h
    exact (Array.getElem?_eq_some_iff.mp h1).1
  | .inr (ci, fs), h =>
    obtain ⟨h0, ⟨c0, a1, a2⟩, -⟩ := h
    exact (Array.getElem?_eq_some_iff.mp a1).1
/-- what stands in the static fields -/
def pq_St (ad : Nat → Nat) (U : State) (H : Heap) : Prop := va_Z "SkyFees" "ABOVE" "[I" (.ref (ad 1)) (pq_wr ad) U H ∧ va_Z "SkyFees" "BODIES" "[I" (.ref (ad 2)) (pq_wr ad) U H ∧ va_Z "java/lang/String" "COMPACT_STRINGS" "Z" (.int 1) (pq_wr ad) U H
theorem pq_St.moved {ad : Nat → Nat} {u U : State} {H : Heap} (hvm : u.vm.Alike U.vm) (h : pq_St ad u H) : pq_St ad U H := ⟨va_Z.moved hvm h.1, va_Z.moved hvm h.2.1, va_Z.moved hvm h.2.2⟩
theorem pq_St.kept {ad : Nat → Nat} {U : State} {H H1 : Heap} (h : pq_St ad U H) (hq : ∀ a : Nat, a < H.size → ¬ pq_wr ad a → H1[a]? = H[a]?) : pq_St ad U H1 := ⟨va_Z.kept h.1 hq, va_Z.kept h.2.1 hq, va_Z.kept h.2.2 hq⟩
def pq_I (ad : Nat → Nat) (D : va_G) (w : pq_W) (U : State) (H : Heap) : Prop := (∀ k : Nat, ad (w.length + k) = H.size + k) ∧ (pq_E ≤ w.length ∧ pq_St ad U H) ∧ ∀ (i : Nat) (x : pq_C), w[i]? = some x → (pq_E ≤ i → pq_at ad D U H i x) ∧ (i < pq_E → pq_ex ad U H i x)
theorem pq_I.moved {ad : Nat → Nat} {D : va_G} {w : pq_W} {u U : State} {H : Heap} (hvm : u.vm.Alike U.vm) (h : pq_I ad D w u H) : pq_I ad D w U H := ⟨h.1, ⟨h.2.1.1, h.2.1.2.moved hvm⟩, fun i x hx => ⟨fun hE => ((h.2.2 i x hx).1 hE).moved hvm, fun hE => ((h.2.2 i x hx).2 hE).moved hvm⟩⟩
theorem pq_I.set {ad : Nat → Nat} {D : va_G} {w : pq_W} {U : State} {H H1 : Heap} {i : Nat} {x : pq_C} (h : pq_I ad D w U H) (hE : pq_E ≤ i) (hj : ∀ i j, pq_E ≤ i → ad i = ad j → i = j) (z : H1.size = H.size) (o : ∀ q : Nat, q ≠ ad i → H1[q]? = H[q]?) (hx : pq_at ad D U H1 i x) : pq_I ad D (w.set i x) U H1 := by
  refine ⟨fun k => by rw [List.length_set, z]; exact h.1 k, ⟨by rw [List.length_set]; exact h.2.1.1, h.2.1.2.kept (fun a _ ha => o a (fun e => ha ⟨i, hE, e.symm⟩))⟩, fun j y hy => ?_⟩
  by_cases e : j = i
  · subst e
    rw [List.getElem?_set] at hy
    simp only [if_true] at hy
    split at hy
    · cases hy
      exact ⟨fun _ => hx, fun q => absurd hE (by omega)⟩
    · cases hy
  · rw [List.getElem?_set_ne (Ne.symm e)] at hy
    have hn : ad j ≠ ad i := fun q => e (hj i j hE q.symm).symm
    exact ⟨fun q => ((h.2.2 j y hy).1 q).kept (o _ hn), fun q => ((h.2.2 j y hy).2 q).kept (o _ hn)⟩
theorem pq_I.push {ad : Nat → Nat} {D : va_G} {w : pq_W} {U : State} {H H1 : Heap} {x : pq_C} (h : pq_I ad D w U H) (z : H1.size = H.size + 1) (o : ∀ q : Nat, q < H.size → H1[q]? = H[q]?) (hx : pq_at ad D U H1 w.length x) : pq_I ad D (w ++ [x]) U H1 := by
  refine ⟨fun k => ?_, ⟨by rw [List.length_append]; exact Nat.le_trans h.2.1.1 (Nat.le_add_right _ _), h.2.1.2.kept (fun a ha _ => o a ha)⟩, fun j y hy => ?_⟩
  · have := h.1 (1 + k)
    rw [List.length_append, List.length_singleton, z, Nat.add_assoc, this]
    omega
  · by_cases e : j < w.length
    · rw [List.getElem?_append_left e] at hy
      have hh := h.2.2 j y hy
      exact ⟨fun q => (hh.1 q).kept (o _ (hh.1 q).lt), fun q => (hh.2 q).kept (o _ (hh.2 q).lt)⟩
    · rw [List.getElem?_append_right (by omega)] at hy
      have hz : j - w.length < 1 := (List.getElem?_eq_some_iff.mp hy).1
      have e2 : j = w.length := by omega
      subst e2
      rw [Nat.sub_self] at hy
      cases hy
      exact ⟨fun _ => hx, fun q => absurd h.2.1.1 (by omega)⟩
theorem pq_I.next {ad : Nat → Nat} {D : va_G} {w : pq_W} {U : State} {H : Heap} (h : pq_I ad D w U H) : ad w.length = H.size := by
  have := h.1 0
  simpa using this
theorem pq_I.obj {ad : Nat → Nat} {D : va_G} {w : pq_W} {U : State} {H : Heap} {r ci : Nat} {fs : List Value} {q : vw_C} (h : pq_I ad D w U H) (hr : w[r]? = some (.inr (ci, fs))) (hc : pq_cl[ci]? = some q) : pq_at ad D U H r (.inr (ci, fs)) := by
  by_cases q : pq_E ≤ r
  · exact (h.2.2 r _ hr).1 q
  · obtain ⟨e, -⟩ := (h.2.2 r _ hr).2 (by omega)
    subst e
    cases hc
theorem pq_I.lng {ad : Nat → Nat} {D : va_G} {w : pq_W} {U : State} {H : Heap} {r n : Nat} {ty : FieldType} {f : Nat → Int64} (h : pq_I ad D w U H) (hr : w[r]? = some (.inl (ty, n, .inr f))) : pq_at ad D U H r (.inl (ty, n, .inr f)) := by
  by_cases q : pq_E ≤ r
  · exact (h.2.2 r _ hr).1 q
  · exact ((h.2.2 r _ hr).2 (by omega)).elim
/-- what a read needs of an array -/
theorem pq_I.rd {ad : Nat → Nat} {D : va_G} {w : pq_W} {U : State} {H : Heap} {r n : Nat} {ty : FieldType} {f : Nat → Int32} (h : pq_I ad D w U H) (hr : w[r]? = some (.inl (ty, n, .inl f))) : ∃ cell : Cell, H[ad r]? = some cell ∧ U.isArrayOf cell ty ∧ cell.vm ≠ .unknown ∧ (n ≤ cell.slots.size ∧ cell.slots.size.toInt32 = Int32.ofNat n) ∧ ∀ j, j < n → cell.slots[j]? = some (.int (f j)) := by
  by_cases q : pq_E ≤ r
  · obtain ⟨cA, h1, h2, -⟩ := (h.2.2 r _ hr).1 q
    exact ⟨_, h1, h2 n _, (fun q => by cases q), ⟨by rw [arrV_size]; exact Nat.le_refl _, by rw [arrV_size]⟩, fun j hj => arrV_read _ _ hj⟩
  · exact (h.2.2 r _ hr).2 (by omega)
def pq_Nt (ad : Nat → Nat) (U : State) : Prop := pq_Ns U ∧ vk_R "SkyFeesModel" 195 "wkamdl" (ad 3) U
/-- what a method's walk rests on -/
def pq_X (p : Program) (s : State) (m : MethodId) (args : Array Value) (meth : Method) (c : Code) (cc : ByteArray) (own : String) (nL : Nat) (ret : Option FieldType) (nm : String) (D : va_G) (ad : Nat → Nat) (h0 : Nat) : Prop :=
  p.tables.exec = Jvm.exec ∧ c.code = cc ∧ c.maxLocals = nL ∧ s.vm.findClass own = some m.cls ∧ (∀ w ∈ pq_gt, w.before args s = true) ∧ pq_Nt ad s ∧ va_K D pq_cl [] s ∧ meth.sig.returnType = ret ∧ meth.locks = false ∧ meth.name = nm ∧ (∀ i j, pq_E ≤ i → ad i = ad j → i = j) ∧ (∀ i, pq_E ≤ i → h0 ≤ ad i)
/-- the walk from a pure place -/
def pq_G (p : Program) (l : Launch) (e : Env) (R : Room) (s : State) (m : MethodId) (args : Array Value) (below : List Frame) (meth : Method) (c : Code) (Q : State → Prop) (nL : Nat) (D : va_G) (ad : Nat → Nat) (h0 : Nat) (pc : Nat) (ls : pq_L) (st : List Value) (w : pq_W) (cs ss : Nat) : Prop :=
  ∀ (H : Heap) (locs : List Loc) (lr : Array Slot), lv_has lr nL (pq_ls ad ls) → pq_I ad D w s H → va_S (fun q => h0 ≤ q) s.heap H locs → W p l e R s m args below meth c H locs cs ss Q (F0 m pc lr (st.map (pq_v ad)))
section PQ1
variable {p : Program} {l : Launch} {e : Env} {R : Room} {s : State} {m : MethodId} {args : Array Value} {below : List Frame} {meth : Method} {c : Code} {Q : State → Prop} {cc : ByteArray} {own : String} {nL : Nat} {ret : Option FieldType} {nm : String} {D : va_G} {ad : Nat → Nat} {h0 pc cs ss : Nat} {ls : pq_L} {st : List Value} {w : pq_W} {i : Instr}
theorem pg_push {v : Value} (X : pq_X p s m args meth c cc own nL ret nm D ad h0) (hd : decode cc pc = .ok (i, pq_il i)) (hp : pq_push i v = true) (hw : ∀ idx : Nat, (∀ x : Int32, (i = .ldc idx ∨ i = .ldc_w idx) → v = .int x → Cond.constant own idx x ∈ pq_gt) ∧ (∀ x : Int64, i = .ldc2_w idx → v = .long x → Cond.constantLong own idx x ∈ pq_gt))
    (k : pq_G p l e R s m args below meth c Q nL D ad h0 (pc + pq_il i) ls (v :: st) w cs ss) : pq_G p l e R s m args below meth c Q nL D ad h0 pc ls st w cs ss := by
  obtain ⟨hx, hb, hml, hown, hts, -⟩ := X
  intro H locs lr hl hI hS
  have k := k H locs lr hl hI hS
  cases i
  case iconst n =>
    have hp := of_decide_eq_true hp
    subst hp
    exact lv_iconst hx hb hd rfl k
  case bipush n =>
    have hp := of_decide_eq_true hp
    subst hp
    exact lv_bipush hx hb hd rfl k
  case sipush n =>
    have hp := of_decide_eq_true hp
    subst hp
    exact lv_sipush hx hb hd rfl k
  case lconst n =>
    have hp := of_decide_eq_true hp
    subst hp
    exact lv_lconst hx hb hd rfl k
  case ldc idx =>
    cases v
    case int x => exact lv_ldc hx hb hown (hts _ ((hw _).1 x (Or.inl rfl) rfl)) hd k
    all_goals cases hp
  case ldc_w idx =>
    cases v
    case int x => exact lv_ldcw hx hb hown (hts _ ((hw _).1 x (Or.inr rfl) rfl)) hd k
    all_goals cases hp
  case ldc2_w idx =>
    cases v
    case long x => exact lv_ldc2 hx hb hown (hts _ ((hw _).2 x rfl rfl)) hd k
    all_goals cases hp
  all_goals cases hp
theorem pg_iload {n : Nat} {x : Int32} (X : pq_X p s m args meth c cc own nL ret nm D ad h0) (hd : decode cc pc = .ok (i, pq_il i)) (hp : i = .iload n ∨ ∃ j : Fin 4, i = .iload_n j ∧ j.val = n) (hv : pq_lk ls n = some (.int x))
    (k : pq_G p l e R s m args below meth c Q nL D ad h0 (pc + pq_il i) ls (.int x :: st) w cs ss) : pq_G p l e R s m args below meth c Q nL D ad h0 pc ls st w cs ss := by
  obtain ⟨hx, hb, hml, hown, hts, -⟩ := X
  intro H locs lr hl hI hS
  have k := k H locs lr hl hI hS
  have hm := hl.2.2 _ (pq_ls_mem (ad := ad) hv)
  rcases hp with rfl | ⟨j, rfl, hj⟩
  · exact lv_iload hx hb hd hm k
  · exact lv_iload_n hx hb hd hj hm k
theorem pg_lload {n : Nat} {x : Int64} (X : pq_X p s m args meth c cc own nL ret nm D ad h0) (hd : decode cc pc = .ok (i, pq_il i)) (hp : i = .lload n ∨ ∃ j : Fin 4, i = .lload_n j ∧ j.val = n) (hv : pq_lk ls n = some (.long x))
    (k : pq_G p l e R s m args below meth c Q nL D ad h0 (pc + pq_il i) ls (.long x :: st) w cs ss) : pq_G p l e R s m args below meth c Q nL D ad h0 pc ls st w cs ss := by
  obtain ⟨hx, hb, hml, hown, hts, -⟩ := X
  intro H locs lr hl hI hS
  have k := k H locs lr hl hI hS
  have hm := hl.2.2 _ (pq_ls_mem (ad := ad) hv)
  rcases hp with rfl | ⟨j, rfl, hj⟩
  · exact lv_lload hx hb hd hm k
  · exact lv_lload_n hx hb hd hj hm k
theorem pg_aload {n : Nat} {x : Nat} (X : pq_X p s m args meth c cc own nL ret nm D ad h0) (hd : decode cc pc = .ok (i, pq_il i)) (hp : i = .aload n ∨ ∃ j : Fin 4, i = .aload_n j ∧ j.val = n) (hv : pq_lk ls n = some (.ref x))
    (k : pq_G p l e R s m args below meth c Q nL D ad h0 (pc + pq_il i) ls (.ref x :: st) w cs ss) : pq_G p l e R s m args below meth c Q nL D ad h0 pc ls st w cs ss := by
  obtain ⟨hx, hb, hml, hown, hts, -⟩ := X
  intro H locs lr hl hI hS
  have k := k H locs lr hl hI hS
  have hm := hl.2.2 _ (pq_ls_mem (ad := ad) hv)
  rcases hp with rfl | ⟨j, rfl, hj⟩
  · exact lv_aload hx hb hd hm k
  · exact lv_aload_n hx hb hd hj hm k
theorem pg_istore {n : Nat} {x : Int32} (X : pq_X p s m args meth c cc own nL ret nm D ad h0) (hd : decode cc pc = .ok (i, pq_il i)) (hp : i = .istore n ∨ ∃ j : Fin 4, i = .istore_n j ∧ j.val = n) (hn : n < nL)
    (k : pq_G p l e R s m args below meth c Q nL D ad h0 (pc + pq_il i) (pq_st1 ls n (.int x)) st w cs ss) : pq_G p l e R s m args below meth c Q nL D ad h0 pc ls (.int x :: st) w cs ss := by
  obtain ⟨hx, hb, hml, hown, hts, -⟩ := X
  intro H locs lr hl hI hS
  rcases hp with rfl | ⟨j, rfl, hj⟩
  · exact lv_istore hx hb hd hl hn (pq_ls_st1 ad ls n (.int x)) (fun lr hl => k H locs lr hl hI hS)
  · exact lv_istore_n hx hb hd hj hl hn (pq_ls_st1 ad ls n (.int x)) (fun lr hl => k H locs lr hl hI hS)
theorem pg_lstore {n : Nat} {x : Int64} (X : pq_X p s m args meth c cc own nL ret nm D ad h0) (hd : decode cc pc = .ok (i, pq_il i)) (hp : i = .lstore n ∨ ∃ j : Fin 4, i = .lstore_n j ∧ j.val = n) (hn : n + 1 < nL)
    (k : pq_G p l e R s m args below meth c Q nL D ad h0 (pc + pq_il i) (pq_st2 ls n (.long x)) st w cs ss) : pq_G p l e R s m args below meth c Q nL D ad h0 pc ls (.long x :: st) w cs ss := by
  obtain ⟨hx, hb, hml, hown, hts, -⟩ := X
  intro H locs lr hl hI hS
  rcases hp with rfl | ⟨j, rfl, hj⟩
  · exact lv_lstore hx hb hd hl hn (pq_ls_st2 ad ls n (.long x)) (fun lr hl => k H locs lr hl hI hS)
  · exact lv_lstore_n hx hb hd hj hl hn (pq_ls_st2 ad ls n (.long x)) (fun lr hl => k H locs lr hl hI hS)
theorem pg_astore {n : Nat} {x : Nat} (X : pq_X p s m args meth c cc own nL ret nm D ad h0) (hd : decode cc pc = .ok (i, pq_il i)) (hp : i = .astore n ∨ ∃ j : Fin 4, i = .astore_n j ∧ j.val = n) (hn : n < nL)
    (k : pq_G p l e R s m args below meth c Q nL D ad h0 (pc + pq_il i) (pq_st1 ls n (.ref x)) st w cs ss) : pq_G p l e R s m args below meth c Q nL D ad h0 pc ls (.ref x :: st) w cs ss := by
  obtain ⟨hx, hb, hml, hown, hts, -⟩ := X
  intro H locs lr hl hI hS
  rcases hp with rfl | ⟨j, rfl, hj⟩
  · exact lv_astore hx hb hd hl hn (pq_ls_st1 ad ls n (.ref x)) (fun lr hl => k H locs lr hl hI hS)
  · exact lv_astore_n hx hb hd hj hl hn (pq_ls_st1 ad ls n (.ref x)) (fun lr hl => k H locs lr hl hI hS)
theorem pg_iinc {n : Nat} {d : Int} {x y : Int32} (X : pq_X p s m args meth c cc own nL ret nm D ad h0) (hd : decode cc pc = .ok (.iinc n d, 3)) (hn : n < nL) (hv : pq_lk ls n = some (.int x)) (hy : Int32.ofInt d = y)
    (k : pq_G p l e R s m args below meth c Q nL D ad h0 (pc + 3) (pq_st1 ls n (.int (x + y))) st w cs ss) : pq_G p l e R s m args below meth c Q nL D ad h0 pc ls st w cs ss := by
  obtain ⟨hx, hb, hml, hown, hts, -⟩ := X
  intro H locs lr hl hI hS
  obtain ⟨t, ht⟩ := List.getElem?_of_mem (pq_ls_mem (ad := ad) hv)
  subst hy
  exact lv_iinc hx hb hd hl ht rfl hn (pq_ls_st1 ad ls n (.int (x + Int32.ofInt d))) (fun lr hl => k H locs lr hl hI hS)
theorem pg_bin {a b z : Value} (X : pq_X p s m args meth c cc own nL ret nm D ad h0) (hd : decode cc pc = .ok (i, pq_il i)) (hp : pq_bin i a b = some z)
    (k : pq_G p l e R s m args below meth c Q nL D ad h0 (pc + pq_il i) ls (z :: st) w cs ss) : pq_G p l e R s m args below meth c Q nL D ad h0 pc ls (b :: a :: st) w cs ss := by
  obtain ⟨hx, hb, hml, hown, hts, -⟩ := X
  intro H locs lr hl hI hS
  have k := k H locs lr hl hI hS
  cases a <;> cases b
  case int.int x y =>
    cases i
    case iadd => cases hp; exact lv_iadd hx hb hd k
    case isub => cases hp; exact lv_isub hx hb hd k
    case imul => cases hp; exact lv_imul hx hb hd k
    case iand => cases hp; exact lv_iand hx hb hd k
    case ior => cases hp; exact lv_ior hx hb hd k
    case ixor => cases hp; exact lv_ixor hx hb hd k
    case ishr => cases hp; exact lv_ishr hx hb hd k
    case idiv =>
      by_cases hy : y = 0
      · simp [pq_bin, hy] at hp
      · simp only [pq_bin, hy, if_false] at hp
        cases hp
        exact lv_idiv hx hb hd hy k
    case irem =>
      by_cases hy : y = 0
      · simp [pq_bin, hy] at hp
      · simp only [pq_bin, hy, if_false] at hp
        cases hp
        exact lv_irem hx hb hd hy k
    all_goals cases hp
  case long.long x y =>
    cases i
    case ladd => cases hp; exact lv_ladd hx hb hd k
    case lsub => cases hp; exact lv_lsub hx hb hd k
    case lmul => cases hp; exact lv_lmul hx hb hd k
    case land => cases hp; exact lv_land hx hb hd k
    case lor => cases hp; exact lv_lor hx hb hd k
    case lcmp => cases hp; exact W.lcmp hx hb hd k
    case ldiv =>
      by_cases hy : y = 0
      · simp [pq_bin, hy] at hp
      · simp only [pq_bin, hy, if_false] at hp
        cases hp
        exact lv_ldiv hx hb hd hy k
    case lrem =>
      by_cases hy : y = 0
      · simp [pq_bin, hy] at hp
      · simp only [pq_bin, hy, if_false] at hp
        cases hp
        exact lv_lrem hx hb hd hy k
    all_goals cases hp
  case long.int x y =>
    cases i
    case lshl => cases hp; exact lv_lshl hx hb hd rfl k
    case lshr => cases hp; exact lv_lshr hx hb hd rfl k
    case lushr => cases hp; exact lv_lushr hx hb hd rfl k
    all_goals cases hp
  all_goals cases hp
theorem pg_un {a z : Value} (X : pq_X p s m args meth c cc own nL ret nm D ad h0) (hd : decode cc pc = .ok (i, pq_il i)) (hp : pq_un i a = some z)
    (k : pq_G p l e R s m args below meth c Q nL D ad h0 (pc + pq_il i) ls (z :: st) w cs ss) : pq_G p l e R s m args below meth c Q nL D ad h0 pc ls (a :: st) w cs ss := by
  obtain ⟨hx, hb, hml, hown, hts, -⟩ := X
  intro H locs lr hl hI hS
  have k := k H locs lr hl hI hS
  cases a
  case int x =>
    cases i
    case ineg => cases hp; exact lv_ineg hx hb hd k
    case i2l => cases hp; exact lv_i2l hx hb hd rfl k
    case i2b => cases hp; exact lv_i2b hx hb hd rfl k
    case i2s => cases hp; exact lv_i2s hx hb hd rfl k
    all_goals cases hp
  case long x =>
    cases i
    case l2i => cases hp; exact lv_l2i hx hb hd rfl k
    all_goals cases hp
  all_goals cases hp
theorem pg_dup {a : Value} (X : pq_X p s m args meth c cc own nL ret nm D ad h0) (hd : decode cc pc = .ok (.dup, 1)) (hc : a.category = 1)
    (k : pq_G p l e R s m args below meth c Q nL D ad h0 (pc + 1) ls (a :: a :: st) w cs ss) : pq_G p l e R s m args below meth c Q nL D ad h0 pc ls (a :: st) w cs ss := by
  obtain ⟨hx, hb, hml, hown, hts, -⟩ := X
  intro H locs lr hl hI hS
  exact lv_dup hx hb hd (by rw [pq_v_cat]; exact hc) (k H locs lr hl hI hS)
theorem pg_pop {a : Value} (X : pq_X p s m args meth c cc own nL ret nm D ad h0) (hd : decode cc pc = .ok (.pop, 1)) (hc : a.category = 1)
    (k : pq_G p l e R s m args below meth c Q nL D ad h0 (pc + 1) ls st w cs ss) : pq_G p l e R s m args below meth c Q nL D ad h0 pc ls (a :: st) w cs ss := by
  obtain ⟨hx, hb, hml, hown, hts, -⟩ := X
  intro H locs lr hl hI hS
  exact lv_pop hx hb hd (by rw [pq_v_cat]; exact hc) (k H locs lr hl hI hS)
theorem pg_dup2 {a b : Value} (X : pq_X p s m args meth c cc own nL ret nm D ad h0) (hd : decode cc pc = .ok (.dup2, 1)) (hc : a.category = 1) (hc2 : b.category = 1)
    (k : pq_G p l e R s m args below meth c Q nL D ad h0 (pc + 1) ls (a :: b :: a :: b :: st) w cs ss) : pq_G p l e R s m args below meth c Q nL D ad h0 pc ls (a :: b :: st) w cs ss := by
  obtain ⟨hx, hb, hml, hown, hts, -⟩ := X
  intro H locs lr hl hI hS
  exact lv_dup2_11 hx hb hd (by rw [pq_v_cat]; exact hc) (by rw [pq_v_cat]; exact hc2) (k H locs lr hl hI hS)
theorem pg_if {x : Int32} {cd : Jvm.ClassFile.Cond} {off : Int} {tgt : Nat} (X : pq_X p s m args meth c cc own nL ret nm D ad h0) (hd : decode cc pc = .ok (.ifCond cd off, 3)) (ht : (pc : Int) + off = (tgt : Int))
    (k1 : pq_br cd x 0 = true → pq_G p l e R s m args below meth c Q nL D ad h0 tgt ls st w cs ss) (k2 : pq_br cd x 0 = false → pq_G p l e R s m args below meth c Q nL D ad h0 (pc + 3) ls st w cs ss) : pq_G p l e R s m args below meth c Q nL D ad h0 pc ls (.int x :: st) w cs ss := by
  obtain ⟨hx, hb, hml, hown, hts, -⟩ := X
  intro H locs lr hl hI hS
  cases cd
  case eq => exact lv_if_eq hx hb hd ht (fun h => k1 (decide_eq_true h) H locs lr hl hI hS) (fun h => k2 (decide_eq_false h) H locs lr hl hI hS)
  case ne => exact lv_if_ne hx hb hd ht (fun h => k1 (decide_eq_true h) H locs lr hl hI hS) (fun h => k2 (decide_eq_false (fun z => z h)) H locs lr hl hI hS)
  case lt => exact lv_if_lt hx hb hd ht (fun h => k1 (decide_eq_true h) H locs lr hl hI hS) (fun h => k2 (decide_eq_false h) H locs lr hl hI hS)
  case ge => exact lv_if_ge hx hb hd ht (fun h => k1 (decide_eq_true h) H locs lr hl hI hS) (fun h => k2 (decide_eq_false h) H locs lr hl hI hS)
  case gt => exact lv_if_gt hx hb hd ht (fun h => k1 (decide_eq_true h) H locs lr hl hI hS) (fun h => k2 (decide_eq_false h) H locs lr hl hI hS)
  case le => exact lv_if_le hx hb hd ht (fun h => k1 (decide_eq_true h) H locs lr hl hI hS) (fun h => k2 (decide_eq_false h) H locs lr hl hI hS)
theorem pg_icmp {x y : Int32} {cd : Jvm.ClassFile.Cond} {off : Int} {tgt : Nat} (X : pq_X p s m args meth c cc own nL ret nm D ad h0) (hd : decode cc pc = .ok (.if_icmp cd off, 3)) (ht : (pc : Int) + off = (tgt : Int))
    (k1 : pq_br cd x y = true → pq_G p l e R s m args below meth c Q nL D ad h0 tgt ls st w cs ss) (k2 : pq_br cd x y = false → pq_G p l e R s m args below meth c Q nL D ad h0 (pc + 3) ls st w cs ss) : pq_G p l e R s m args below meth c Q nL D ad h0 pc ls (.int y :: .int x :: st) w cs ss := by
  obtain ⟨hx, hb, hml, hown, hts, -⟩ := X
  intro H locs lr hl hI hS
  cases cd
  case eq => exact lv_icmp_eq hx hb hd ht (fun h => k1 (decide_eq_true h) H locs lr hl hI hS) (fun h => k2 (decide_eq_false h) H locs lr hl hI hS)
  case ne => exact lv_icmp_ne hx hb hd ht (fun h => k1 (decide_eq_true h) H locs lr hl hI hS) (fun h => k2 (decide_eq_false (fun z => z h)) H locs lr hl hI hS)
  case lt => exact lv_icmp_lt hx hb hd ht (fun h => k1 (decide_eq_true h) H locs lr hl hI hS) (fun h => k2 (decide_eq_false h) H locs lr hl hI hS)
  case ge => exact lv_icmp_ge hx hb hd ht (fun h => k1 (decide_eq_true h) H locs lr hl hI hS) (fun h => k2 (decide_eq_false h) H locs lr hl hI hS)
  case gt => exact lv_icmp_gt hx hb hd ht (fun h => k1 (decide_eq_true h) H locs lr hl hI hS) (fun h => k2 (decide_eq_false h) H locs lr hl hI hS)
  case le => exact lv_icmp_le hx hb hd ht (fun h => k1 (decide_eq_true h) H locs lr hl hI hS) (fun h => k2 (decide_eq_false h) H locs lr hl hI hS)
theorem pg_goto {off : Int} {tgt : Nat} (X : pq_X p s m args meth c cc own nL ret nm D ad h0) (hd : decode cc pc = .ok (.goto off, 3)) (ht : (pc : Int) + off = (tgt : Int))
    (k : pq_G p l e R s m args below meth c Q nL D ad h0 tgt ls st w cs ss) : pq_G p l e R s m args below meth c Q nL D ad h0 pc ls st w cs ss := by
  obtain ⟨hx, hb, hml, hown, hts, -⟩ := X
  intro H locs lr hl hI hS
  exact lv_goto hx hb hd ht (k H locs lr hl hI hS)
end PQ1
end
section
section PQ2
variable {p : Program} {l : Launch} {e : Env} {R : Room} {s : State} {m : MethodId} {args : Array Value} {below : List Frame} {meth : Method} {c : Code} {Q : State → Prop} {cc : ByteArray} {own : String} {nL : Nat} {ret : Option FieldType} {nm : String} {D : va_G} {ad : Nat → Nat} {h0 pc cs ss : Nat} {ls : pq_L} {st : List Value} {w : pq_W} {i : Instr}
theorem pg_tsw {x : Int32} {dflt lo hi : Int} {offs : Array Int} {len tgt : Nat} {off : Int} (X : pq_X p s m args meth c cc own nL ret nm D ad h0) (hd : decode cc pc = .ok (.tableswitch dflt lo hi offs, len)) (ho : (x.toInt < lo ∨ hi < x.toInt) ∧ off = dflt ∨ ¬ (x.toInt < lo ∨ hi < x.toInt) ∧ offs[(x.toInt - lo).toNat]? = some off) (ht : (pc : Int) + off = (tgt : Int))
    (k : pq_G p l e R s m args below meth c Q nL D ad h0 tgt ls st w cs ss) : pq_G p l e R s m args below meth c Q nL D ad h0 pc ls (.int x :: st) w cs ss := by
  obtain ⟨hx, hb, hml, hown, hts, -⟩ := X
  intro H locs lr hl hI hS
  rcases ho with ⟨h, rfl⟩ | ⟨h, h2⟩
  · exact lv_tableOut hx hb hd h ht (k H locs lr hl hI hS)
  · exact lv_tableIn hx hb hd (fun z => h (Or.inl z)) (fun z => h (Or.inr z)) h2 ht (k H locs lr hl hI hS)
theorem pg_lsw {x : Int32} {dflt : Int} {ps : Array (Int × Int)} {len tgt : Nat} (X : pq_X p s m args meth c cc own nL ret nm D ad h0) (hd : decode cc pc = .ok (.lookupswitch dflt ps, len)) (hp : (ps.toList.zip (ps.toList.drop 1)).all (fun (a, next) => a.1 < next.1) = true) (ht : (pc : Int) + Op.lookupswitch.offset ps.toList dflt x.toInt = (tgt : Int))
    (k : pq_G p l e R s m args below meth c Q nL D ad h0 tgt ls st w cs ss) : pq_G p l e R s m args below meth c Q nL D ad h0 pc ls (.int x :: st) w cs ss := by
  obtain ⟨hx, hb, hml, hown, hts, -⟩ := X
  intro H locs lr hl hI hS
  exact lv_lookup hx hb hd hp rfl ht (k H locs lr hl hI hS)
/-- a static field: our own, a nest mate's, a text -/
theorem pg_gets {C n d : String} {idx : Nat} {v : Value} (X : pq_X p s m args meth c cc own nL ret nm D ad h0) (hd : decode cc pc = .ok (.getstatic idx, 3)) (hv : ∀ H, pq_St ad s H → va_Z C n d (pq_v ad v) (pq_wr ad) s H) (hl : Cond.fieldLink own idx C n d ∈ pq_gt ∨ Cond.fieldLinkNest own idx C n d "SkyFees" ∈ lw_tbl)
    (k : pq_G p l e R s m args below meth c Q nL D ad h0 (pc + 3) ls (v :: st) w cs ss) : pq_G p l e R s m args below meth c Q nL D ad h0 pc ls st w cs ss := by
  obtain ⟨hx, hb, hml, hown, hts, hN, hK, -⟩ := X
  intro H locs lr hlr hI hS
  have k := k H locs lr hlr hI hS
  obtain ⟨cf, kf, fi, f, a, cell, h1, h2, h3, h4, h5, h6, h7, h8⟩ := hv H hI.2.1.2
  rcases hl with hl | hl
  · exact W.gets hx hb hown (hts _ hl) h1 h2 h3 h4 h5 (fun e => by rw [e] at h6; cases h6) h7 rfl hd k
  · exact va_WgetsN hx hb hown (va_Nw.use rfl (hN.1 _ hl rfl)) h1 h2 h3 h4 h5 (fun e => by rw [e] at h6; cases h6) h7 rfl hd k
theorem pg_ldcS {idx : Nat} (X : pq_X p s m args meth c cc "SkyFeesModel" nL ret nm D ad h0) (hd : decode cc pc = .ok (.ldc idx, 2)) (hi : idx = 195)
    (k : pq_G p l e R s m args below meth c Q nL D ad h0 (pc + 2) ls (.ref 3 :: st) w cs ss) : pq_G p l e R s m args below meth c Q nL D ad h0 pc ls st w cs ss := by
  obtain ⟨hx, hb, hml, hown, hts, hN, hK, -⟩ := X
  intro H locs lr hlr hI hS
  subst hi
  exact va_ldcS hx hb hown hN.2 hd (k H locs lr hlr hI hS)
/-- the text's fields -/
theorem pg_strf {idx : Nat} {n d : String} {v : Value} (X : pq_X p s m args meth c cc own nL ret nm D ad h0) (hd : decode cc pc = .ok (.getfield idx, 3)) (hl : Cond.fieldLink own idx "java/lang/String" n d ∈ pq_gt) (hw : ∀ H, pq_I ad D w s H → va_OF "java/lang/String" n d (pq_v ad v) (ad 3) (pq_wr ad) s H)
    (k : pq_G p l e R s m args below meth c Q nL D ad h0 (pc + 3) ls (v :: st) w cs ss) : pq_G p l e R s m args below meth c Q nL D ad h0 pc ls (.ref 3 :: st) w cs ss := by
  obtain ⟨hx, hb, hml, hown, hts, hN, hK, -⟩ := X
  intro H locs lr hlr hI hS
  have k := k H locs lr hlr hI hS
  obtain ⟨cf, kf, fi, f, cell, h1, h2, h3, h4, h5, h6⟩ := hw H hI
  exact W.getf hx hb hown (hts _ hl) h1 h2 h3 h4 (v := pq_v ad v) h5 rfl rfl hd k
theorem pg_get {ci kf idx r : Nat} {C : String} {T : u_T} {N : Nat} {fs : List Value} {z : Value} (X : pq_X p s m args meth c cc own nL ret nm D ad h0) (hd : decode cc pc = .ok (.getfield idx, 3)) (hc : pq_cl[ci]? = some (C, T, N)) (hin : ∀ w ∈ u_ws C T N, w ∈ pq_gt) (hk : kf < N) (hdc : (T kf).1 = C) (hlink : Cond.fieldLink own idx C (T kf).2.1 (T kf).2.2.1 ∈ pq_gt) (hr : w[r]? = some (.inr (ci, fs))) (hz : fs[kf]? = some z)
    (k : pq_G p l e R s m args below meth c Q nL D ad h0 (pc + 3) ls (z :: st) w cs ss) : pq_G p l e R s m args below meth c Q nL D ad h0 pc ls (.ref r :: st) w cs ss := by
  obtain ⟨hx, hb, hml, hown, hts, -, hK, -⟩ := X
  intro H locs lr hl hI hS
  have hP : va_P D pq_cl [(ad r, .inr (ci, fs.map (pq_v ad)))] H := by
    intro j q hj
    have hz : j < 1 := (List.getElem?_eq_some_iff.mp hj).1
    rw [show j = 0 by omega] at hj
    cases hj
    exact hI.obj hr hc
  exact va_get hx hb hts hin hown hK hP 0 rfl hc kf hk (hts _ hlink) (fun x h => by rw [← hdc]; exact h) (by rw [List.getElem?_map, hz]; rfl) hd (k H locs lr hl hI hS)
theorem pq_ald_arr {r : Nat} {ty : FieldType} {n : Nat} {f : Nat → Int32} {H : Heap} (hI : pq_I ad D w s H) (hE : pq_E ≤ r) (hr : w[r]? = some (.inl (ty, n, .inl f))) : ∃ cA : ClassId, H[ad r]? = some (arrV cA n (fun j => .int (f j))) ∧ ArrOfT s cA ty ∧ ∀ j, fits ty (.int (f j)) = true := (hI.2.2 r _ hr).1 hE
theorem pq_ald_arrL {r : Nat} {ty : FieldType} {n : Nat} {f : Nat → Int64} {H : Heap} (hI : pq_I ad D w s H) (hr : w[r]? = some (.inl (ty, n, .inr f))) : ∃ cA : ClassId, H[ad r]? = some (arrV cA n (fun j => .long (f j))) ∧ ArrOfT s cA ty := hI.lng hr
theorem pq_in_n {i : Int32} {n : Nat} (h : pq_in i n = true) : ¬ (i < 0 ∨ n ≤ i.toNatClampNeg) := of_decide_eq_true h
theorem pg_ald {t r : Nat} {x : Int32} {cl0 : pq_C} {z : Value} (X : pq_X p s m args meth c cc own nL ret nm D ad h0) (hd : decode cc pc = .ok (i, 1)) (hi : (t = 0 ∧ i = .iaload) ∨ (t = 1 ∧ i = .laload) ∨ (t = 2 ∧ i = .baload)) (hr : w[r]? = some cl0) (hz : pq_ald cl0 x t = some z)
    (k : pq_G p l e R s m args below meth c Q nL D ad h0 (pc + 1) ls (z :: st) w cs ss) : pq_G p l e R s m args below meth c Q nL D ad h0 pc ls (.int x :: .ref r :: st) w cs ss := by
  obtain ⟨hx, hb, hml, hown, hts, -⟩ := X
  intro H locs lr hl hI hS
  have k := k H locs lr hl hI hS
  match cl0, hr, hz with
  | .inl (ty, n, .inl f), hr, hz =>
    obtain ⟨cell, h1, h2, h3, h4, h5⟩ := hI.rd hr
    rcases hi with ⟨rfl, rfl⟩ | ⟨rfl, rfl⟩ | ⟨rfl, rfl⟩
    · simp only [pq_ald] at hz
      split at hz
      · rename_i hh
        obtain ⟨rfl, hin⟩ := hh
        cases hz
        have hin := pq_in_n hin
        have hlt : x.toNatClampNeg < n := Nat.not_le.mp fun q => hin (Or.inr q)
        exact W.iald (v := .int (f x.toNatClampNeg)) hx hb h1 h2 h3 (fun q => hin (q.imp id (Nat.le_trans h4.1))) (h5 _ hlt) rfl rfl hd k
      · cases hz
    · cases hz
    · simp only [pq_ald] at hz
      split at hz
      · rename_i hh
        obtain ⟨hty, hin⟩ := hh
        cases hz
        have hin := pq_in_n hin
        have hlt : x.toNatClampNeg < n := Nat.not_le.mp fun q => hin (Or.inr q)
        rcases hty with rfl | rfl
        · exact W.bald (v := .int (f x.toNatClampNeg)) hx hb h1 h2 h3 (fun q => hin (q.imp id (Nat.le_trans h4.1))) (h5 _ hlt) rfl rfl hd k
        · exact W.zald (v := .int (f x.toNatClampNeg)) hx hb h1 h2 h3 (fun q => hin (q.imp id (Nat.le_trans h4.1))) (h5 _ hlt) rfl rfl hd k
      · cases hz
  | .inl (ty, n, .inr f), hr, hz =>
    obtain ⟨cA, h1, h2⟩ := pq_ald_arrL hI hr
    rcases hi with ⟨rfl, rfl⟩ | ⟨rfl, rfl⟩ | ⟨rfl, rfl⟩
    · cases hz
    · simp only [pq_ald] at hz
      split at hz
      · rename_i hh
        obtain ⟨rfl, hin⟩ := hh
        cases hz
        have hin := pq_in_n hin
        have hlt : x.toNatClampNeg < n := Nat.not_le.mp fun q => hin (Or.inr q)
        exact W.lald (v := .long (f x.toNatClampNeg)) hx hb h1 (h2 n _) (fun q => by cases q) (by rw [arrV_size]; exact hin) (by rw [arrV_read _ _ hlt]) rfl rfl hd k
      · cases hz
    · cases hz
  | .inr (ci, fs), hr, hz => cases hz
theorem pg_alen {r n : Nat} {cl0 : pq_C} (X : pq_X p s m args meth c cc own nL ret nm D ad h0) (hd : decode cc pc = .ok (.arraylength, 1)) (hr : w[r]? = some cl0) (hz : pq_alen cl0 = some n)
    (k : pq_G p l e R s m args below meth c Q nL D ad h0 (pc + 1) ls (.int (Int32.ofNat n) :: st) w cs ss) : pq_G p l e R s m args below meth c Q nL D ad h0 pc ls (.ref r :: st) w cs ss := by
  obtain ⟨hx, hb, hml, hown, hts, -⟩ := X
  intro H locs lr hl hI hS
  have k := k H locs lr hl hI hS
  match cl0, hr, hz with
  | .inl (ty, n, .inl f), hr, hz =>
    obtain ⟨cell, h1, h2, h3, h4, h5⟩ := hI.rd hr
    cases hz
    exact W.alen hx hb h1 h2 h4.2 rfl rfl hd k
  | .inl (ty, n, .inr f), hr, hz =>
    obtain ⟨cA, h1, h2⟩ := pq_ald_arrL hI hr
    cases hz
    exact W.alen hx hb h1 (h2 n _) (by rw [arrV_size]) rfl rfl hd k
  | .inr (ci, fs), hr, hz => cases hz
theorem pq_upd_f (f : Nat → Int32) (j : Nat) (y : Int32) : updV (fun q => .int (f q)) j (.int y) = fun q => Value.int (upd f j y q) := by
  funext q
  by_cases h : q = j <;> simp [updV, upd, h]
theorem pq_upd_l (f : Nat → Int64) (j : Nat) (y : Int64) : updV (fun q => .long (f q)) j (.long y) = fun q => Value.long (vp_updL f j y q) := by
  funext q
  by_cases h : q = j <;> simp [updV, vp_updL, h]
theorem pq_fit_upd {ty : FieldType} {f : Nat → Int32} {k : Nat} {y : Int32} (h : ∀ j, fits ty (.int (f j)) = true) (hy : fits ty (.int y) = true) : ∀ j, fits ty (.int (upd f k y j)) = true := by
  intro j
  by_cases e : j = k
  · simp [upd, e, hy]
  · simp [upd, e, h j]
theorem pq_fit_byte (y : Int32) : fits .byte (.int (vp_nar .byte y)) = true := by
  rw [vp_nar_byte]
  exact pk_fb y
theorem pq_fit_bool (y : Int32) : fits .boolean (.int (vp_nar .boolean y)) = true := by
  have h : vp_nar .boolean y = y &&& 1 := rfl
  rw [h]
  obtain ⟨j, hj, e⟩ := pk_andE y (m := 1) 1 (by decide +kernel)
  rw [e]
  rcases (show j = 0 ∨ j = 1 by omega) with rfl | rfl <;> decide +kernel
theorem pg_ast {t r : Nat} {x : Int32} {cl0 cl1 : pq_C} {z : Value} (X : pq_X p s m args meth c cc own nL ret nm D ad h0) (hd : decode cc pc = .ok (i, 1)) (hi : (t = 0 ∧ i = .iastore) ∨ (t = 1 ∧ i = .lastore) ∨ (t = 2 ∧ i = .bastore)) (hr : w[r]? = some cl0) (hz : pq_ast cl0 x z t = some cl1) (hE : pq_E ≤ r)
    (k : pq_G p l e R s m args below meth c Q nL D ad h0 (pc + 1) ls st (w.set r cl1) cs ss) : pq_G p l e R s m args below meth c Q nL D ad h0 pc ls (z :: .int x :: .ref r :: st) w cs ss := by
  obtain ⟨hx, hb, hml, hown, hts, -, hK, -, -, -, hj, ho⟩ := X
  intro H locs lr hl hI hS
  match cl0, z, hr, hz with
  | .inl (ty, n, .inl f), .int y, hr, hz =>
    obtain ⟨cA, h1, h2, h3⟩ := pq_ald_arr hI hE hr
    rcases hi with ⟨rfl, rfl⟩ | ⟨rfl, rfl⟩ | ⟨rfl, rfl⟩
    · simp only [pq_ast] at hz
      split at hz
      · rename_i hh
        obtain ⟨rfl, hin⟩ := hh
        cases hz
        have hin := pq_in_n hin
        refine W.iast hx hb h1 (h2 n _) (fun q => by cases q) (by rw [arrV_size]; exact hin) rfl rfl hd fun H1 e1 z1 o1 => ?_
        rw [arrV_store, pq_upd_f] at e1
        exact k H1 _ lr hl (hI.set hE hj z1 o1 ⟨cA, e1, h2, pq_fit_upd h3 rfl⟩) (hS.put z1 o1 (ho r hE))
      · cases hz
    · cases hz
    · simp only [pq_ast] at hz
      split at hz
      · rename_i hh
        obtain ⟨hty, hin⟩ := hh
        cases hz
        have hin := pq_in_n hin
        rcases hty with rfl | rfl
        · refine W.bast hx hb h1 (h2 n _) (fun q => by cases q) (by rw [arrV_size]; exact hin) rfl rfl hd fun H1 e1 z1 o1 => ?_
          rw [arrV_store, show narrow .byte (.int y) = .int (vp_nar .byte y) from rfl, pq_upd_f] at e1
          exact k H1 _ lr hl (hI.set hE hj z1 o1 ⟨cA, e1, h2, pq_fit_upd h3 (pq_fit_byte y)⟩) (hS.put z1 o1 (ho r hE))
        · refine W.zast hx hb h1 (h2 n _) (fun q => by cases q) (by rw [arrV_size]; exact hin) rfl rfl hd fun H1 e1 z1 o1 => ?_
          rw [arrV_store, show narrow .boolean (.int y) = .int (vp_nar .boolean y) from rfl, pq_upd_f] at e1
          exact k H1 _ lr hl (hI.set hE hj z1 o1 ⟨cA, e1, h2, pq_fit_upd h3 (pq_fit_bool y)⟩) (hS.put z1 o1 (ho r hE))
      · cases hz
  | .inl (ty, n, .inr f), .long y, hr, hz =>
    obtain ⟨cA, h1, h2⟩ := pq_ald_arrL hI hr
    rcases hi with ⟨rfl, rfl⟩ | ⟨rfl, rfl⟩ | ⟨rfl, rfl⟩
    · cases hz
    · simp only [pq_ast] at hz
      split at hz
      · rename_i hh
        obtain ⟨rfl, hin⟩ := hh
        cases hz
        have hin := pq_in_n hin
        refine W.last hx hb h1 (h2 n _) (fun q => by cases q) (by rw [arrV_size]; exact hin) rfl rfl hd fun H1 e1 z1 o1 => ?_
        rw [arrV_store, pq_upd_l] at e1
        exact k H1 _ lr hl (hI.set hE hj z1 o1 ⟨cA, e1, h2⟩) (hS.put z1 o1 (ho r hE))
      · cases hz
    · cases hz
/-- the words of a field's sort -/
def pq_sort (d : String) : Nat := match parseFieldDescriptor d with
  | some .int => 0
  | some .long => 1
  | some .boolean => 2
  | some (.object _) => 3
  | some (.array _) => 3
  | _ => 9
theorem pq_fit_ok {d : String} {v : Value} (h : pq_fit (pq_sort d) v = true) : ∃ ty : FieldType, parseFieldDescriptor d = some ty ∧ narrow ty (pq_v ad v) = pq_v ad v ∧ fits ty (pq_v ad v) = true := by
  unfold pq_sort at h
  cases hd : parseFieldDescriptor d with
  | none =>
    rw [hd] at h
    cases v <;> simp [pq_fit] at h
  | some ty =>
    rw [hd] at h
    refine ⟨ty, rfl, ?_⟩
    cases ty
    case int => cases v <;> first | exact ⟨rfl, rfl⟩ | (simp [pq_fit] at h; done)
    case long => cases v <;> first | exact ⟨rfl, rfl⟩ | (simp [pq_fit] at h; done)
    case boolean =>
      cases v
      case int x =>
        have h : x = 0 ∨ x = 1 := of_decide_eq_true h
        rcases h with rfl | rfl
        · exact show narrow .boolean (.int 0) = .int 0 ∧ fits .boolean (.int 0) = true by decide +kernel
        · exact show narrow .boolean (.int 1) = .int 1 ∧ fits .boolean (.int 1) = true by decide +kernel
      all_goals (simp [pq_fit] at h; done)
    case object o => cases v <;> first | exact ⟨rfl, rfl⟩ | (simp [pq_fit] at h; done)
    case array o => cases v <;> first | exact ⟨rfl, rfl⟩ | (simp [pq_fit] at h; done)
    all_goals (cases v <;> simp [pq_fit] at h)
end PQ2
end
section
section PQ3
variable {p : Program} {l : Launch} {e : Env} {R : Room} {s : State} {m : MethodId} {args : Array Value} {below : List Frame} {meth : Method} {c : Code} {Q : State → Prop} {cc : ByteArray} {own : String} {nL : Nat} {ret : Option FieldType} {nm : String} {D : va_G} {ad : Nat → Nat} {h0 pc cs ss : Nat} {ls : pq_L} {st : List Value} {w : pq_W} {i : Instr}
theorem pq_setV (ad : Nat → Nat) (fs : List Value) (kf : Nat) (z : Value) (hk : kf < fs.length) (j : Nat) : updV (vp_V (fs.map (pq_v ad))) kf (pq_v ad z) j = vp_V ((fs.set kf z).map (pq_v ad)) j := by
  rw [List.map_set]
  exact vp_updV_set (by rw [List.length_map]; exact hk) (pq_v ad z) j
theorem pg_put {ci kf idx r : Nat} {C : String} {T : u_T} {N : Nat} {fs : List Value} {z : Value} (ty0 : Nat → FieldType) (X : pq_X p s m args meth c cc own nL ret nm D ad h0) (hd : decode cc pc = .ok (.putfield idx, 3)) (hc : pq_cl[ci]? = some (C, T, N)) (hin : ∀ w ∈ u_ws C T N, w ∈ pq_gt) (hty : ∀ k, k < N → parseFieldDescriptor (T k).2.2.1 = some (ty0 k)) (hnm : ∀ a, a < N → ∀ b, b < N → a ≠ b → (T a).2.1 ≠ (T b).2.1) (hk : kf < N) (hdc : (T kf).1 = C) (hlink : Cond.fieldLink own idx C (T kf).2.1 (T kf).2.2.1 ∈ pq_gt) (hfin : (T kf).2.2.2 = false ∨ (nm = "<init>" ∧ C = own)) (hfit : pq_fit (pq_sort (T kf).2.2.1) z = true) (hr : w[r]? = some (.inr (ci, fs))) (hlen : kf < fs.length) (hE : pq_E ≤ r)
    (k : pq_G p l e R s m args below meth c Q nL D ad h0 (pc + 3) ls st (w.set r (.inr (ci, fs.set kf z))) cs ss) : pq_G p l e R s m args below meth c Q nL D ad h0 pc ls (z :: .ref r :: st) w cs ss := by
  obtain ⟨hx, hb, hml, hown, hts, -, hK, -, -, hnm1, hj, ho⟩ := X
  intro H locs lr hl hI hS
  obtain ⟨ty, hd1, hn, hf⟩ := pq_fit_ok (ad := ad) hfit
  have hap := va_apart (own := own) hts hin ty0 hty hnm hK hc
  obtain ⟨r1, h1, cell, q1, q2, q3, q4⟩ := hI.obj hr hc
  have hr1 : r1 = (C, T, N) := Option.some.inj (h1.symm.trans hc)
  subst hr1
  obtain ⟨hSl, hfc, kC, hkC, hkind⟩ := hK.1 ci _ hc
  obtain ⟨cf, kf1, fi, f, hi, hsl⟩ := hSl kf hk
  have hst := (u_facts hfc hkC (u_lays hts hin hk) hi).1
  have hi2 : s.fieldFound? C (T kf).2.1 (T kf).2.2.1 = some (cf, kf1, fi, f) := by rw [← hdc]; exact hi
  have hlay := hts _ (hin _ (u_in_lay hk))
  unfold u_lay at hlay
  have fin : ∀ (H1 : Heap) (locs1 : List Loc), H1[ad r]? = some (cell.setSlot f.slot (pq_v ad z)) → H1.size = H.size → (∀ q, q ≠ ad r → H1[q]? = H[q]?) → locs1 = locs ++ [⟨ad r, f.slot⟩] → W p l e R s m args below meth c H1 locs1 cs ss Q (F0 m (pc + 3) lr (st.map (pq_v ad))) := by
    intro H1 locs1 e1 e2 e3 e4
    subst e4
    rw [hsl] at e1
    refine k H1 _ lr hl (hI.set hE hj e2 e3 ⟨_, hc, t_OB.to (V := updV (vp_V (fs.map (pq_v ad))) kf (pq_v ad z)) ⟨_, e1, q2, q3, t_set q4 hap hk (pq_v ad z)⟩ (fun j _ => pq_setV ad fs kf z hlen j)⟩) (hS.put e2 e3 (ho r hE))
  by_cases hf2 : (T kf).2.2.2 = true
  · rw [if_pos hf2] at hlay
    have hfin : nm = "<init>" ∧ C = own := hfin.resolve_left (by rw [hf2]; decide)
    have hcf : m.cls = cf := by
      obtain ⟨_, _, c', _, _, _, -, -, hf', -, -, -, hown2, -⟩ := Cond.laysFinal_spec hlay
      have e1 : c' = cf := by have := hi.symm.trans hf'; simp at this; exact this.1.symm
      rw [hdc, hfin.2] at hown2
      rw [← e1]; exact Option.some.inj (hown.symm.trans hown2)
    have h6 := u_fits hfc hkC hkind (Or.inr hlay) hi hd1 hn hf
    exact W.putFinK hx hb hown (hts _ hlink) hi2 hst hcf (by rw [hnm1]; exact hfin.1) (by rw [q2]; exact h6) q1 q3 (by rw [hsl]; exact k2_hasslot (q4 kf hk)) rfl rfl hd fun H1 e1 e2 e3 => fin H1 _ e1 e2 e3 rfl
  · rw [if_neg hf2] at hlay
    have h6 := u_store hfc hkC hkind hlay hi hd1 hn hf
    exact W.putK hx hb (f := f) ⟨hown, hts _ hlink, ⟨_, _, _, hi2⟩, hst⟩ (by rw [q2]; exact h6) q1 q3 (by rw [hsl]; exact k2_hasslot (q4 kf hk)) rfl rfl hd fun H1 e1 e2 e3 => fin H1 _ e1 e2 e3 rfl
theorem pg_new {ci idx : Nat} {C : String} {T : u_T} {N : Nat} {fs : List Value} (ty0 : Nat → FieldType) (X : pq_X p s m args meth c cc own nL ret nm D ad h0) (hd : decode cc pc = .ok (.new idx, 3)) (hc : pq_cl[ci]? = some (C, T, N)) (hin : ∀ w ∈ u_ws C T N, w ∈ pq_gt) (hty : ∀ k, k < N → parseFieldDescriptor (T k).2.2.1 = some (ty0 k)) (hlink : Cond.classLink own idx C ∈ pq_gt) (hinst : Cond.instantiable C N ∈ pq_gt) (hini : Cond.initialized C ∈ pq_gt) (hfs : ∀ j, j < N → defaultValue (ty0 j) = vp_V (fs.map (pq_v ad)) j) (h1 : cs + 1 ≤ R.cells) (h2 : ss + N ≤ R.slots)
    (k : pq_G p l e R s m args below meth c Q nL D ad h0 (pc + 3) ls (.ref w.length :: st) (w ++ [.inr (ci, fs)]) (cs + 1) (ss + N)) : pq_G p l e R s m args below meth c Q nL D ad h0 pc ls st w cs ss := by
  obtain ⟨hx, hb, hml, hown, hts, -, hK, -, -, hnm1, hj, ho⟩ := X
  intro H locs lr hl hI hS
  have hKn := hK.1 ci _ hc
  refine W.newcK hx hb hown (hts _ hlink) (hts _ hinst) (hts _ hini) rfl hd h1 h2 hKn.2.1 rfl fun H1 kC hkC e1 z1 o1 => ?_
  have hnx := hI.next
  have k := k H1 locs lr hl (hI.push z1 o1 ⟨_, hc, by rw [hnx]; exact (u_born ty0 hts hin hKn hkC e1 hty).to hfs⟩) ⟨Nat.le_trans hS.1 (by omega), fun x h1 h2 => (o1 x (Nat.lt_of_lt_of_le h1 hS.1)).trans (hS.2.1 x h1 h2), hS.2.2⟩
  rw [List.map_cons, show pq_v ad (.ref w.length) = .ref H.size by rw [← hnx]; rfl] at k
  exact k
theorem pg_newa {atype : ArrayType} {n : Int32} {cl0 : pq_C} (X : pq_X p s m args meth c cc own nL ret nm D ad h0) (hd : decode cc pc = .ok (.newarray atype, 2)) (harr : Cond.arrayClass (newarray.typeOf atype) ∈ pq_gt) (hc : pq_blank (pq_at2 atype) n.toNatClampNeg = some cl0) (hn : ¬ n < 0) (hb0 : n.toNatClampNeg ≤ 60000000) (h1 : cs + 1 ≤ R.cells) (h2 : ss + n.toNatClampNeg ≤ R.slots)
    (k : pq_G p l e R s m args below meth c Q nL D ad h0 (pc + 2) ls (.ref w.length :: st) (w ++ [cl0]) (cs + 1) (ss + n.toNatClampNeg)) : pq_G p l e R s m args below meth c Q nL D ad h0 pc ls (.int n :: st) w cs ss := by
  obtain ⟨hx, hb, hml, hown, hts, -, hK, -, -, hnm1, hj, ho⟩ := X
  intro H locs lr hl hI hS
  have hby : n.toNatClampNeg * componentBytes (newarray.typeOf atype) ≤ 536870912 := by
    have : componentBytes (newarray.typeOf atype) ≤ 8 := by cases atype <;> decide
    have := Nat.mul_le_mul hb0 this
    omega
  refine va_newaK hx hb (hts _ harr) rfl hd rfl hn rfl hby h1 h2 rfl fun H1 cA e1 z1 o1 hAr hNm => ?_
  have hnx := hI.next
  have hat : pq_at ad D s H1 w.length cl0 := by
    cases atype
    case int => cases hc; exact ⟨cA, by rw [hnx]; exact e1, hAr, fun _ => rfl⟩
    case long => cases hc; exact ⟨cA, by rw [hnx]; exact e1, hAr⟩
    case byte => cases hc; exact ⟨cA, by rw [hnx]; exact e1, hAr, fun _ => rfl⟩
    case boolean => cases hc; exact ⟨cA, by rw [hnx]; exact e1, hAr, fun _ => rfl⟩
    all_goals cases hc
  have k := k H1 locs lr hl (hI.push z1 o1 hat) ⟨Nat.le_trans hS.1 (by omega), fun x h1 h2 => (o1 x (Nat.lt_of_lt_of_le h1 hS.1)).trans (hS.2.1 x h1 h2), hS.2.2⟩
  rw [List.map_cons, show pq_v ad (.ref w.length) = .ref H.size by rw [← hnx]; rfl] at k
  exact k
theorem pg_obj {idx r : Nat} (X : pq_X p s m args meth c cc own nL ret nm D ad h0) (hd : decode cc pc = .ok (.invokespecial idx, 3)) (hl1 : Cond.methodLink own idx Lib.objectInit ∈ pq_gt) (hl2 : Cond.instanceMethod Lib.objectInit ∈ pq_gt) (hl3 : Cond.code Lib.objectInit ⟨#[0xb1]⟩ 1 none ∈ pq_gt) (hf : 1 ≤ R.frames) (hlo : 20 ≤ R.locals) (hsum : pq_sum st ≤ 8)
    (k : pq_G p l e R s m args below meth c Q nL D ad h0 (pc + 3) ls st w cs ss) : pq_G p l e R s m args below meth c Q nL D ad h0 pc ls (.ref r :: st) w cs ss := by
  obtain ⟨hx, hb, hml, hown, hts, -⟩ := X
  intro H locs lr hl hI hS
  refine W.objInit hx hb hown (hts _ hl1) (hts _ hl2) (hts _ hl3) rfl (by rw [hml]; exact hl.1) rfl hd hf ?_ (k H locs lr hl hI hS)
  show 2 * 0 + ((st.map (pq_v ad)).map fun v => v.category).sum + 12 ≤ R.locals
  rw [pq_sum_v]
  omega
theorem pg_cp {idx r0 r1 : Nat} {sp dp n : Int32} {c0 c1 c2 : pq_C} (X : pq_X p s m args meth c cc own nL ret nm D ad h0) (hd : decode cc pc = .ok (.invokestatic idx, 3)) (hl1 : Cond.methodLink own idx arraycopyName ∈ pq_gt) (hl2 : Cond.native arraycopyName ∈ pq_gt) (hl3 : Cond.static arraycopyName ∈ pq_gt) (hl4 : Cond.initialized "java/lang/System" ∈ pq_gt) (hf : 1 ≤ R.frames) (hlo : 40 ≤ R.locals) (hsum : pq_sum st ≤ 8) (hr0 : w[r0]? = some c0) (hr1 : w[r1]? = some c1) (hz : pq_cp c0 c1 sp dp n = some c2) (hE0 : pq_E ≤ r0) (hE : pq_E ≤ r1)
    (k : pq_G p l e R s m args below meth c Q nL D ad h0 (pc + 3) ls st (w.set r1 c2) cs ss) : pq_G p l e R s m args below meth c Q nL D ad h0 pc ls (.int n :: .int dp :: .ref r1 :: .int sp :: .ref r0 :: st) w cs ss := by
  obtain ⟨hx, hb, hml, hown, hts, -, hK, -, -, hnm1, hj, ho⟩ := X
  intro H locs lr hl hI hS
  match c0, c1, hr0, hr1, hz with
  | .inl (ty, n0, .inl f), .inl (ty1, n1, .inl g), hr0, hr1, hz =>
    simp only [pq_cp] at hz
    split at hz
    · rename_i hh
      obtain ⟨hty, rfl, h1, h2, h3, h4, h5⟩ := hh
      cases hz
      obtain ⟨cA0, a1, b1, f1⟩ := pq_ald_arr hI hE0 hr0
      obtain ⟨cA1, a2, b2, f2⟩ := pq_ald_arr hI hE hr1
      have nn : ∀ z : Int32, ¬ z < 0 → z.toInt = (z.toNatClampNeg : Int) := by
        intro z hz
        have hz0 : (0 : Int) ≤ z.toInt := by
          have := Int32.not_lt.mp hz
          simpa using Int32.le_iff_toInt_le.mp this
        show z.toInt = ((z.toInt.toNat : Nat) : Int)
        omega
      intro T hT XX
      obtain ⟨-, k0, hk0, cm0, hkk0⟩ := b1 n0 (fun j => .int (f j))
      obtain ⟨-, k1, hk1, cm1, hkk1⟩ := b2 n1 (fun j => .int (g j))
      obtain ⟨vm', X', step⟩ := XX.arraycopy hx hown (hts _ hl1) (hts _ hl2) (hts _ hl3) (hts _ hl4) (src := ad r0) (dst := ad r1) (cs := arrV cA0 n0 (fun j => .int (f j))) (cd := arrV cA1 n1 (fun j => .int (g j))) (srcPos := sp) (destPos := dp) (n := n) (by rw [hT]; exact a1) (by rw [hT]; exact a2)
        (fun _ h => by cases h) (fun _ h => by cases h) (fun h => by cases h) (fun h => by cases h) hk0 hk1 hkk0 hkk1 (by rcases hty with rfl | rfl | rfl <;> simp [refKind]) h1 h2 h3
        (by rw [nn sp h1, nn n h3, arrV_size]; omega)
        (by rw [nn dp h2, nn n h3, arrV_size]; omega)
        (fun vm₁ _ i hi => by
          have e : (arrV cA0 n0 (fun j => .int (f j))).slots.getD (sp.toNatClampNeg + i) .null = .int (f (sp.toNatClampNeg + i)) := by
            rw [Array.getD_eq_getD_getElem?, arrV_read _ _ (by omega)]
            rfl
          refine ⟨?_, ?_⟩
          · rw [e]; exact f1 _
          · rw [e]; exact trivial)
        (g := F0 m pc lr (.int n :: .int dp :: .ref (ad r1) :: .int sp :: .ref (ad r0) :: st.map (pq_v ad))) rfl (by rw [hml]; exact hl.1) (rest := st.map (pq_v ad)) rfl (by rw [hb]; exact hd) hf (by
          show 2 * 0 + ((st.map (pq_v ad)).map fun v => v.category).sum + _ ≤ _
          rw [pq_sum_v]
          have : nativeFrameWords "java/lang/System" "arraycopy" 5 + 11 ≤ 30 := by decide +kernel
          omega)
      have e1 : copied (arrV cA0 n0 (fun j => .int (f j))) (arrV cA1 n1 (fun j => .int (g j))) sp dp n = arrV cA1 n1 (fun j => .int (va_cpy f g sp.toNatClampNeg dp.toNatClampNeg n.toNatClampNeg j)) := va_copied (fun z => .int z) cA0 cA1 f g h4
      rw [e1] at X' step
      have hlt : ad r1 < H.size := (Array.getElem?_eq_some_iff.mp a2).1
      obtain ⟨t, ta, tb⟩ := k (H.setIfInBounds (ad r1) (arrV cA1 n1 (fun j => .int (va_cpy f g sp.toNatClampNeg dp.toNatClampNeg n.toNatClampNeg j)))) _ lr hl
        (hI.set hE hj (by simp) (fun q hq => by simp [Array.getElem?_setIfInBounds, Ne.symm hq]) ⟨cA1, by simp [Array.getElem?_setIfInBounds, hlt], b2, fun j => by
          unfold va_cpy
          split
          · exact f1 _
          · exact f2 _⟩)
        ⟨by simp; exact hS.1, fun q g1 g2 => by
          rw [show (H.setIfInBounds (ad r1) (arrV cA1 n1 (fun j => .int (va_cpy f g sp.toNatClampNeg dp.toNatClampNeg n.toNatClampNeg j))))[q]? = H[q]? by
            have hq : q ≠ ad r1 := fun e => g2 (by rw [e]; exact ho r1 hE)
            simp [Array.getElem?_setIfInBounds, Ne.symm hq]]
          exact hS.2.1 q g1 g2, fun q hq => by
          rcases List.mem_append.mp hq with h | h
          · exact hS.2.2 q h
          · obtain ⟨z, -, hz⟩ := List.mem_map.mp h
            rw [← hz]
            exact ho r1 hE⟩ _ (by rw [← hT]; rfl) X'
      exact ⟨t, step t ta, tb⟩
    · cases hz
theorem pg_math0 {idx : Nat} {x y : Int32} (X : pq_X p s m args meth c cc own nL ret nm D ad h0) (hd : decode cc pc = .ok (.invokestatic idx, 3)) (hl1 : Cond.methodLink own idx Lib.Math.max.name ∈ pq_gt) (hl2 : Cond.static Lib.Math.max.name ∈ pq_gt) (hl3 : Cond.initialized "java/lang/Math" ∈ pq_gt) (hl4 : Cond.code Lib.Math.max.name Lib.Math.max.code 2 (some .int) ∈ pq_gt) (hf : 1 ≤ R.frames) (hlo : 40 ≤ R.locals) (hsum : pq_sum st ≤ 8) (h1 : cs ≤ R.cells) (h2 : ss ≤ R.slots)
    (k : pq_G p l e R s m args below meth c Q nL D ad h0 (pc + 3) ls (.int (if x < y then y else x) :: st) w cs ss) : pq_G p l e R s m args below meth c Q nL D ad h0 pc ls (.int y :: .int x :: st) w cs ss := by
  obtain ⟨hx, hb, hml, hown, hts, -⟩ := X
  intro H locs lr hl hI hS
  refine va_mmax hx hb (by rw [hml]; exact hl.1.symm) hown (hts _ hl1) (hts _ hl2) (hts _ hl3) (hts _ hl4) hf ?_ h1 h2 hd (k H locs lr hl hI hS)
  rw [pq_sum_v]
  omega
theorem pg_math1 {idx : Nat} {x y : Int32} (X : pq_X p s m args meth c cc own nL ret nm D ad h0) (hd : decode cc pc = .ok (.invokestatic idx, 3)) (hl1 : Cond.methodLink own idx Lib.Math.min.name ∈ pq_gt) (hl2 : Cond.static Lib.Math.min.name ∈ pq_gt) (hl3 : Cond.initialized "java/lang/Math" ∈ pq_gt) (hl4 : Cond.code Lib.Math.min.name Lib.Math.min.code 2 (some .int) ∈ pq_gt) (hf : 1 ≤ R.frames) (hlo : 40 ≤ R.locals) (hsum : pq_sum st ≤ 8) (h1 : cs ≤ R.cells) (h2 : ss ≤ R.slots)
    (k : pq_G p l e R s m args below meth c Q nL D ad h0 (pc + 3) ls (.int (if y < x then y else x) :: st) w cs ss) : pq_G p l e R s m args below meth c Q nL D ad h0 pc ls (.int y :: .int x :: st) w cs ss := by
  obtain ⟨hx, hb, hml, hown, hts, -⟩ := X
  intro H locs lr hl hI hS
  refine va_mmin hx hb (by rw [hml]; exact hl.1.symm) hown (hts _ hl1) (hts _ hl2) (hts _ hl3) (hts _ hl4) hf ?_ h1 h2 hd (k H locs lr hl hI hS)
  rw [pq_sum_v]
  omega
theorem pg_math2 {idx : Nat} {x : Int32} (X : pq_X p s m args meth c cc own nL ret nm D ad h0) (hd : decode cc pc = .ok (.invokestatic idx, 3)) (hl1 : Cond.methodLink own idx Lib.Math.abs.name ∈ pq_gt) (hl2 : Cond.static Lib.Math.abs.name ∈ pq_gt) (hl3 : Cond.initialized "java/lang/Math" ∈ pq_gt) (hl4 : Cond.code Lib.Math.abs.name Lib.Math.abs.code 1 (some .int) ∈ pq_gt) (hf : 1 ≤ R.frames) (hlo : 40 ≤ R.locals) (hsum : pq_sum st ≤ 8) (h1 : cs ≤ R.cells) (h2 : ss ≤ R.slots)
    (k : pq_G p l e R s m args below meth c Q nL D ad h0 (pc + 3) ls (.int (if 0 ≤ x then x else 0 - x) :: st) w cs ss) : pq_G p l e R s m args below meth c Q nL D ad h0 pc ls (.int x :: st) w cs ss := by
  obtain ⟨hx, hb, hml, hown, hts, -⟩ := X
  intro H locs lr hl hI hS
  refine va_mabs hx hb (by rw [hml]; exact hl.1.symm) hown (hts _ hl1) (hts _ hl2) (hts _ hl3) (hts _ hl4) hf ?_ h1 h2 hd (k H locs lr hl hI hS)
  rw [pq_sum_v]
  omega
theorem pg_math3 {idx : Nat} {x y : Int64} (X : pq_X p s m args meth c cc own nL ret nm D ad h0) (hd : decode cc pc = .ok (.invokestatic idx, 3)) (hl1 : Cond.methodLink own idx Lib.MathLoose.max_long.x ∈ pq_gt) (hl2 : Cond.static Lib.MathLoose.max_long.x ∈ pq_gt) (hl3 : Cond.initialized "java/lang/Math" ∈ pq_gt) (hl4 : Cond.code Lib.MathLoose.max_long.x Lib.MathLoose.max_long.code 4 (some .long) ∈ pq_gt) (hf : 1 ≤ R.frames) (hlo : 40 ≤ R.locals) (hsum : pq_sum st ≤ 8) (h1 : cs ≤ R.cells) (h2 : ss ≤ R.slots)
    (k : pq_G p l e R s m args below meth c Q nL D ad h0 (pc + 3) ls (.long (if y < x then x else y) :: st) w cs ss) : pq_G p l e R s m args below meth c Q nL D ad h0 pc ls (.long y :: .long x :: st) w cs ss := by
  obtain ⟨hx, hb, hml, hown, hts, -⟩ := X
  intro H locs lr hl hI hS
  refine va_mmax_long hx hb (by rw [hml]; exact hl.1.symm) hown (hts _ hl1) (hts _ hl2) (hts _ hl3) (hts _ hl4) hf ?_ h1 h2 hd (k H locs lr hl hI hS)
  rw [pq_sum_v]
  omega
theorem pg_math4 {idx : Nat} {x y : Int64} (X : pq_X p s m args meth c cc own nL ret nm D ad h0) (hd : decode cc pc = .ok (.invokestatic idx, 3)) (hl1 : Cond.methodLink own idx Lib.MathLoose.min_long.x ∈ pq_gt) (hl2 : Cond.static Lib.MathLoose.min_long.x ∈ pq_gt) (hl3 : Cond.initialized "java/lang/Math" ∈ pq_gt) (hl4 : Cond.code Lib.MathLoose.min_long.x Lib.MathLoose.min_long.code 4 (some .long) ∈ pq_gt) (hf : 1 ≤ R.frames) (hlo : 40 ≤ R.locals) (hsum : pq_sum st ≤ 8) (h1 : cs ≤ R.cells) (h2 : ss ≤ R.slots)
    (k : pq_G p l e R s m args below meth c Q nL D ad h0 (pc + 3) ls (.long (if y < x then y else x) :: st) w cs ss) : pq_G p l e R s m args below meth c Q nL D ad h0 pc ls (.long y :: .long x :: st) w cs ss := by
  obtain ⟨hx, hb, hml, hown, hts, -⟩ := X
  intro H locs lr hl hI hS
  refine va_mmin_long hx hb (by rw [hml]; exact hl.1.symm) hown (hts _ hl1) (hts _ hl2) (hts _ hl3) (hts _ hl4) hf ?_ h1 h2 hd (k H locs lr hl hI hS)
  rw [pq_sum_v]
  omega
end PQ3
end
section
def pq_y (M : pq_M) : MethodName := M.1
def pq_by (M : pq_M) : ByteArray := M.2.1
def pq_mL (M : pq_M) : Nat := M.2.2.1
def pq_rt (M : pq_M) : Option FieldType := M.2.2.2.1
def pq_lm (M : pq_M) : Nat × Nat := M.2.2.2.2.1
def pq_ns (M : pq_M) : List Nat := M.2.2.2.2.2.1
def pq_cd (M : pq_M) : pq_B := M.2.2.2.2.2.2
def pq_lim (tab : List pq_M) (j : Nat) : Nat × Nat := match tab[j]? with
  | some M => pq_lm M
  | none => (0, 0)
def pq_ws (M : pq_M) : List Cond := Cond.code (pq_y M) (pq_by M) (pq_mL M) (pq_rt M) :: pq_gt
def pq_rm (d : Nat) (q : Nat × Nat) : Room := { frames := d, cells := q.1, slots := q.2, locals := 80 * d + 40 }
def pq_Pc (ad : Nat → Nat) (D : va_G) (as : List Value) (w : pq_W) : Array Value → State → Prop := fun v U => v = (as.map (pq_v ad)).toArray ∧ pq_I ad D w U U.heap ∧ va_K D pq_cl [] U ∧ pq_Nt ad U
def pq_Qc (ad : Nat → Nat) (D : va_G) (h0 : Nat) (r : Option Value) (w : pq_W) : Array Value → State → Outcome → State → Prop := fun _ st o t => o = .returned (r.map (pq_v ad)) ∧ pq_I ad D w t t.heap ∧ va_F (fun q => h0 ≤ q) st t
theorem pq_Ns.same {u U : State} (h : u.vm = U.vm) (hN : pq_Ns u) : pq_Ns U := fun w hw hi => by
  cases w <;> first | (cases hi; done) | exact va_Nw.same rfl h (hN _ hw hi)
theorem pq_Ns.warm {s U : State} (hW : s.WarmedH U.vm) (hN : pq_Ns s) : pq_Ns U := fun w hw hi => by
  cases w <;> first | (cases hi; done) | exact va_Nw.warmM hW (hN _ hw hi) | exact va_Nw.warmF hW (hN _ hw hi)
theorem pq_Nt.same {ad : Nat → Nat} {u U : State} (h : u.vm = U.vm) (hN : pq_Nt ad u) : pq_Nt ad U := ⟨pq_Ns.same h hN.1, vk_R.same h.symm hN.2⟩
theorem pq_Nt.warm {ad : Nat → Nat} {s U : State} (hW : s.WarmedH U.vm) (hN : pq_Nt ad s) : pq_Nt ad U := ⟨pq_Ns.warm hW hN.1, vk_R.warm hW hN.2⟩
theorem pq_blind (ad : Nat → Nat) (D : va_G) (as : List Value) (w : pq_W) : FrameBlind (pq_Pc ad D as w) := fun a U g mk q => by
  obtain ⟨h1, h2, h3, h4⟩ := q
  exact ⟨h1, h2.moved (u := U) (U := U.calling g mk a) (Vm.Alike.refl U.vm), va_K.moved (u := U) (U := U.calling g mk a) (Vm.Alike.refl U.vm) h3, pq_Nt.same (u := U) (U := U.calling g mk a) rfl h4⟩
/-- the facts of a method: numbers are kind (0 static, 1 virtual, 2 init), arguments without the receiver; the seventh: its cells' number -/
def pq_mf (M : pq_M) (kd n : Nat) : Prop := Cond.code (pq_y M) (pq_by M) (pq_mL M) (pq_rt M) ∈ pq_gt ∧ Cond.initialized (pq_y M).cls ∈ pq_gt ∧ plainName (pq_y M).cls = true ∧ ((pq_y M).cls ≠ "java/lang/invoke/MethodHandle" ∧ (pq_y M).cls ≠ "java/lang/invoke/VarHandle" ∧ (parseMethodDescriptor (pq_y M).desc).map (fun d => d.parameters.length) = some n) ∧ pq_mL M ≤ 60 ∧
  (kd = 0 ∧ Cond.static (pq_y M) ∈ pq_gt ∨ kd = 1 ∧ Cond.instanceMethod (pq_y M) ∈ pq_gt ∧ Cond.selects (pq_y M).cls (pq_y M) (pq_y M) ∈ pq_gt ∧ ((pq_cl[(pq_ns M).getD 6 99]?).map (fun q => q.1) = some (pq_y M).cls ∨ (pq_ns M).getD 6 99 = 99 ∧ (pq_y M).cls = "java/lang/String") ∨ kd = 2 ∧ Cond.instanceMethod (pq_y M) ∈ pq_gt ∧ (pq_y M).name = "<init>" ∧ pq_rt M = none)
section PQ4
variable {p : Program} {l : Launch} {e : Env} {R : Room} {s : State} {m : MethodId} {args : Array Value} {below : List Frame} {meth : Method} {c : Code} {Q : State → Prop} {cc : ByteArray} {own : String} {nL : Nat} {ret : Option FieldType} {nm : String} {D : va_G} {ad : Nat → Nat} {h0 pc cs ss : Nat} {ls : pq_L} {st : List Value} {w : pq_W} {i : Instr}
theorem pq_callW {H : Heap} {locs : List Loc} {mc ms : Nat} {lr : Array Slot} {st0 rest : List Value} {r : Option Value} {w1 : pq_W} {a : Array Value} (hr : va_Run p l e R s m args below meth c H locs cs ss mc ms (F0 m pc lr st0) rest (pq_Qc ad D h0 r w1 a) (fun q => h0 ≤ q)) (hS : va_S (fun q => h0 ≤ q) s.heap H locs)
    (kk : ∀ (H1 : Heap) (locs1 : List Loc), pq_I ad D w1 s H1 → va_S (fun q => h0 ≤ q) s.heap H1 locs1 → W p l e R s m args below meth c H1 locs1 (cs + mc) (ss + ms) Q (F0 m (pc + 3) lr ((r.map (pq_v ad)).toList ++ rest))) : W p l e R s m args below meth c H locs cs ss Q (F0 m pc lr st0) := by
  intro T hT X
  obtain ⟨v, st₀, t, T', L, e0, X', hL, e1, e2, ⟨hv, hI1, hz, hk⟩, st⟩ := hr T hT X
  cases hv
  rw [e0] at hz hk
  have hal : s.vm.Alike t.vm := by rw [← e2]; exact X'.warmed.alike
  obtain ⟨t2, a1, b1⟩ := kk T'.heap (locs ++ L) (by rw [e1]; exact hI1.moved hal.symm)
    ⟨Nat.le_trans hS.1 (by rw [e1]; exact hz), fun q h1 h2 => by rw [e1, hk q (Nat.lt_of_lt_of_le h1 hS.1) h2]; exact hS.2.1 q h1 h2, fun q hq => by
      rcases List.mem_append.mp hq with h | h
      · exact hS.2.2 q h
      · exact hL q h⟩ T' rfl X'
  exact ⟨t2, st t2 a1, b1⟩
theorem pq_pre {H : Heap} {as : List Value} {av : List Value} (hK : va_K D pq_cl [] s) (hN : pq_Nt ad s) (hI : pq_I ad D w s H) (ha : av = as.map (pq_v ad)) : PreS s H (pq_Pc ad D as w) av :=
  ⟨pq_blind ad D as w, fun U hU hW => ⟨by rw [ha], by rw [hU]; exact hI.moved hW.alike, va_K.moved hW.alike hK, hN.warm hW⟩⟩
theorem pq_recv {H : Heap} {r ci : Nat} {fs : List Value} {q : vw_C} (hK : va_K D pq_cl [] s) (hI : pq_I ad D w s H) (hr : w[r]? = some (.inr (ci, fs))) (hc : pq_cl[ci]? = some q) : ∃ cell : Cell, H[ad r]? = some cell ∧ cell.vm.isStatics = false ∧ s.vm.findClass q.1 = some cell.cls := by
  obtain ⟨r1, h1, cell, q1, q2, q3, q4⟩ := hI.obj hr hc
  exact ⟨cell, q1, by rw [q3]; rfl, by rw [q2]; exact (hK.1 ci q hc).2.1⟩
theorem pq_recvS {H : Heap} {r : Nat} {fs : List Value} (hI : pq_I ad D w s H) (hr : w[r]? = some (.inr (99, fs))) : ∃ cell : Cell, H[ad r]? = some cell ∧ cell.vm.isStatics = false ∧ s.vm.findClass "java/lang/String" = some cell.cls := by
  by_cases q : pq_E ≤ r
  · obtain ⟨r1, h1, -⟩ := (hI.2.2 r _ hr).1 q
    cases h1
  · obtain ⟨-, ⟨cell, a1, a2, a3, -⟩, -⟩ := (hI.2.2 r _ hr).2 (by omega)
    exact ⟨cell, a1, a2, a3⟩
theorem pq_goodws {M : pq_M} (h : Cond.code (pq_y M) (pq_by M) (pq_mL M) (pq_rt M) ∈ pq_gt) : GoodIn pq_gt (pq_ws M) := fun w hw => by
  rcases List.mem_cons.mp hw with rfl | hw
  · exact pq_gt_good _ h
  · exact pq_gt_good _ hw
/-- a call: static 0, virtual 1, init 2 -/
theorem pg_call {M : pq_M} {kd n d idx : Nat} {as rest : List Value} {r : Option Value} {w1 : pq_W} (X : pq_X p s m args meth c cc own nL ret nm D ad h0) (hM : Met l (pq_y M) (pq_ws M) (pq_rm d (pq_lm M)) (pq_Pc ad D as w) (pq_Qc ad D h0 r w1) (pq_lm M).1 (pq_lm M).2 (fun q => h0 ≤ q)) (hm : pq_mf M kd n)
    (hd : (kd = 0 ∧ decode cc pc = .ok (.invokestatic idx, 3) ∧ as.length = n) ∨ (kd = 1 ∧ decode cc pc = .ok (.invokevirtual idx, 3) ∧ as.length = n + 1 ∧ ∃ (b ci : Nat) (fs : List Value), as[0]? = some (.ref b) ∧ w[b]? = some (.inr (ci, fs)) ∧ ((∃ q : vw_C, pq_cl[ci]? = some q ∧ q.1 = (pq_y M).cls) ∨ ci = 99 ∧ (pq_y M).cls = "java/lang/String")) ∨ (kd = 2 ∧ decode cc pc = .ok (.invokespecial idx, 3) ∧ as.length = n + 1 ∧ ∃ b : Nat, as[0]? = some (.ref b)))
    (hl : Cond.methodLink own idx (pq_y M) ∈ pq_gt ∨ ∃ host : String, Cond.methodLinkNest own idx (pq_y M) host ∈ lw_tbl) (hR1 : d + 1 ≤ R.frames) (hR2 : 80 * d + 120 ≤ R.locals) (hsum : pq_sum rest ≤ 8) (hc1 : cs + (pq_lm M).1 ≤ R.cells) (hc2 : ss + (pq_lm M).2 ≤ R.slots)
    (k : pq_G p l e R s m args below meth c Q nL D ad h0 (pc + 3) ls (r.toList ++ rest) w1 (cs + (pq_lm M).1) (ss + (pq_lm M).2)) : pq_G p l e R s m args below meth c Q nL D ad h0 pc ls (as.reverse ++ rest) w cs ss := by
  obtain ⟨hx, hb, hml, hown, hts, hN, hK, -⟩ := X
  intro H locs lr hlr hI hS
  obtain ⟨m1, m2, m3, m4, m5, m6⟩ := hm
  have hk : ∀ (H1 : Heap) (locs1 : List Loc), pq_I ad D w1 s H1 → va_S (fun q => h0 ≤ q) s.heap H1 locs1 → W p l e R s m args below meth c H1 locs1 (cs + (pq_lm M).1) (ss + (pq_lm M).2) Q (F0 m (pc + 3) lr ((r.map (pq_v ad)).toList ++ rest.map (pq_v ad))) := by
    intro H1 locs1 a1 a2
    have := k H1 locs1 lr hlr a1 a2
    rw [List.map_append] at this
    rw [show (r.map (pq_v ad)).toList = r.toList.map (pq_v ad) by cases r <;> rfl]
    exact this
  have hRR : (pq_rm d (pq_lm M)).frames + 1 ≤ R.frames ∧ 8 + (pq_mL M + 11) + (pq_rm d (pq_lm M)).locals ≤ R.locals := ⟨hR1, by show 8 + (pq_mL M + 11) + (80 * d + 40) ≤ R.locals; omega⟩
  have hroom : 2 * (F0 m pc lr ((as.reverse ++ rest).map (pq_v ad))).monitorRoom + ((rest.map (pq_v ad)).map fun v => v.category).sum ≤ 8 := by
    show 2 * 0 + _ ≤ 8
    rw [pq_sum_v]; omega
  rcases hd with ⟨rfl, hd, hn⟩ | ⟨rfl, hd, hn, b, ci, fs, ha, hb1, hrcv⟩ | ⟨rfl, hd, hn, b, ha⟩
  · have hst : Cond.static (pq_y M) ∈ pq_gt := by
      rcases m6 with h | h | h
      · exact h.2
      · exact absurd h.1 (by decide)
      · exact absurd h.1 (by decide)
    rcases hl with hl | ⟨host, hl⟩
    · exact pq_callW (va_runS (As := as.map (pq_v ad)) (rest := rest.map (pq_v ad)) ⟨hx, hb, hml, hown, hts⟩ hM ⟨callB_of n hts (pq_goodws m1) rfl rfl rfl (hts _ m2) (hts _ hl) m4 hRR, hts _ hst⟩ (pq_pre hK hN hI rfl) rfl (by rw [List.length_map]; exact hn) hlr.1 (by rw [List.map_append, List.map_reverse]) hroom hd ⟨hc1, hc2⟩) hS hk
    · exact pq_callW (va_runSN (As := as.map (pq_v ad)) (rest := rest.map (pq_v ad)) ⟨hx, hb, hml, hown, hts⟩ hM ⟨va_cnB n hts (pq_goodws m1) rfl rfl rfl (hN.1 _ hl rfl) (hts _ m2) m4 hRR, hts _ hst, trivial⟩ (pq_pre hK hN hI rfl) rfl (by rw [List.length_map]; exact hn) hlr.1 (by rw [List.map_append, List.map_reverse]) hroom hd ⟨hc1, hc2⟩) hS hk
  · obtain ⟨as1, rfl⟩ : ∃ as1, as = .ref b :: as1 := by
      cases as with
      | nil => cases ha
      | cons z as1 => cases ha; exact ⟨as1, rfl⟩
    have hw1 : Cond.instanceMethod (pq_y M) ∈ pq_gt ∧ Cond.selects (pq_y M).cls (pq_y M) (pq_y M) ∈ pq_gt := by
      rcases m6 with h | h | h
      · exact absurd h.1 (by decide)
      · exact ⟨h.2.1, h.2.2.1⟩
      · exact absurd h.1 (by decide)
    have hrv : ∃ cell : Cell, H[ad b]? = some cell ∧ cell.vm.isStatics = false ∧ s.vm.findClass (pq_y M).cls = some cell.cls := by
      rcases hrcv with ⟨q, hcq, hq⟩ | ⟨e1, e2⟩
      · have hrv := pq_recv hK hI hb1 hcq
        rw [hq] at hrv
        exact hrv
      · subst e1
        rw [e2]
        exact pq_recvS hI hb1
    have hpr := pq_pre (as := .ref b :: as1) hK hN hI rfl
    have hlen : (as1.map (pq_v ad)).length = n := by rw [List.length_map]; exact Nat.succ.inj hn
    have hstk : ((.ref b :: as1).reverse ++ rest).map (pq_v ad) = (as1.map (pq_v ad)).reverse ++ .ref (ad b) :: rest.map (pq_v ad) := by
      rw [List.reverse_cons, List.append_assoc, List.map_append, List.map_reverse]
      rfl
    rcases hl with hl | ⟨host, hl⟩
    · exact pq_callW (va_runV (As := as1.map (pq_v ad)) (rest := rest.map (pq_v ad)) ⟨hx, hb, hml, hown, hts⟩ hM ⟨callB_of n hts (pq_goodws m1) rfl rfl rfl (hts _ m2) (hts _ hl) m4 hRR, hts _ hw1.1, hts _ hw1.2⟩ ⟨hpr.1, hrv, hpr.2⟩ rfl hlen hlr.1 hstk hroom hd ⟨hc1, hc2⟩) hS hk
    · exact pq_callW (va_runVN (As := as1.map (pq_v ad)) (rest := rest.map (pq_v ad)) ⟨hx, hb, hml, hown, hts⟩ hM ⟨va_cnB n hts (pq_goodws m1) rfl rfl rfl (hN.1 _ hl rfl) (hts _ m2) m4 hRR, hts _ hw1.1, hts _ hw1.2⟩ ⟨hpr.1, hrv, hpr.2⟩ rfl hlen hlr.1 hstk hroom hd ⟨hc1, hc2⟩) hS hk
  · obtain ⟨as1, rfl⟩ : ∃ as1, as = .ref b :: as1 := by
      cases as with
      | nil => cases ha
      | cons z as1 => cases ha; exact ⟨as1, rfl⟩
    have hw1 : Cond.instanceMethod (pq_y M) ∈ pq_gt ∧ (pq_y M).name = "<init>" ∧ pq_rt M = none := by
      rcases m6 with h | h | h
      · exact absurd h.1 (by decide)
      · exact absurd h.1 (by decide)
      · exact h.2
    have hpr := pq_pre (as := .ref b :: as1) hK hN hI rfl
    have hlen : (as1.map (pq_v ad)).length = n := by rw [List.length_map]; exact Nat.succ.inj hn
    have hstk : ((.ref b :: as1).reverse ++ rest).map (pq_v ad) = (as1.map (pq_v ad)).reverse ++ .ref (ad b) :: rest.map (pq_v ad) := by
      rw [List.reverse_cons, List.append_assoc, List.map_append, List.map_reverse]
      rfl
    have hwe : pq_ws M = Cond.code (pq_y M) (pq_by M) (pq_mL M) none :: pq_gt := by rw [← hw1.2.2]; rfl
    rcases hl with hl | ⟨host, hl⟩
    · exact pq_callW (va_runI (As := as1.map (pq_v ad)) (rest := rest.map (pq_v ad)) ⟨hx, hb, hml, hown, hts⟩ hM ⟨callB_of n hts (pq_goodws m1) hwe rfl rfl (hts _ m2) (hts _ hl) m4 hRR, hw1.2.1, hts _ hw1.1⟩ hpr rfl hlen hlr.1 hstk hroom hd ⟨hc1, hc2⟩) hS hk
    · exact pq_callW (va_runIN (As := as1.map (pq_v ad)) (rest := rest.map (pq_v ad)) ⟨hx, hb, hml, hown, hts⟩ hM ⟨va_cnB n hts (pq_goodws m1) hwe rfl rfl (hN.1 _ hl rfl) (hts _ m2) m4 hRR, hw1.2.1, hts _ hw1.1⟩ hpr rfl hlen hlr.1 hstk hroom hd ⟨hc1, hc2⟩) hS hk
theorem pq_end {H : Heap} {locs : List Loc} {r : Option Value} (hI : pq_I ad D w s H) (hS : va_S (fun q => h0 ≤ q) s.heap H locs) : ∀ t : State, t.heap = H → s.WarmedH t.vm → pq_Qc ad D h0 r w args s (.returned (r.map (pq_v ad))) t := fun t ht hW => ⟨rfl, by rw [ht]; exact hI.moved hW.alike, hS.F ht⟩
theorem pg_iret {x : Int32} {lm : Nat × Nat} (X : pq_X p s m args meth c cc own nL ret nm D ad h0) (hd : decode cc pc = .ok (.ireturn, 1)) (hr : ret = some .int ∨ (ret = some .boolean ∨ ret = some .byte) ∧ (x = 0 ∨ x = 1)) (h1 : cs ≤ lm.1) (h2 : ss ≤ lm.2) : pq_G p l e R s m args below meth c (MQ below (pq_Qc ad D h0 (some (.int x)) w) args s lm.1 lm.2 (fun q => h0 ≤ q)) nL D ad h0 pc ls [.int x] w cs ss := by
  obtain ⟨hx, hb, hml, hown, hts, -, -, hrt, hlk, -⟩ := X
  intro H locs lr hl hI hS
  refine W.widen h1 h2 ?_
  rcases hr with rfl | ⟨rfl | rfl, hv⟩
  · exact W.iret hx hb hrt (pq_end (r := some (.int x)) hI hS) hS.2.2 hd hlk
  · exact W.zret hx hb hrt (by rcases hv with rfl | rfl <;> decide +kernel) (pq_end (r := some (.int x)) hI hS) hS.2.2 hd hlk
  · exact W.zret hx hb hrt (by rcases hv with rfl | rfl <;> decide +kernel) (pq_end (r := some (.int x)) hI hS) hS.2.2 hd hlk
theorem pg_lret {x : Int64} {lm : Nat × Nat} (X : pq_X p s m args meth c cc own nL ret nm D ad h0) (hd : decode cc pc = .ok (.lreturn, 1)) (hr : ret = some .long) (h1 : cs ≤ lm.1) (h2 : ss ≤ lm.2) : pq_G p l e R s m args below meth c (MQ below (pq_Qc ad D h0 (some (.long x)) w) args s lm.1 lm.2 (fun q => h0 ≤ q)) nL D ad h0 pc ls [.long x] w cs ss := by
  obtain ⟨hx, hb, hml, hown, hts, -, -, hrt, hlk, -⟩ := X
  intro H locs lr hl hI hS
  refine W.widen h1 h2 ?_
  subst hr
  exact W.lret hx hb hrt (pq_end (r := some (.long x)) hI hS) hS.2.2 hd hlk
theorem pg_vret {lm : Nat × Nat} (X : pq_X p s m args meth c cc own nL ret nm D ad h0) (hd : decode cc pc = .ok (.return_, 1)) (hr : ret = none) (h1 : cs ≤ lm.1) (h2 : ss ≤ lm.2) : pq_G p l e R s m args below meth c (MQ below (pq_Qc ad D h0 none w) args s lm.1 lm.2 (fun q => h0 ≤ q)) nL D ad h0 pc ls [] w cs ss := by
  obtain ⟨hx, hb, hml, hown, hts, -, -, hrt, hlk, -⟩ := X
  intro H locs lr hl hI hS
  refine W.widen h1 h2 ?_
  subst hr
  exact W.vret hx hb hrt (pq_end (r := none) hI hS) hS.2.2 hd hlk
end PQ4
end
section
def pq_word (t : Nat) (c : Cond) : Bool := decide (pq_wat t = some c) && goodWord c
theorem pq_word_ok {t : Nat} {c : Cond} (h : pq_word t c = true) : c ∈ pq_gt := by
  unfold pq_word at h
  simp only [Bool.and_eq_true, decide_eq_true_eq] at h
  exact pq_gt_mem t h.1 h.2
theorem pq_obj2 : Cond.instanceMethod Lib.objectInit ∈ pq_gt := pq_gt_mem 1027 (by decide +kernel) (by decide +kernel)
theorem pq_obj3 : Cond.code Lib.objectInit ⟨#[0xb1]⟩ 1 none ∈ pq_gt := pq_gt_mem 1028 (by decide +kernel) (by decide +kernel)
theorem pq_cp2 : Cond.native arraycopyName ∈ pq_gt := pq_gt_mem 3228 (by decide +kernel) (by decide +kernel)
theorem pq_cp3 : Cond.static arraycopyName ∈ pq_gt := pq_gt_mem 3227 (by decide +kernel) (by decide +kernel)
theorem pq_cp4 : Cond.initialized "java/lang/System" ∈ pq_gt := pq_gt_mem 1015 (by decide +kernel) (by decide +kernel)
theorem pq_ms0 : Cond.static Lib.Math.max.name ∈ pq_gt := pq_gt_mem 3109 (by decide +kernel) (by decide +kernel)
theorem pq_mc0 : Cond.code Lib.Math.max.name Lib.Math.max.code 2 (some .int) ∈ pq_gt := pq_gt_mem 3110 (by decide +kernel) (by decide +kernel)
theorem pq_ms1 : Cond.static Lib.Math.min.name ∈ pq_gt := pq_gt_mem 3091 (by decide +kernel) (by decide +kernel)
theorem pq_mc1 : Cond.code Lib.Math.min.name Lib.Math.min.code 2 (some .int) ∈ pq_gt := pq_gt_mem 3092 (by decide +kernel) (by decide +kernel)
theorem pq_ms2 : Cond.static Lib.Math.abs.name ∈ pq_gt := pq_gt_mem 7024 (by decide +kernel) (by decide +kernel)
theorem pq_mc2 : Cond.code Lib.Math.abs.name Lib.Math.abs.code 1 (some .int) ∈ pq_gt := pq_gt_mem 7025 (by decide +kernel) (by decide +kernel)
theorem pq_ms3 : Cond.static Lib.MathLoose.max_long.x ∈ pq_gt := pq_gt_mem 4182 (by decide +kernel) (by decide +kernel)
theorem pq_mc3 : Cond.code Lib.MathLoose.max_long.x Lib.MathLoose.max_long.code 4 (some .long) ∈ pq_gt := pq_gt_mem 4183 (by decide +kernel) (by decide +kernel)
theorem pq_ms4 : Cond.static Lib.MathLoose.min_long.x ∈ pq_gt := pq_gt_mem 4179 (by decide +kernel) (by decide +kernel)
theorem pq_mc4 : Cond.code Lib.MathLoose.min_long.x Lib.MathLoose.min_long.code 4 (some .long) ∈ pq_gt := pq_gt_mem 4180 (by decide +kernel) (by decide +kernel)
theorem pq_mi : Cond.initialized "java/lang/Math" ∈ pq_gt := pq_gt_mem 1014 (by decide +kernel) (by decide +kernel)
def pq_mn (op : Nat) : Option MethodName := match op with
  | 0 => some Lib.Math.max.name
  | 1 => some Lib.Math.min.name
  | 2 => some Lib.Math.abs.name
  | 3 => some Lib.MathLoose.max_long.x
  | 4 => some Lib.MathLoose.min_long.x
  | _ => none
theorem pq_clok : ∀ (ci : Nat) (C : String) (T : u_T) (N : Nat), pq_cl[ci]? = some (C, T, N) → (∀ w ∈ u_ws C T N, w ∈ pq_gt) ∧ (∃ ty0 : Nat → FieldType, ∀ k, k < N → parseFieldDescriptor (T k).2.2.1 = some (ty0 k)) ∧ (∀ a, a < N → ∀ b, b < N → a ≠ b → (T a).2.1 ≠ (T b).2.1)
  | 0, C, T, N, h => by cases h; exact ⟨pq_in0, ⟨tyX0, tyX0_ok⟩, nmX0⟩
  | 1, C, T, N, h => by cases h; exact ⟨pq_in1, ⟨tyX1, tyX1_ok⟩, nmX1⟩
  | 2, C, T, N, h => by cases h; exact ⟨pq_in2, ⟨tyX2, tyX2_ok⟩, nmX2⟩
  | 3, C, T, N, h => by cases h; exact ⟨pq_in3, ⟨tyX3, tyX3_ok⟩, nmX3⟩
  | 4, C, T, N, h => by cases h; exact ⟨pq_in4, ⟨tyX4, tyX4_ok⟩, nmX4⟩
  | 5, C, T, N, h => by cases h; exact ⟨pq_in5, ⟨tyX5, tyX5_ok⟩, nmX5⟩
  | 6, C, T, N, h => by cases h; exact ⟨pq_in6, ⟨tyX6, tyX6_ok⟩, nmX6⟩
  | 7, C, T, N, h => by cases h; exact ⟨pq_in7, ⟨tyX7, tyX7_ok⟩, nmX7⟩
  | 8, C, T, N, h => by cases h; exact ⟨pq_in8, ⟨tyX8, tyX8_ok⟩, nmX8⟩
  | 9, C, T, N, h => by cases h; exact ⟨pq_in9, ⟨tyX9, tyX9_ok⟩, nmX9⟩
  | 10, C, T, N, h => by cases h; exact ⟨pq_in10, ⟨tyX10, tyX10_ok⟩, nmX10⟩
  | 11, C, T, N, h => by cases h; exact ⟨pq_in11, ⟨tyX11, tyX11_ok⟩, nmX11⟩
  | _ + 12, C, T, N, h => by cases h
def pq_isld (i : Instr) (t n : Nat) : Bool := match i with
  | .iload k => Nat.beq t 1 && Nat.beq k n
  | .iload_n k => Nat.beq t 1 && Nat.beq k.val n
  | .lload k => Nat.beq t 2 && Nat.beq k n
  | .lload_n k => Nat.beq t 2 && Nat.beq k.val n
  | .aload k => Nat.beq t 3 && Nat.beq k n
  | .aload_n k => Nat.beq t 3 && Nat.beq k.val n
  | .istore k => Nat.beq t 4 && Nat.beq k n
  | .istore_n k => Nat.beq t 4 && Nat.beq k.val n
  | .lstore k => Nat.beq t 5 && Nat.beq k n
  | .lstore_n k => Nat.beq t 5 && Nat.beq k.val n
  | .astore k => Nat.beq t 6 && Nat.beq k n
  | .astore_n k => Nat.beq t 6 && Nat.beq k.val n
  | _ => false
def pq_eo (tab : List pq_M) (M : pq_M) (cat pc : Nat) (i : Instr) (a : List Nat) (v : Value) (t : Nat) : Bool := match cat with
  | 0 => pq_push i v && (match i, v with
    | .ldc idx, .int x => pq_word t (.constant (pq_y M).cls idx x)
    | .ldc_w idx, .int x => pq_word t (.constant (pq_y M).cls idx x)
    | .ldc2_w idx, .long x => pq_word t (.constantLong (pq_y M).cls idx x)
    | .ldc _, _ => false
    | .ldc_w _, _ => false
    | .ldc2_w _, _ => false
    | _, _ => true)
  | 1 => pq_isld i 1 (a.headD 0)
  | 2 => pq_isld i 2 (a.headD 0)
  | 3 => pq_isld i 3 (a.headD 0)
  | 4 => pq_isld i 4 (a.headD 0) && Nat.blt (a.headD 0) (pq_mL M)
  | 5 => pq_isld i 5 (a.headD 0) && Nat.blt (a.headD 0 + 1) (pq_mL M)
  | 6 => pq_isld i 6 (a.headD 0) && Nat.blt (a.headD 0) (pq_mL M)
  | 7 => match i, v with
    | .iinc n d, .int y => Nat.beq n (a.headD 0) && Nat.blt n (pq_mL M) && decide (Int32.ofInt d = y)
    | _, _ => false
  | 8 => true
  | 9 => true
  | 10 => decide (i = .dup)
  | 11 => decide (i = .dup2)
  | 12 => match i with
    | .ifCond _ off => decide ((pc : Int) + off = ((a.headD 0 : Nat) : Int))
    | _ => false
  | 13 => match i with
    | .if_icmp _ off => decide ((pc : Int) + off = ((a.headD 0 : Nat) : Int))
    | _ => false
  | 14 => match i with
    | .goto off => decide ((pc : Int) + off = ((a.headD 0 : Nat) : Int))
    | _ => false
  | 16 => decide (i = .ireturn)
  | 17 => decide (i = .lreturn)
  | 18 => decide (i = .return_)
  | 19 => match i, pq_cl[a.headD 0]? with
    | .getfield idx, some (C, T, N) => Nat.blt (a.getD 1 0) N && decide ((T (a.getD 1 0)).1 = C) && pq_word t (.fieldLink (pq_y M).cls idx C (T (a.getD 1 0)).2.1 (T (a.getD 1 0)).2.2.1)
    | _, _ => false
  | 20 => match i, pq_cl[a.headD 0]? with
    | .putfield idx, some (C, T, N) => Nat.blt (a.getD 1 0) N && decide ((T (a.getD 1 0)).1 = C) && pq_word t (.fieldLink (pq_y M).cls idx C (T (a.getD 1 0)).2.1 (T (a.getD 1 0)).2.2.1) && Nat.beq (a.getD 2 9) (pq_sort (T (a.getD 1 0)).2.2.1) && (!(T (a.getD 1 0)).2.2.2 || (decide ((pq_y M).name = "<init>") && decide (C = (pq_y M).cls)))
    | _, _ => false
  | 21 => match i with
    | .iaload => Nat.beq (a.headD 9) 0
    | .laload => Nat.beq (a.headD 9) 1
    | .baload => Nat.beq (a.headD 9) 2
    | _ => false
  | 22 => match i with
    | .iastore => Nat.beq (a.headD 9) 0
    | .lastore => Nat.beq (a.headD 9) 1
    | .bastore => Nat.beq (a.headD 9) 2
    | _ => false
  | 23 => decide (i = .arraylength)
  | 24 => match i, pq_cl[a.headD 0]?, pq_dfl[a.headD 0]? with
    | .new idx, some (C, T, N), some fs => pq_word t (.classLink (pq_y M).cls idx C) && pq_word (a.getD 1 0) (.instantiable C N) && pq_word (a.getD 2 0) (.initialized C) && Nat.beq fs.length N && (List.range N).all (fun j => match parseFieldDescriptor (T j).2.2.1 with
      | some ty => decide (fs[j]? = some (defaultValue ty))
      | none => false)
    | _, _, _ => false
  | 25 => match i with
    | .newarray at0 => Nat.beq (a.headD 9) (pq_at2 at0) && pq_word t (.arrayClass (newarray.typeOf at0))
    | _ => false
  | 26 => match i with
    | .invokespecial idx => pq_word t (.methodLink (pq_y M).cls idx Lib.objectInit)
    | _ => false
  | 27 => match i with
    | .invokestatic idx => pq_word t (.methodLink (pq_y M).cls idx arraycopyName)
    | _ => false
  | 28 => match tab[a.headD 0]? with
    | some M1 => match i with
      | .invokestatic idx => Nat.beq ((pq_ns M1).getD 0 9) 0 && Nat.beq (a.getD 1 0) ((pq_ns M1).getD 1 0) && (pq_word t (.methodLink (pq_y M).cls idx (pq_y M1)) || decide (pq_wat t = some (.methodLinkNest (pq_y M).cls idx (pq_y M1) "SkyFees")))
      | .invokevirtual idx => Nat.beq ((pq_ns M1).getD 0 9) 1 && Nat.beq (a.getD 1 0) ((pq_ns M1).getD 1 0 + 1) && (pq_word t (.methodLink (pq_y M).cls idx (pq_y M1)) || decide (pq_wat t = some (.methodLinkNest (pq_y M).cls idx (pq_y M1) "SkyFees")))
      | .invokespecial idx => Nat.beq ((pq_ns M1).getD 0 9) 2 && Nat.beq (a.getD 1 0) ((pq_ns M1).getD 1 0 + 1) && (pq_word t (.methodLink (pq_y M).cls idx (pq_y M1)) || decide (pq_wat t = some (.methodLinkNest (pq_y M).cls idx (pq_y M1) "SkyFees")))
      | _ => false
    | none => false
  | 29 => match i, pq_mn (a.headD 9) with
    | .invokestatic idx, some y => pq_word t (.methodLink (pq_y M).cls idx y)
    | _, _ => false
  | 30 => match i, v with
    | .getstatic idx, .ref 1 => pq_word t (.fieldLink (pq_y M).cls idx "SkyFees" "ABOVE" "[I") || decide (pq_wat t = some (.fieldLinkNest (pq_y M).cls idx "SkyFees" "ABOVE" "[I" "SkyFees"))
    | .getstatic idx, .ref 2 => pq_word t (.fieldLink (pq_y M).cls idx "SkyFees" "BODIES" "[I") || decide (pq_wat t = some (.fieldLinkNest (pq_y M).cls idx "SkyFees" "BODIES" "[I" "SkyFees"))
    | .getstatic idx, .int x => decide (x = 1) && pq_word t (.fieldLink (pq_y M).cls idx "java/lang/String" "COMPACT_STRINGS" "Z")
    | .ldc idx, .ref 3 => decide ((pq_y M).cls = "SkyFeesModel") && Nat.beq idx 195
    | _, _ => false
  | 32 => decide (i = .pop)
  | 31 => match i, v with
    | .getfield idx, .int x => decide (x = 0) && pq_word t (.fieldLink (pq_y M).cls idx "java/lang/String" "coder" "B")
    | .getfield idx, .ref 4 => pq_word t (.fieldLink (pq_y M).cls idx "java/lang/String" "value" "[B")
    | _, _ => false
  | _ => false
/-- what is checked of a row -/
def pq_eok (tab : List pq_M) (M : pq_M) (q : pq_N) : Bool := match q with
  | (pc, cat, nx, i, a, v, t) => match cat with
    | 15 => decide (decode (pq_by M) pc = .ok (i, t)) && (match i with
      | .tableswitch d _ _ offs => decide (a.map (fun z : Nat => (z : Int)) = (d :: offs.toList).map (fun o => (pc : Int) + o))
      | .lookupswitch d ps => decide (a.map (fun z : Nat => (z : Int)) = (d :: ps.toList.map (fun z => z.2)).map (fun o => (pc : Int) + o)) && (ps.toList.zip (ps.toList.drop 1)).all (fun (a, next) => a.1 < next.1)
      | _ => false)
    | cat => decide (decode (pq_by M) pc = .ok (i, pq_il i)) && Nat.beq nx (pc + pq_il i) && pq_eo tab M cat pc i a v t
def pq_mok (tab : List pq_M) (M : pq_M) : Prop := pq_mf M ((pq_ns M).getD 0 9) ((pq_ns M).getD 1 0) ∧ (pq_cd M).all (fun b => b.2.all (pq_eok tab M)) = true
/-- the receiver of a virtual method is a cell of its name -/
def pq_rcv (M : pq_M) (as : List Value) (w : pq_W) : Bool := match (pq_ns M).headD 9 with
  | 1 => match as with
    | .ref b :: _ => match w[b]? with
      | some (.inr (ci, _)) => Nat.beq ci ((pq_ns M).getD 6 99)
      | _ => false
    | _ => false
  | 2 => match as with
    | .ref _ :: _ => true
    | _ => false
  | _ => true
/-- a method's run, d calls deep, F rows long at most in each -/
noncomputable def pq_run (tab : List pq_M) (F : Nat) (d : Nat) : Nat → List Value → pq_W → Option pq_R :=
  Nat.rec (motive := fun _ => Nat → List Value → pq_W → Option pq_R) (fun _ _ _ => none) (fun _ ih j as w => match tab[j]? with
    | some M => bif Nat.ble (pq_sum as) (pq_mL M) && pq_rcv M as w then pq_exec ih (pq_lim tab) (pq_lm M) (pq_rt M) (pq_cd M) F 0 (lv_args 0 as) [] w 0 0 else none
    | none => none) d
theorem pq_ld_ok {i : Instr} {n : Nat} : (pq_isld i 1 n = true → i = .iload n ∨ ∃ j : Fin 4, i = .iload_n j ∧ j.val = n) ∧ (pq_isld i 2 n = true → i = .lload n ∨ ∃ j : Fin 4, i = .lload_n j ∧ j.val = n) ∧ (pq_isld i 3 n = true → i = .aload n ∨ ∃ j : Fin 4, i = .aload_n j ∧ j.val = n) ∧ (pq_isld i 4 n = true → i = .istore n ∨ ∃ j : Fin 4, i = .istore_n j ∧ j.val = n) ∧ (pq_isld i 5 n = true → i = .lstore n ∨ ∃ j : Fin 4, i = .lstore_n j ∧ j.val = n) ∧ (pq_isld i 6 n = true → i = .astore n ∨ ∃ j : Fin 4, i = .astore_n j ∧ j.val = n) := by
  refine ⟨fun h => ?_, fun h => ?_, fun h => ?_, fun h => ?_, fun h => ?_, fun h => ?_⟩
  all_goals
    unfold pq_isld at h
    split at h <;> first
      | (cases h; done)
      | (simp only [Bool.and_eq_true] at h
         have h1 := Nat.eq_of_beq_eq_true h.1
         have h2 := Nat.eq_of_beq_eq_true h.2
         first
           | (cases h1; done)
           | (subst h2; exact Or.inl rfl)
           | exact Or.inr ⟨_, rfl, h2⟩)
end
section
section PQ5
variable {p : Program} {l : Launch} {e : Env} {s : State} {m : MethodId} {args : Array Value} {below : List Frame} {meth : Method} {c : Code} {D : va_G} {ad : Nat → Nat} {h0 : Nat}
theorem pq_lsw_ok : ∀ (ps : List (Int × Int)) (ts : List Nat) (d : Int) (d' : Nat) (x : Int32) (pc tgt : Nat), ts.map (fun z : Nat => (z : Int)) = (ps.map (fun z => z.2)).map (fun o => (pc : Int) + o) → (d' : Int) = (pc : Int) + d → pq_lsw ps ts d' x = some tgt → (pc : Int) + Op.lookupswitch.offset ps d x.toInt = (tgt : Int)
  | [], ts, d, d', x, pc, tgt, h, hd, hs => by
    cases hs
    rw [hd]
    rfl
  | q :: r, [], d, d', x, pc, tgt, h, hd, hs => by cases hs
  | (qa, qo) :: r, t :: ts, d, d', x, pc, tgt, h, hd, hs => by
    simp only [List.map_cons, List.cons.injEq] at h
    rw [Op.lookupswitch.offset_cons]
    unfold pq_lsw at hs
    split at hs
    · rename_i hx
      cases hs
      rw [if_pos (show qa = x.toInt from Eq.symm hx), h.1]
    · rename_i hx
      rw [if_neg (show ¬ qa = x.toInt from fun z => hx (Eq.symm z))]
      exact pq_lsw_ok r ts d d' x pc tgt h.2 hd hs
/-- a row that ends a method, and its answer -/
def pq_ends (b : ByteArray) (ret : Option FieldType) (r : Option Value) (pc : Nat) (st : List Value) (i : Instr) : Prop :=
  (decode b pc = .ok (i, 1) ∧ i = .ireturn ∧ ∃ x : Int32, st = [.int x] ∧ r = some (.int x) ∧ (ret = some .int ∨ (ret = some .boolean ∨ ret = some .byte) ∧ (x = 0 ∨ x = 1))) ∨ (decode b pc = .ok (i, 1) ∧ i = .lreturn ∧ ∃ x : Int64, st = [.long x] ∧ r = some (.long x) ∧ ret = some .long) ∨ (decode b pc = .ok (i, 1) ∧ i = .return_ ∧ st = [] ∧ r = none ∧ ret = none)
theorem pq_do_ok {tab : List pq_M} {M : pq_M} {d : Nat} {R : Room} {Q : State → Prop} {call : Nat → List Value → pq_W → Option pq_R} {r : Option Value} {w' : pq_W} (hok : ∀ M ∈ tab, pq_mok tab M)
    (hcall : ∀ (j : Nat) (as : List Value) (w : pq_W) (r : Option Value) (w' : pq_W), call j as w = some (r, w') → ∃ M, tab[j]? = some M ∧ pq_rcv M as w = true ∧ Met l (pq_y M) (pq_ws M) (pq_rm d (pq_lm M)) (pq_Pc ad D as w) (pq_Qc ad D h0 r w') (pq_lm M).1 (pq_lm M).2 (fun q => h0 ≤ q))
    (hR : d + 1 ≤ R.frames ∧ 80 * d + 120 ≤ R.locals ∧ (pq_lm M).1 ≤ R.cells ∧ (pq_lm M).2 ≤ R.slots) (hret : ∀ (pc : Nat) (ls : pq_L) (st : List Value) (cs ss : Nat) (i : Instr), pq_ends (pq_by M) (pq_rt M) r pc st i → cs ≤ (pq_lm M).1 → ss ≤ (pq_lm M).2 → pq_G p l e R s m args below meth c Q (pq_mL M) D ad h0 pc ls st w' cs ss)
    (X : pq_X p s m args meth c (pq_by M) (pq_y M).cls (pq_mL M) (pq_rt M) (pq_y M).name D ad h0)
    (k : Nat → pq_L → List Value → pq_W → Nat → Nat → Option pq_R) (hk : ∀ (pc : Nat) (ls : pq_L) (st : List Value) (w : pq_W) (cs ss : Nat), k pc ls st w cs ss = some (r, w') → pq_G p l e R s m args below meth c Q (pq_mL M) D ad h0 pc ls st w cs ss)
    (q : pq_N) (ls : pq_L) (st : List Value) (w : pq_W) (cs ss : Nat) (hq0 : pq_eok tab M q = true) (h00 : pq_do call (pq_lim tab) (pq_lm M) (pq_rt M) k q ls st w cs ss = some (r, w')) :
    pq_G p l e R s m args below meth c Q (pq_mL M) D ad h0 q.1 ls st w cs ss := by
  obtain ⟨pc, cat, nx, i, a, v, t⟩ := q
  have base : ∀ {z : Nat}, ¬ z = 15 → pq_eok tab M (pc, z, nx, i, a, v, t) = true → decode (pq_by M) pc = .ok (i, pq_il i) ∧ nx = pc + pq_il i ∧ pq_eo tab M z pc i a v t = true := by
    intro z hz hb
    unfold pq_eok at hb
    split at hb
    rename_i e1
    cases e1
    split at hb
    · exact absurd rfl hz
    · simp only [Bool.and_eq_true, decide_eq_true_eq] at hb
      exact ⟨hb.1.1, Nat.eq_of_beq_eq_true hb.1.2, hb.2⟩
  match cat, hq0, h00 with
  | 0, hq, h =>
    replace hq := base (by decide) hq
    obtain ⟨hd, hnx, hq⟩ := hq
    try simp only [pq_eo] at hq
    subst hnx
    simp only [Bool.and_eq_true] at hq
    refine pg_push X hd hq.1 ?_ (hk _ _ _ _ _ _ h)
    intro idx
    refine ⟨fun x hi hv => ?_, fun x hi hv => ?_⟩
    · subst hv
      rcases hi with rfl | rfl
      · exact pq_word_ok hq.2
      · exact pq_word_ok hq.2
    · subst hv
      subst hi
      exact pq_word_ok hq.2
  | 1, hq, h =>
    replace hq := base (by decide) hq
    obtain ⟨hd, hnx, hq⟩ := hq
    try simp only [pq_eo] at hq
    subst hnx
    simp only [pq_do] at h
    split at h
    · rename_i x hx
      exact pg_iload X hd (pq_ld_ok.1 hq) hx (hk _ _ _ _ _ _ h)
    · cases h
  | 2, hq, h =>
    replace hq := base (by decide) hq
    obtain ⟨hd, hnx, hq⟩ := hq
    try simp only [pq_eo] at hq
    subst hnx
    simp only [pq_do] at h
    split at h
    · rename_i x hx
      exact pg_lload X hd (pq_ld_ok.2.1 hq) hx (hk _ _ _ _ _ _ h)
    · cases h
  | 3, hq, h =>
    replace hq := base (by decide) hq
    obtain ⟨hd, hnx, hq⟩ := hq
    try simp only [pq_eo] at hq
    subst hnx
    simp only [pq_do] at h
    split at h
    · rename_i x hx
      exact pg_aload X hd (pq_ld_ok.2.2.1 hq) hx (hk _ _ _ _ _ _ h)
    · cases h
  | 4, hq, h =>
    replace hq := base (by decide) hq
    obtain ⟨hd, hnx, hq⟩ := hq
    try simp only [pq_eo] at hq
    subst hnx
    simp only [Bool.and_eq_true] at hq
    simp only [pq_do] at h
    split at h
    · exact pg_istore X hd (pq_ld_ok.2.2.2.1 hq.1) (Nat.le_of_ble_eq_true hq.2) (hk _ _ _ _ _ _ h)
    · cases h
  | 5, hq, h =>
    replace hq := base (by decide) hq
    obtain ⟨hd, hnx, hq⟩ := hq
    try simp only [pq_eo] at hq
    subst hnx
    simp only [Bool.and_eq_true] at hq
    simp only [pq_do] at h
    split at h
    · exact pg_lstore X hd (pq_ld_ok.2.2.2.2.1 hq.1) (Nat.le_of_ble_eq_true hq.2) (hk _ _ _ _ _ _ h)
    · cases h
  | 6, hq, h =>
    replace hq := base (by decide) hq
    obtain ⟨hd, hnx, hq⟩ := hq
    try simp only [pq_eo] at hq
    subst hnx
    simp only [Bool.and_eq_true] at hq
    simp only [pq_do] at h
    split at h
    · exact pg_astore X hd (pq_ld_ok.2.2.2.2.2 hq.1) (Nat.le_of_ble_eq_true hq.2) (hk _ _ _ _ _ _ h)
    · cases h
  | 7, hq, h =>
    replace hq := base (by decide) hq
    obtain ⟨hd, hnx, hq⟩ := hq
    try simp only [pq_eo] at hq
    subst hnx
    simp only [pq_do] at h
    split at hq
    · rename_i n dd y
      simp only [Bool.and_eq_true, decide_eq_true_eq] at hq
      obtain ⟨⟨h1, h2⟩, h3⟩ := hq
      have h1 := Nat.eq_of_beq_eq_true h1
      split at h
      · rename_i x y' hx hy
        cases hy
        rw [← h1] at h hx
        exact pg_iinc X hd (Nat.le_of_ble_eq_true h2) hx h3 (hk _ _ _ _ _ _ h)
      · cases h
    · cases hq
  | 8, hq, h =>
    replace hq := base (by decide) hq
    obtain ⟨hd, hnx, hq⟩ := hq
    try simp only [pq_eo] at hq
    subst hnx
    simp only [pq_do] at h
    split at h
    · split at h
      · rename_i hz
        exact pg_bin X hd hz (hk _ _ _ _ _ _ h)
      · cases h
    · cases h
  | 9, hq, h =>
    replace hq := base (by decide) hq
    obtain ⟨hd, hnx, hq⟩ := hq
    try simp only [pq_eo] at hq
    subst hnx
    simp only [pq_do] at h
    split at h
    · split at h
      · rename_i hz
        exact pg_un X hd hz (hk _ _ _ _ _ _ h)
      · cases h
    · cases h
  | 10, hq, h =>
    replace hq := base (by decide) hq
    obtain ⟨hd, hnx, hq⟩ := hq
    try simp only [pq_eo] at hq
    subst hnx
    have hq := of_decide_eq_true hq
    subst hq
    simp only [pq_do] at h
    split at h
    · cases hc : Nat.beq (Value.category _) 1 with
      | true =>
        rw [hc] at h
        exact pg_dup X hd (Nat.eq_of_beq_eq_true hc) (hk _ _ _ _ _ _ h)
      | false =>
        rw [hc] at h
        cases h
    · cases h
  | 11, hq, h =>
    replace hq := base (by decide) hq
    obtain ⟨hd, hnx, hq⟩ := hq
    try simp only [pq_eo] at hq
    subst hnx
    have hq := of_decide_eq_true hq
    subst hq
    simp only [pq_do] at h
    split at h
    · rename_i x y st'
      cases hc : (Nat.beq x.category 1 && Nat.beq y.category 1) with
      | true =>
        rw [hc] at h
        simp only [Bool.and_eq_true] at hc
        exact pg_dup2 X hd (Nat.eq_of_beq_eq_true hc.1) (Nat.eq_of_beq_eq_true hc.2) (hk _ _ _ _ _ _ h)
      | false =>
        rw [hc] at h
        cases h
    · cases h
  | 12, hq, h =>
    replace hq := base (by decide) hq
    obtain ⟨hd, hnx, hq⟩ := hq
    try simp only [pq_eo] at hq
    subst hnx
    simp only [pq_do] at h
    split at hq
    · rename_i cd off
      have hq := of_decide_eq_true hq
      split at h
      · rename_i x st' cd' off' he
        cases he
        exact pg_if X hd hq (fun hb => by rw [hb] at h; exact hk _ _ _ _ _ _ h) (fun hb => by rw [hb] at h; exact hk _ _ _ _ _ _ h)
      · cases h
    · cases hq
  | 13, hq, h =>
    replace hq := base (by decide) hq
    obtain ⟨hd, hnx, hq⟩ := hq
    try simp only [pq_eo] at hq
    subst hnx
    simp only [pq_do] at h
    split at hq
    · rename_i cd off
      have hq := of_decide_eq_true hq
      split at h
      · rename_i y x st' cd' off' he
        cases he
        exact pg_icmp X hd hq (fun hb => by rw [hb] at h; exact hk _ _ _ _ _ _ h) (fun hb => by rw [hb] at h; exact hk _ _ _ _ _ _ h)
      · cases h
    · cases hq
  | 14, hq, h =>
    replace hq := base (by decide) hq
    obtain ⟨hd, hnx, hq⟩ := hq
    try simp only [pq_eo] at hq
    subst hnx
    simp only [pq_do] at h
    split at hq
    · exact pg_goto X hd (of_decide_eq_true hq) (hk _ _ _ _ _ _ h)
    · cases hq
  | 15, hq, h =>
    simp only [pq_eok, Bool.and_eq_true, decide_eq_true_eq] at hq
    simp only [pq_do] at h
    obtain ⟨hd, hq⟩ := hq
    split at h
    · rename_i x st'
      split at h
      · rename_i tg htg
        split at hq
        · rename_i dd lo hi offs
          have hq := of_decide_eq_true hq
          simp only [pq_sw] at htg
          split at htg
          · rename_i hh
            refine pg_tsw (off := dd) X hd (Or.inl ⟨hh, rfl⟩) ?_ (hk _ _ _ _ _ _ h)
            cases a with
            | nil => cases htg
            | cons a0 a1 =>
              cases htg
              simp only [List.map_cons, List.cons.injEq] at hq
              exact hq.1.symm
          · rename_i hh
            cases a with
            | nil => simp at htg
            | cons a0 a1 =>
              simp only [List.map_cons, List.cons.injEq] at hq
              rw [List.getElem?_cons_succ] at htg
              have e1 : (a1.map (fun z : Nat => (z : Int)))[(x.toInt - lo).toNat]? = some (tg : Int) := by rw [List.getElem?_map, htg]; rfl
              rw [hq.2, List.getElem?_map] at e1
              cases ho : offs.toList[(x.toInt - lo).toNat]? with
              | none => rw [ho] at e1; cases e1
              | some off =>
                rw [ho] at e1
                refine pg_tsw (off := off) X hd (Or.inr ⟨hh, by rw [← Array.getElem?_toList]; exact ho⟩) (Option.some.inj e1) (hk _ _ _ _ _ _ h)
        · rename_i dd ps
          simp only [Bool.and_eq_true, decide_eq_true_eq] at hq
          simp only [pq_sw] at htg
          cases a with
          | nil => simp at hq
          | cons a0 a1 =>
            simp only [List.map_cons, List.cons.injEq] at hq
            exact pg_lsw X hd hq.2 (pq_lsw_ok ps.toList a1 dd a0 x pc tg hq.1.2 hq.1.1 htg) (hk _ _ _ _ _ _ h)
        · cases hq
      · cases h
    · cases h
  | 16, hq, h =>
    replace hq := base (by decide) hq
    obtain ⟨hd, hnx, hq⟩ := hq
    try simp only [pq_eo] at hq
    subst hnx
    have hq := of_decide_eq_true hq
    subst hq
    simp only [pq_do] at h
    split at h
    · rename_i x
      cases hc : (Nat.ble cs (pq_lm M).1 && Nat.ble ss (pq_lm M).2) with
      | true =>
        rw [hc] at h
        simp only [Bool.and_eq_true] at hc
        simp only [cond_true] at h
        split at h
        · rename_i hr
          cases h
          exact hret _ _ _ _ _ _ (Or.inl ⟨hd, rfl, _, rfl, rfl, Or.inl hr⟩) (Nat.le_of_ble_eq_true hc.1) (Nat.le_of_ble_eq_true hc.2)
        · rename_i hr
          split at h
          · rename_i hv
            cases h
            exact hret _ _ _ _ _ _ (Or.inl ⟨hd, rfl, _, rfl, rfl, Or.inr ⟨Or.inl hr, hv⟩⟩) (Nat.le_of_ble_eq_true hc.1) (Nat.le_of_ble_eq_true hc.2)
          · cases h
        · rename_i hr
          split at h
          · rename_i hv
            cases h
            exact hret _ _ _ _ _ _ (Or.inl ⟨hd, rfl, _, rfl, rfl, Or.inr ⟨Or.inr hr, hv⟩⟩) (Nat.le_of_ble_eq_true hc.1) (Nat.le_of_ble_eq_true hc.2)
          · cases h
        · cases h
      | false =>
        rw [hc] at h
        cases h
    · cases h
  | 17, hq, h =>
    replace hq := base (by decide) hq
    obtain ⟨hd, hnx, hq⟩ := hq
    try simp only [pq_eo] at hq
    subst hnx
    have hq := of_decide_eq_true hq
    subst hq
    simp only [pq_do] at h
    split at h
    · rename_i x
      cases hc : (Nat.ble cs (pq_lm M).1 && Nat.ble ss (pq_lm M).2) with
      | true =>
        rw [hc] at h
        simp only [Bool.and_eq_true] at hc
        simp only [cond_true] at h
        split at h
        · rename_i hr
          cases h
          exact hret _ _ _ _ _ _ (Or.inr (Or.inl ⟨hd, rfl, _, rfl, rfl, hr⟩)) (Nat.le_of_ble_eq_true hc.1) (Nat.le_of_ble_eq_true hc.2)
        · cases h
      | false =>
        rw [hc] at h
        cases h
    · cases h
  | 18, hq, h =>
    replace hq := base (by decide) hq
    obtain ⟨hd, hnx, hq⟩ := hq
    try simp only [pq_eo] at hq
    subst hnx
    have hq := of_decide_eq_true hq
    subst hq
    simp only [pq_do] at h
    split at h
    · cases hc : (Nat.ble cs (pq_lm M).1 && Nat.ble ss (pq_lm M).2) with
      | true =>
        rw [hc] at h
        simp only [Bool.and_eq_true] at hc
        simp only [cond_true] at h
        split at h
        · rename_i hr
          cases h
          exact hret _ _ _ _ _ _ (Or.inr (Or.inr ⟨hd, rfl, rfl, rfl, hr⟩)) (Nat.le_of_ble_eq_true hc.1) (Nat.le_of_ble_eq_true hc.2)
        · cases h
      | false =>
        rw [hc] at h
        cases h
    · cases h
  | 19, hq, h =>
    replace hq := base (by decide) hq
    obtain ⟨hd, hnx, hq⟩ := hq
    try simp only [pq_eo] at hq
    subst hnx
    simp only [pq_do] at h
    split at hq
    · rename_i idx C T N hcl
      simp only [Bool.and_eq_true, decide_eq_true_eq] at hq
      obtain ⟨⟨h1, h2⟩, h3⟩ := hq
      split at h
      · split at h
        · rename_i ci fs hr
          cases hc : Nat.beq ci (a.headD 0) with
          | true =>
            rw [hc] at h
            simp only [cond_true] at h
            have hc := Nat.eq_of_beq_eq_true hc
            rw [← hc] at hcl
            split at h
            · rename_i z hz
              exact pg_get X hd hcl (pq_clok ci C T N hcl).1 (Nat.le_of_ble_eq_true h1) h2 (pq_word_ok h3) hr hz (hk _ _ _ _ _ _ h)
            · cases h
          | false =>
            rw [hc] at h
            cases h
        · cases h
      · cases h
    · cases hq
  | 20, hq, h =>
    replace hq := base (by decide) hq
    obtain ⟨hd, hnx, hq⟩ := hq
    try simp only [pq_eo] at hq
    subst hnx
    simp only [pq_do] at h
    split at hq
    · rename_i idx C T N hcl
      simp only [Bool.and_eq_true, decide_eq_true_eq, Bool.or_eq_true, Bool.not_eq_true'] at hq
      obtain ⟨⟨⟨⟨h1, h2⟩, h3⟩, h4⟩, h5⟩ := hq
      have h4 := Nat.eq_of_beq_eq_true h4
      split at h
      · split at h
        · rename_i z r0 st' x0 ci fs hr
          cases hc : (Nat.beq ci (a.headD 0) && Nat.ble pq_E r0 && Nat.blt (a.getD 1 0) fs.length && pq_fit (a.getD 2 9) z) with
          | true =>
            rw [hc] at h
            simp only [cond_true] at h
            simp only [Bool.and_eq_true] at hc
            obtain ⟨⟨⟨c1, c2⟩, c3⟩, c4⟩ := hc
            have c1 := Nat.eq_of_beq_eq_true c1
            rw [← c1] at hcl
            obtain ⟨k1, ⟨ty0, k2⟩, k3⟩ := pq_clok ci C T N hcl
            rw [h4] at c4
            exact pg_put ty0 X hd hcl k1 k2 k3 (Nat.le_of_ble_eq_true h1) h2 (pq_word_ok h3) h5 c4 hr (Nat.le_of_ble_eq_true c3) (Nat.le_of_ble_eq_true c2) (hk _ _ _ _ _ _ h)
          | false =>
            rw [hc] at h
            cases h
        · cases h
      · cases h
    · cases hq
  | 21, hq, h =>
    replace hq := base (by decide) hq
    obtain ⟨hd, hnx, hq⟩ := hq
    try simp only [pq_eo] at hq
    subst hnx
    simp only [pq_do] at h
    split at h
    · split at h
      · rename_i hr
        split at h
        · rename_i z hz
          split at hq
          · exact pg_ald X hd (Or.inl ⟨Nat.eq_of_beq_eq_true hq, rfl⟩) hr hz (hk _ _ _ _ _ _ h)
          · exact pg_ald X hd (Or.inr (Or.inl ⟨Nat.eq_of_beq_eq_true hq, rfl⟩)) hr hz (hk _ _ _ _ _ _ h)
          · exact pg_ald X hd (Or.inr (Or.inr ⟨Nat.eq_of_beq_eq_true hq, rfl⟩)) hr hz (hk _ _ _ _ _ _ h)
          · cases hq
        · cases h
      · cases h
    · cases h
  | 22, hq, h =>
    replace hq := base (by decide) hq
    obtain ⟨hd, hnx, hq⟩ := hq
    try simp only [pq_eo] at hq
    subst hnx
    simp only [pq_do] at h
    split at h
    · rename_i z x r0 st'
      split at h
      · rename_i hr
        split at h
        · rename_i c1 hz
          cases hc : Nat.ble pq_E r0 with
          | true =>
            rw [hc] at h
            simp only [cond_true] at h
            split at hq
            · exact pg_ast X hd (Or.inl ⟨Nat.eq_of_beq_eq_true hq, rfl⟩) hr hz (Nat.le_of_ble_eq_true hc) (hk _ _ _ _ _ _ h)
            · exact pg_ast X hd (Or.inr (Or.inl ⟨Nat.eq_of_beq_eq_true hq, rfl⟩)) hr hz (Nat.le_of_ble_eq_true hc) (hk _ _ _ _ _ _ h)
            · exact pg_ast X hd (Or.inr (Or.inr ⟨Nat.eq_of_beq_eq_true hq, rfl⟩)) hr hz (Nat.le_of_ble_eq_true hc) (hk _ _ _ _ _ _ h)
            · cases hq
          | false =>
            rw [hc] at h
            cases h
        · cases h
      · cases h
    · cases h
  | 23, hq, h =>
    replace hq := base (by decide) hq
    obtain ⟨hd, hnx, hq⟩ := hq
    try simp only [pq_eo] at hq
    subst hnx
    have hq := of_decide_eq_true hq
    subst hq
    simp only [pq_do] at h
    split at h
    · split at h
      · rename_i hr
        split at h
        · rename_i hz
          exact pg_alen X hd hr hz (hk _ _ _ _ _ _ h)
        · cases h
      · cases h
    · cases h
  | 24, hq, h =>
    replace hq := base (by decide) hq
    obtain ⟨hd, hnx, hq⟩ := hq
    try simp only [pq_eo] at hq
    subst hnx
    simp only [pq_do] at h
    split at hq
    · rename_i idx C T N fs hcl hfs
      simp only [Bool.and_eq_true] at hq
      obtain ⟨⟨⟨⟨h1, h2⟩, h3⟩, h4⟩, h5⟩ := hq
      have h4 := Nat.eq_of_beq_eq_true h4
      obtain ⟨k1, ⟨ty0, k2⟩, k3⟩ := pq_clok _ C T N hcl
      rw [hfs] at h
      simp only at h
      cases hc : (Nat.ble (cs + 1) (pq_lm M).1 && Nat.ble (ss + fs.length) (pq_lm M).2) with
      | true =>
        rw [hc] at h
        simp only [cond_true] at h
        simp only [Bool.and_eq_true] at hc
        rw [h4] at hc h
        refine pg_new (fs := fs) ty0 X hd hcl k1 k2 (pq_word_ok h1) (pq_word_ok h2) (pq_word_ok h3) ?_ (Nat.le_trans (Nat.le_of_ble_eq_true hc.1) hR.2.2.1) (Nat.le_trans (Nat.le_of_ble_eq_true hc.2) hR.2.2.2) (hk _ _ _ _ _ _ h)
        intro j hj
        have h6 := List.all_eq_true.mp h5 j (List.mem_range.mpr hj)
        rw [k2 j hj] at h6
        have h6 := of_decide_eq_true h6
        show _ = (fs.map (pq_v ad)).getD j .null
        rw [List.getD_eq_getElem?_getD, List.getElem?_map, h6]
        cases ty0 j <;> rfl
      | false =>
        rw [hc] at h
        cases h
    · cases hq
  | 25, hq, h =>
    replace hq := base (by decide) hq
    obtain ⟨hd, hnx, hq⟩ := hq
    try simp only [pq_eo] at hq
    subst hnx
    simp only [pq_do] at h
    split at hq
    · rename_i at0
      simp only [Bool.and_eq_true] at hq
      have h1 := Nat.eq_of_beq_eq_true hq.1
      split at h
      · rename_i n st'
        split at h
        · rename_i c1 hz
          split at h
          · cases h
          · rename_i hn
            cases hc : (Nat.ble (cs + 1) (pq_lm M).1 && Nat.ble (ss + n.toNatClampNeg) (pq_lm M).2) with
            | true =>
              rw [hc] at h
              simp only [cond_true] at h
              simp only [Bool.and_eq_true] at hc
              rw [h1] at hz
              exact pg_newa X hd (pq_word_ok hq.2) hz (fun z => hn (Or.inl z)) (Nat.not_lt.mp (fun z => hn (Or.inr z))) (Nat.le_trans (Nat.le_of_ble_eq_true hc.1) hR.2.2.1) (Nat.le_trans (Nat.le_of_ble_eq_true hc.2) hR.2.2.2) (hk _ _ _ _ _ _ h)
            | false =>
              rw [hc] at h
              cases h
        · cases h
      · cases h
    · cases hq
  | 26, hq, h =>
    replace hq := base (by decide) hq
    obtain ⟨hd, hnx, hq⟩ := hq
    try simp only [pq_eo] at hq
    subst hnx
    simp only [pq_do] at h
    split at hq
    · split at h
      · rename_i r0 st'
        cases hc : Nat.ble (pq_sum st') 8 with
        | true =>
          rw [hc] at h
          simp only [cond_true] at h
          exact pg_obj X hd (pq_word_ok hq) pq_obj2 pq_obj3 (by omega) (by omega) (Nat.le_of_ble_eq_true hc) (hk _ _ _ _ _ _ h)
        | false =>
          rw [hc] at h
          cases h
      · cases h
    · cases hq
  | 27, hq, h =>
    replace hq := base (by decide) hq
    obtain ⟨hd, hnx, hq⟩ := hq
    try simp only [pq_eo] at hq
    subst hnx
    simp only [pq_do] at h
    split at hq
    · split at h
      · rename_i n dp r1 sp r0 st'
        split at h
        · rename_i c0 c1 hr0 hr1
          split at h
          · rename_i c2 hz
            cases hc : (Nat.ble pq_E r0 && Nat.ble pq_E r1 && Nat.ble (pq_sum st') 8) with
            | true =>
              rw [hc] at h
              simp only [cond_true] at h
              simp only [Bool.and_eq_true] at hc
              exact pg_cp X hd (pq_word_ok hq) pq_cp2 pq_cp3 pq_cp4 (by omega) (by omega) (Nat.le_of_ble_eq_true hc.2) hr0 hr1 hz (Nat.le_of_ble_eq_true hc.1.1) (Nat.le_of_ble_eq_true hc.1.2) (hk _ _ _ _ _ _ h)
            | false =>
              rw [hc] at h
              cases h
          · cases h
        · cases h
      · cases h
    · cases hq
  | 28, hq, h =>
    replace hq := base (by decide) hq
    obtain ⟨hd, hnx, hq⟩ := hq
    try simp only [pq_eo] at hq
    subst hnx
    simp only [pq_do] at h
    split at hq
    · rename_i M1 hM1
      have hlim : pq_lim tab (a.headD 0) = pq_lm M1 := by unfold pq_lim; rw [hM1]
      rw [hlim] at h
      cases hc : (Nat.ble (a.getD 1 0) st.length && Nat.ble (pq_sum (st.drop (a.getD 1 0))) 8 && Nat.ble (cs + (pq_lm M1).1) (pq_lm M).1 && Nat.ble (ss + (pq_lm M1).2) (pq_lm M).2) with
      | false =>
        rw [hc] at h
        cases h
      | true =>
        rw [hc] at h
        simp only [cond_true] at h
        simp only [Bool.and_eq_true] at hc
        obtain ⟨⟨⟨c1, c2⟩, c3⟩, c4⟩ := hc
        have c1 := Nat.le_of_ble_eq_true c1
        split at h
        · rename_i r1 w1 hcl
          obtain ⟨M2, hM2, hrc, hmet⟩ := hcall _ _ _ _ _ hcl
          have e2 : M2 = M1 := Option.some.inj (hM2.symm.trans hM1)
          subst e2
          have hmf := (hok M2 (List.mem_of_getElem? hM1)).1
          have hst : st = ((st.take (a.getD 1 0)).reverse).reverse ++ st.drop (a.getD 1 0) := by rw [List.reverse_reverse, List.take_append_drop]
          have hlen : ((st.take (a.getD 1 0)).reverse).length = a.getD 1 0 := by rw [List.length_reverse, List.length_take]; omega
          have hlk : ∀ idx : Nat, (pq_word t (.methodLink (pq_y M).cls idx (pq_y M2)) || decide (pq_wat t = some (.methodLinkNest (pq_y M).cls idx (pq_y M2) "SkyFees"))) = true → Cond.methodLink (pq_y M).cls idx (pq_y M2) ∈ pq_gt ∨ ∃ host : String, Cond.methodLinkNest (pq_y M).cls idx (pq_y M2) host ∈ lw_tbl := by
            intro idx hh
            rcases Bool.or_eq_true_iff.mp hh with hh | hh
            · exact Or.inl (pq_word_ok hh)
            · exact Or.inr ⟨_, pq_wat_mem (of_decide_eq_true hh)⟩
          generalize has : (st.take (a.getD 1 0)).reverse = as at hst hlen hmet hrc
          rw [hst]
          have hcl2 : ((pq_cl[(pq_ns M2).getD 6 99]?).map (fun q => q.1) = some (pq_y M2).cls ∨ (pq_ns M2).getD 6 99 = 99 ∧ (pq_y M2).cls = "java/lang/String") ∨ ¬ (pq_ns M2).getD 0 9 = 1 := by
            rcases hmf.2.2.2.2.2 with hh | hh | hh
            · exact Or.inr (by rw [hh.1]; decide)
            · exact Or.inl hh.2.2.2
            · exact Or.inr (by rw [hh.1]; decide)
          have hd0 : (pq_ns M2).headD 9 = (pq_ns M2).getD 0 9 := by cases pq_ns M2 <;> rfl
          split at hq
          · rename_i idx
            simp only [Bool.and_eq_true] at hq
            have q1 := Nat.eq_of_beq_eq_true hq.1.1
            have q2 := Nat.eq_of_beq_eq_true hq.1.2
            exact pg_call (M := M2) (kd := (pq_ns M2).getD 0 9) X hmet hmf (Or.inl ⟨q1, hd, by rw [hlen, q2]⟩) (hlk idx hq.2) hR.1 hR.2.1 (Nat.le_of_ble_eq_true c2) (Nat.le_trans (Nat.le_of_ble_eq_true c3) hR.2.2.1) (Nat.le_trans (Nat.le_of_ble_eq_true c4) hR.2.2.2) (hk _ _ _ _ _ _ h)
          · rename_i idx
            simp only [Bool.and_eq_true] at hq
            have q1 := Nat.eq_of_beq_eq_true hq.1.1
            have q2 := Nat.eq_of_beq_eq_true hq.1.2
            refine pg_call (M := M2) (kd := (pq_ns M2).getD 0 9) X hmet hmf (Or.inr (Or.inl ⟨q1, hd, by rw [hlen, q2], ?_⟩)) (hlk idx hq.2) hR.1 hR.2.1 (Nat.le_of_ble_eq_true c2) (Nat.le_trans (Nat.le_of_ble_eq_true c3) hR.2.2.1) (Nat.le_trans (Nat.le_of_ble_eq_true c4) hR.2.2.2) (hk _ _ _ _ _ _ h)
            have hcl2 := hcl2.resolve_right (fun z => z q1)
            unfold pq_rcv at hrc
            rw [hd0, q1] at hrc
            simp only at hrc
            split at hrc
            · rename_i b as1
              split at hrc
              · rename_i ci fs hb1
                have hb2 := Nat.eq_of_beq_eq_true hrc
                rw [← hb2] at hcl2
                rcases hcl2 with hcl2 | hcl2
                · cases hq3 : pq_cl[ci]? with
                  | none => rw [hq3] at hcl2; cases hcl2
                  | some qq =>
                    rw [hq3] at hcl2
                    exact ⟨b, ci, fs, rfl, hb1, Or.inl ⟨qq, hq3, Option.some.inj hcl2⟩⟩
                · exact ⟨b, ci, fs, rfl, hb1, Or.inr hcl2⟩
              · cases hrc
            · cases hrc
          · rename_i idx
            simp only [Bool.and_eq_true] at hq
            have q1 := Nat.eq_of_beq_eq_true hq.1.1
            have q2 := Nat.eq_of_beq_eq_true hq.1.2
            refine pg_call (M := M2) (kd := (pq_ns M2).getD 0 9) X hmet hmf (Or.inr (Or.inr ⟨q1, hd, by rw [hlen, q2], ?_⟩)) (hlk idx hq.2) hR.1 hR.2.1 (Nat.le_of_ble_eq_true c2) (Nat.le_trans (Nat.le_of_ble_eq_true c3) hR.2.2.1) (Nat.le_trans (Nat.le_of_ble_eq_true c4) hR.2.2.2) (hk _ _ _ _ _ _ h)
            unfold pq_rcv at hrc
            rw [hd0, q1] at hrc
            simp only at hrc
            split at hrc
            · rename_i b as1
              exact ⟨b, rfl⟩
            · cases hrc
          · cases hq
        · cases h
    · cases hq
  | 29, hq, h =>
    replace hq := base (by decide) hq
    obtain ⟨hd, hnx, hq⟩ := hq
    try simp only [pq_eo] at hq
    subst hnx
    simp only [pq_do] at h
    split at hq
    · rename_i idx y hy
      split at h
      · rename_i st1 hz
        cases hc : (Nat.ble (pq_sum st1) 8 && Nat.ble cs (pq_lm M).1 && Nat.ble ss (pq_lm M).2) with
        | true =>
          rw [hc] at h
          simp only [cond_true] at h
          simp only [Bool.and_eq_true] at hc
          obtain ⟨⟨c1, c2⟩, c3⟩ := hc
          have c1 := Nat.le_of_ble_eq_true c1
          have c2 := Nat.le_trans (Nat.le_of_ble_eq_true c2) hR.2.2.1
          have c3 := Nat.le_trans (Nat.le_of_ble_eq_true c3) hR.2.2.2
          generalize a.headD 9 = op at hy hz
          unfold pq_mn at hy
          split at hy
          · cases hy
            simp only [pq_math, pq_m0] at hz
            split at hz
            · cases hz
              exact pg_math0 X hd (pq_word_ok hq) pq_ms0 pq_mi pq_mc0 (by omega) (by omega) (Nat.le_trans (by unfold pq_sum; rw [List.map_cons, List.sum_cons]; exact Nat.le_add_left _ _) c1) c2 c3 (hk _ _ _ _ _ _ h)
            · cases hz
          · cases hy
            simp only [pq_math, pq_m1] at hz
            split at hz
            · cases hz
              exact pg_math1 X hd (pq_word_ok hq) pq_ms1 pq_mi pq_mc1 (by omega) (by omega) (Nat.le_trans (by unfold pq_sum; rw [List.map_cons, List.sum_cons]; exact Nat.le_add_left _ _) c1) c2 c3 (hk _ _ _ _ _ _ h)
            · cases hz
          · cases hy
            simp only [pq_math, pq_m2] at hz
            split at hz
            · cases hz
              exact pg_math2 X hd (pq_word_ok hq) pq_ms2 pq_mi pq_mc2 (by omega) (by omega) (Nat.le_trans (by unfold pq_sum; rw [List.map_cons, List.sum_cons]; exact Nat.le_add_left _ _) c1) c2 c3 (hk _ _ _ _ _ _ h)
            · cases hz
          · cases hy
            simp only [pq_math, pq_m3] at hz
            split at hz
            · cases hz
              exact pg_math3 X hd (pq_word_ok hq) pq_ms3 pq_mi pq_mc3 (by omega) (by omega) (Nat.le_trans (by unfold pq_sum; rw [List.map_cons, List.sum_cons]; exact Nat.le_add_left _ _) c1) c2 c3 (hk _ _ _ _ _ _ h)
            · cases hz
          · cases hy
            simp only [pq_math, pq_m4] at hz
            split at hz
            · cases hz
              exact pg_math4 X hd (pq_word_ok hq) pq_ms4 pq_mi pq_mc4 (by omega) (by omega) (Nat.le_trans (by unfold pq_sum; rw [List.map_cons, List.sum_cons]; exact Nat.le_add_left _ _) c1) c2 c3 (hk _ _ _ _ _ _ h)
            · cases hz
          · cases hy
        | false =>
          rw [hc] at h
          cases h
      · cases h
    · cases hq
  | 30, hq, h =>
    replace hq := base (by decide) hq
    obtain ⟨hd, hnx, hq⟩ := hq
    try simp only [pq_eo] at hq
    subst hnx
    simp only [pq_do] at h
    split at hq
    · rename_i idx
      refine pg_gets (C := "SkyFees") (n := "ABOVE") (d := "[I") (v := .ref 1) X hd (fun H z => z.1) ?_ (hk _ _ _ _ _ _ h)
      rcases Bool.or_eq_true_iff.mp hq with hh | hh
      · exact Or.inl (pq_word_ok hh)
      · exact Or.inr (pq_wat_mem (of_decide_eq_true hh))
    · rename_i idx
      refine pg_gets (C := "SkyFees") (n := "BODIES") (d := "[I") (v := .ref 2) X hd (fun H z => z.2.1) ?_ (hk _ _ _ _ _ _ h)
      rcases Bool.or_eq_true_iff.mp hq with hh | hh
      · exact Or.inl (pq_word_ok hh)
      · exact Or.inr (pq_wat_mem (of_decide_eq_true hh))
    · rename_i idx x
      simp only [Bool.and_eq_true, decide_eq_true_eq] at hq
      obtain ⟨e, hq⟩ := hq
      subst e
      exact pg_gets (C := "java/lang/String") (n := "COMPACT_STRINGS") (d := "Z") (v := .int 1) X hd (fun H z => z.2.2) (Or.inl (pq_word_ok hq)) (hk _ _ _ _ _ _ h)
    · rename_i idx
      simp only [Bool.and_eq_true, decide_eq_true_eq] at hq
      have X2 := X
      rw [hq.1] at X2
      exact pg_ldcS X2 hd (Nat.eq_of_beq_eq_true hq.2) (hk _ _ _ _ _ _ h)
    · cases hq
  | 31, hq, h =>
    replace hq := base (by decide) hq
    obtain ⟨hd, hnx, hq⟩ := hq
    try simp only [pq_eo] at hq
    subst hnx
    simp only [pq_do] at h
    split at h
    · rename_i rr st1
      split at h
      · rename_i ci fs hr
        cases hb : (Nat.beq rr 3 && Nat.beq ci 99) with
        | false => rw [hb] at h; cases h
        | true =>
          rw [hb] at h
          simp only [cond_true] at h
          simp only [Bool.and_eq_true] at hb
          have e1 := Nat.eq_of_beq_eq_true hb.1
          have e2 := Nat.eq_of_beq_eq_true hb.2
          subst e1
          subst e2
          split at hq
          · rename_i idx x
            simp only [Bool.and_eq_true, decide_eq_true_eq] at hq
            obtain ⟨e, hq⟩ := hq
            subst e
            exact pg_strf (v := .int 0) X hd (pq_word_ok hq) (fun H hI => ((hI.2.2 3 _ hr).2 (by decide)).2.2.1) (hk _ _ _ _ _ _ h)
          · rename_i idx
            exact pg_strf (v := .ref 4) X hd (pq_word_ok hq) (fun H hI => ((hI.2.2 3 _ hr).2 (by decide)).2.2.2) (hk _ _ _ _ _ _ h)
          · cases hq
      · cases h
    · cases h
  | 32, hq, h =>
    replace hq := base (by decide) hq
    obtain ⟨hd, hnx, hq⟩ := hq
    try simp only [pq_eo] at hq
    subst hnx
    have hq := of_decide_eq_true hq
    subst hq
    simp only [pq_do] at h
    split at h
    · cases hc : Nat.beq (Value.category _) 1 with
      | true =>
        rw [hc] at h
        exact pg_pop X hd (Nat.eq_of_beq_eq_true hc) (hk _ _ _ _ _ _ h)
      | false =>
        rw [hc] at h
        cases h
    · cases h
  | n + 33, hq, h => cases h
end PQ5
end
section
theorem pq_exec_ok {p : Program} {l : Launch} {e : Env} {s : State} {m : MethodId} {args : Array Value} {below : List Frame} {meth : Method} {c : Code} {D : va_G} {ad : Nat → Nat} {h0 : Nat} {tab : List pq_M} {M : pq_M} {d : Nat} {R : Room} {Q : State → Prop} {call : Nat → List Value → pq_W → Option pq_R} {r : Option Value} {w' : pq_W} (hok : ∀ M ∈ tab, pq_mok tab M) (hM : (pq_cd M).all (fun b => b.2.all (pq_eok tab M)) = true)
    (hcall : ∀ (j : Nat) (as : List Value) (w : pq_W) (r : Option Value) (w' : pq_W), call j as w = some (r, w') → ∃ M, tab[j]? = some M ∧ pq_rcv M as w = true ∧ Met l (pq_y M) (pq_ws M) (pq_rm d (pq_lm M)) (pq_Pc ad D as w) (pq_Qc ad D h0 r w') (pq_lm M).1 (pq_lm M).2 (fun q => h0 ≤ q))
    (hR : d + 1 ≤ R.frames ∧ 80 * d + 120 ≤ R.locals ∧ (pq_lm M).1 ≤ R.cells ∧ (pq_lm M).2 ≤ R.slots) (hret : ∀ (pc : Nat) (ls : pq_L) (st : List Value) (cs ss : Nat) (i : Instr), pq_ends (pq_by M) (pq_rt M) r pc st i → cs ≤ (pq_lm M).1 → ss ≤ (pq_lm M).2 → pq_G p l e R s m args below meth c Q (pq_mL M) D ad h0 pc ls st w' cs ss)
    (X : pq_X p s m args meth c (pq_by M) (pq_y M).cls (pq_mL M) (pq_rt M) (pq_y M).name D ad h0) : ∀ (f pc : Nat) (ls : pq_L) (st : List Value) (w : pq_W) (cs ss : Nat), pq_exec call (pq_lim tab) (pq_lm M) (pq_rt M) (pq_cd M) f pc ls st w cs ss = some (r, w') →
      pq_G p l e R s m args below meth c Q (pq_mL M) D ad h0 pc ls st w cs ss := by
  intro f
  induction f with
  | zero =>
    intro pc ls st w cs ss h
    cases h
  | succ f ih =>
    intro pc ls st w cs ss h
    rw [pq_exec_s] at h
    split at h
    · rename_i q hq
      obtain ⟨⟨b, hb, hq1⟩, hq2⟩ := pq_look_mem _ _ _ hq
      have hm2 := List.all_eq_true.mp (List.all_eq_true.mp hM b hb) q hq1
      subst hq2
      exact pq_do_ok hok hcall hR hret X _ (fun pc ls st w cs ss hh => ih pc ls st w cs ss hh) q ls st w cs ss hm2 h
    · cases h
theorem pq_args_v (ad : Nat → Nat) : ∀ (as : List Value) (i : Nat), lv_args i (as.map (pq_v ad)) = pq_ls ad (lv_args i as)
  | [], i => rfl
  | v :: as, i => by
    show (i, pq_v ad v) :: lv_args (if (pq_v ad v).category = 2 then i + 2 else i + 1) (as.map (pq_v ad)) = (i, pq_v ad v) :: pq_ls ad (lv_args (if v.category = 2 then i + 2 else i + 1) as)
    rw [pq_v_cat, pq_args_v ad as]
theorem pq_sl_len : ∀ as : List Value, (lg_sl as).length = pq_sum as
  | [] => rfl
  | v :: as => by
    have ih := pq_sl_len as
    unfold lg_sl at ih ⊢
    unfold pq_sum at ih ⊢
    rw [List.flatMap_cons, List.length_append, ih, List.map_cons, List.sum_cons]
    rcases lv_cat v with h | h
    · rw [if_neg (by omega), h]; rfl
    · rw [if_pos h, h]; rfl
/-- THE PURE MACHINE IS RIGHT: what it says of a method's run is the method's contract -/
theorem pq_met {tab : List pq_M} (hok : ∀ M ∈ tab, pq_mok tab M) (F : Nat) (l : Launch) (ad : Nat → Nat) (D : va_G) (h0 : Nat) (hj : ∀ i j, pq_E ≤ i → ad i = ad j → i = j) (ho : ∀ i, pq_E ≤ i → h0 ≤ ad i) : ∀ (d j : Nat) (as : List Value) (w : pq_W) (r : Option Value) (w' : pq_W), pq_run tab F d j as w = some (r, w') →
    ∃ M, tab[j]? = some M ∧ pq_rcv M as w = true ∧ Met l (pq_y M) (pq_ws M) (pq_rm d (pq_lm M)) (pq_Pc ad D as w) (pq_Qc ad D h0 r w') (pq_lm M).1 (pq_lm M).2 (fun q => h0 ≤ q) := by
  intro d
  induction d with
  | zero =>
    intro j as w r w' h
    cases h
  | succ d ih =>
    intro j as w r w' h
    have h : (match tab[j]? with
      | some M => bif Nat.ble (pq_sum as) (pq_mL M) && pq_rcv M as w then pq_exec (pq_run tab F d) (pq_lim tab) (pq_lm M) (pq_rt M) (pq_cd M) F 0 (lv_args 0 as) [] w 0 0 else none
      | none => none) = some (r, w') := h
    split at h
    · rename_i M hM
      refine ⟨M, hM, ?_⟩
      cases hc : (Nat.ble (pq_sum as) (pq_mL M) && pq_rcv M as w) with
      | false =>
        rw [hc] at h
        cases h
      | true =>
        rw [hc] at h
        simp only [cond_true] at h
        simp only [Bool.and_eq_true] at hc
        refine ⟨hc.2, ?_⟩
        have hMm := List.mem_of_getElem? hM
        have hmm := hok M hMm
        have hmf := hmm.1
        refine Met.ofW (cc := pq_by M) (maxL := pq_mL M) (ret := pq_rt M) hmf.2.2.1 rfl ?_
        intro p e s m args below meth c s₁ B hml hv
        obtain ⟨rfl, hI, hK, hN⟩ := hv
        have hts := atoms_spec (ws := pq_ws M) B.pre
        have X : pq_X p s m _ meth c (pq_by M) (pq_y M).cls (pq_mL M) (pq_rt M) (pq_y M).name D ad h0 := ⟨B.exec, B.bytes, hml, findClass_of_methodNamed B.named, fun w hw => hts w (List.mem_cons_of_mem _ hw), hN, hK, B.returns, B.notSynchronized, (name_of_methodNamed B.named B.method).1, hj, ho⟩
        rw [lg_entry_eq]
        have hl := lv_entry (as.map (pq_v ad)) (n := pq_mL M) (by rw [pq_sl_len, show pq_sum (as.map (pq_v ad)) = pq_sum as from pq_sum_v ad as]; exact Nat.le_of_ble_eq_true hc.1)
        rw [pq_args_v] at hl
        exact pq_exec_ok (d := d) hok hmm.2 ih ⟨Nat.le_refl _, show 80 * d + 120 ≤ 80 * (d + 1) + 40 by omega, Nat.le_refl _, Nat.le_refl _⟩ (fun pc ls st cs ss i he h1 h2 => by
          rcases he with ⟨a1, rfl, x, rfl, rfl, a2⟩ | ⟨a1, rfl, x, rfl, rfl, a2⟩ | ⟨a1, rfl, rfl, rfl, a2⟩
          · exact pg_iret X a1 a2 h1 h2
          · exact pg_lret X a1 a2 h1 h2
          · exact pg_vret X a1 a2 h1 h2) X F 0 (lv_args 0 as) [] w 0 0 h s.heap [] _ hl hI va_S.rf
    · cases h
end
